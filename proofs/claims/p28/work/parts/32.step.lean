theorem dX12_readStep_286 : decode cX12_readStep 286 = .ok (.aload_n 0, 1) := by decide +kernel
theorem dX12_readStep_287 : decode cX12_readStep 287 = .ok (.getfield 67, 3) := by decide +kernel
theorem dX12_readStep_290 : decode cX12_readStep 290 = .ok (.iload_n 2, 1) := by decide +kernel
theorem dX12_readStep_291 : decode cX12_readStep 291 = .ok (.lload 4, 2) := by decide +kernel
theorem dX12_readStep_293 : decode cX12_readStep 293 = .ok (.lastore, 1) := by decide +kernel
theorem dX12_readStep_294 : decode cX12_readStep 294 = .ok (.aload_n 0, 1) := by decide +kernel
theorem dX12_readStep_295 : decode cX12_readStep 295 = .ok (.getfield 24, 3) := by decide +kernel
theorem dX12_readStep_298 : decode cX12_readStep 298 = .ok (.aload_n 0, 1) := by decide +kernel
theorem dX12_readStep_299 : decode cX12_readStep 299 = .ok (.getfield 243, 3) := by decide +kernel
theorem dX12_readStep_302 : decode cX12_readStep 302 = .ok (.dup2, 1) := by decide +kernel
theorem dX12_readStep_303 : decode cX12_readStep 303 = .ok (.iaload, 1) := by decide +kernel
theorem dX12_readStep_304 : decode cX12_readStep 304 = .ok (.iconst 1, 1) := by decide +kernel
theorem dX12_readStep_305 : decode cX12_readStep 305 = .ok (.iadd, 1) := by decide +kernel
theorem dX12_readStep_306 : decode cX12_readStep 306 = .ok (.iastore, 1) := by decide +kernel
theorem dX12_readStep_307 : decode cX12_readStep 307 = .ok (.return_, 1) := by decide +kernel
theorem dX12_readStep_240 : decode cX12_readStep 240 = .ok (.aload_n 0, 1) := by decide +kernel
theorem dX12_readStep_241 : decode cX12_readStep 241 = .ok (.invokevirtual 224, 3) := by decide +kernel
theorem dX12_readStep_244 : decode cX12_readStep 244 = .ok (.ifCond .ne 4, 3) := by decide +kernel
theorem dX12_readStep_248 : decode cX12_readStep 248 = .ok (.aload_n 0, 1) := by decide +kernel
theorem dX12_readStep_249 : decode cX12_readStep 249 = .ok (.iload_n 2, 1) := by decide +kernel
theorem dX12_readStep_250 : decode cX12_readStep 250 = .ok (.invokevirtual 307, 3) := by decide +kernel
theorem dX12_readStep_253 : decode cX12_readStep 253 = .ok (.aload_n 0, 1) := by decide +kernel
theorem dX12_readStep_254 : decode cX12_readStep 254 = .ok (.getfield 70, 3) := by decide +kernel
theorem dX12_readStep_257 : decode cX12_readStep 257 = .ok (.iload_n 2, 1) := by decide +kernel
theorem dX12_readStep_258 : decode cX12_readStep 258 = .ok (.laload, 1) := by decide +kernel
theorem dX12_readStep_259 : decode cX12_readStep 259 = .ok (.ldc2_w 310, 3) := by decide +kernel
theorem dX12_readStep_262 : decode cX12_readStep 262 = .ok (.lcmp, 1) := by decide +kernel
theorem dX12_readStep_263 : decode cX12_readStep 263 = .ok (.ifCond .lt 16, 3) := by decide +kernel
theorem dX12_readStep_279 : decode cX12_readStep 279 = .ok (.aload_n 0, 1) := by decide +kernel
theorem dX12_readStep_280 : decode cX12_readStep 280 = .ok (.bipush 7, 2) := by decide +kernel
theorem dX12_readStep_282 : decode cX12_readStep 282 = .ok (.iload_n 3, 1) := by decide +kernel
theorem dX12_readStep_283 : decode cX12_readStep 283 = .ok (.invokevirtual 220, 3) := by decide +kernel
theorem dX12_readStep_266 : decode cX12_readStep 266 = .ok (.aload_n 0, 1) := by decide +kernel
theorem dX12_readStep_267 : decode cX12_readStep 267 = .ok (.getfield 73, 3) := by decide +kernel
theorem dX12_readStep_270 : decode cX12_readStep 270 = .ok (.iload_n 2, 1) := by decide +kernel
theorem dX12_readStep_271 : decode cX12_readStep 271 = .ok (.laload, 1) := by decide +kernel
theorem dX12_readStep_272 : decode cX12_readStep 272 = .ok (.ldc2_w 312, 3) := by decide +kernel
theorem dX12_readStep_275 : decode cX12_readStep 275 = .ok (.lcmp, 1) := by decide +kernel
theorem dX12_readStep_276 : decode cX12_readStep 276 = .ok (.ifCond .le 10, 3) := by decide +kernel
theorem dX12_readStep_247 : decode cX12_readStep 247 = .ok (.return_, 1) := by decide +kernel
theorem dX12_readStep_192 : decode cX12_readStep 192 = .ok (.iload_n 1, 1) := by decide +kernel
theorem dX12_readStep_193 : decode cX12_readStep 193 = .ok (.bipush 7, 2) := by decide +kernel
theorem dX12_readStep_195 : decode cX12_readStep 195 = .ok (.if_icmp .ne 45, 3) := by decide +kernel
theorem dX12_readStep_198 : decode cX12_readStep 198 = .ok (.aload_n 0, 1) := by decide +kernel
theorem dX12_readStep_199 : decode cX12_readStep 199 = .ok (.aload_n 0, 1) := by decide +kernel
theorem dX12_readStep_200 : decode cX12_readStep 200 = .ok (.ldc2_w 175, 3) := by decide +kernel
theorem dX12_readStep_203 : decode cX12_readStep 203 = .ok (.invokevirtual 261, 3) := by decide +kernel
theorem dX12_readStep_206 : decode cX12_readStep 206 = .ok (.invokevirtual 278, 3) := by decide +kernel
theorem dX12_readStep_209 : decode cX12_readStep 209 = .ok (.aload_n 0, 1) := by decide +kernel
theorem dX12_readStep_210 : decode cX12_readStep 210 = .ok (.getfield 48, 3) := by decide +kernel
theorem dX12_readStep_213 : decode cX12_readStep 213 = .ok (.iload_n 2, 1) := by decide +kernel
theorem dX12_readStep_214 : decode cX12_readStep 214 = .ok (.aload_n 0, 1) := by decide +kernel
theorem dX12_readStep_215 : decode cX12_readStep 215 = .ok (.invokevirtual 304, 3) := by decide +kernel
theorem dX12_readStep_218 : decode cX12_readStep 218 = .ok (.iastore, 1) := by decide +kernel
theorem dX12_readStep_219 : decode cX12_readStep 219 = .ok (.aload_n 0, 1) := by decide +kernel
theorem dX12_readStep_220 : decode cX12_readStep 220 = .ok (.aload_n 0, 1) := by decide +kernel
theorem dX12_readStep_221 : decode cX12_readStep 221 = .ok (.ldc2_w 177, 3) := by decide +kernel
theorem dX12_readStep_224 : decode cX12_readStep 224 = .ok (.invokevirtual 261, 3) := by decide +kernel
theorem dX12_readStep_227 : decode cX12_readStep 227 = .ok (.invokevirtual 278, 3) := by decide +kernel
theorem dX12_readStep_230 : decode cX12_readStep 230 = .ok (.aload_n 0, 1) := by decide +kernel
theorem dX12_readStep_231 : decode cX12_readStep 231 = .ok (.getfield 51, 3) := by decide +kernel
theorem dX12_readStep_234 : decode cX12_readStep 234 = .ok (.iload_n 2, 1) := by decide +kernel
theorem dX12_readStep_235 : decode cX12_readStep 235 = .ok (.aload_n 0, 1) := by decide +kernel
theorem dX12_readStep_236 : decode cX12_readStep 236 = .ok (.invokevirtual 304, 3) := by decide +kernel
theorem dX12_readStep_239 : decode cX12_readStep 239 = .ok (.iastore, 1) := by decide +kernel
theorem dX12_readStep_138 : decode cX12_readStep 138 = .ok (.iload_n 1, 1) := by decide +kernel
theorem dX12_readStep_139 : decode cX12_readStep 139 = .ok (.iconst 5, 1) := by decide +kernel
theorem dX12_readStep_140 : decode cX12_readStep 140 = .ok (.if_icmp .ne 52, 3) := by decide +kernel
theorem dX12_readStep_143 : decode cX12_readStep 143 = .ok (.aload_n 0, 1) := by decide +kernel
theorem dX12_readStep_144 : decode cX12_readStep 144 = .ok (.aload_n 0, 1) := by decide +kernel
theorem dX12_readStep_145 : decode cX12_readStep 145 = .ok (.ldc2_w 165, 3) := by decide +kernel
theorem dX12_readStep_148 : decode cX12_readStep 148 = .ok (.invokevirtual 261, 3) := by decide +kernel
theorem dX12_readStep_151 : decode cX12_readStep 151 = .ok (.invokevirtual 278, 3) := by decide +kernel
theorem dX12_readStep_154 : decode cX12_readStep 154 = .ok (.aload_n 0, 1) := by decide +kernel
theorem dX12_readStep_155 : decode cX12_readStep 155 = .ok (.getfield 45, 3) := by decide +kernel
theorem dX12_readStep_158 : decode cX12_readStep 158 = .ok (.iload_n 2, 1) := by decide +kernel
theorem dX12_readStep_159 : decode cX12_readStep 159 = .ok (.aload_n 0, 1) := by decide +kernel
theorem dX12_readStep_160 : decode cX12_readStep 160 = .ok (.bipush (-99), 2) := by decide +kernel
theorem dX12_readStep_162 : decode cX12_readStep 162 = .ok (.bipush 99, 2) := by decide +kernel
theorem dX12_readStep_164 : decode cX12_readStep 164 = .ok (.invokevirtual 295, 3) := by decide +kernel
theorem dX12_readStep_167 : decode cX12_readStep 167 = .ok (.iastore, 1) := by decide +kernel
theorem dX12_readStep_168 : decode cX12_readStep 168 = .ok (.aload_n 0, 1) := by decide +kernel
theorem dX12_readStep_169 : decode cX12_readStep 169 = .ok (.aload_n 0, 1) := by decide +kernel
theorem dX12_readStep_170 : decode cX12_readStep 170 = .ok (.ldc2_w 167, 3) := by decide +kernel
theorem dX12_readStep_173 : decode cX12_readStep 173 = .ok (.invokevirtual 261, 3) := by decide +kernel
theorem dX12_readStep_176 : decode cX12_readStep 176 = .ok (.invokevirtual 278, 3) := by decide +kernel
theorem dX12_readStep_179 : decode cX12_readStep 179 = .ok (.aload_n 0, 1) := by decide +kernel
theorem dX12_readStep_180 : decode cX12_readStep 180 = .ok (.getfield 48, 3) := by decide +kernel
theorem dX12_readStep_183 : decode cX12_readStep 183 = .ok (.iload_n 2, 1) := by decide +kernel
theorem dX12_readStep_184 : decode cX12_readStep 184 = .ok (.aload_n 0, 1) := by decide +kernel
theorem dX12_readStep_185 : decode cX12_readStep 185 = .ok (.iconst 1, 1) := by decide +kernel
theorem dX12_readStep_186 : decode cX12_readStep 186 = .ok (.bipush 99, 2) := by decide +kernel
theorem dX12_readStep_188 : decode cX12_readStep 188 = .ok (.invokevirtual 291, 3) := by decide +kernel
theorem dX12_readStep_191 : decode cX12_readStep 191 = .ok (.iastore, 1) := by decide +kernel
theorem dX12_readStep_118 : decode cX12_readStep 118 = .ok (.iload_n 1, 1) := by decide +kernel
theorem dX12_readStep_119 : decode cX12_readStep 119 = .ok (.iconst 2, 1) := by decide +kernel
theorem dX12_readStep_120 : decode cX12_readStep 120 = .ok (.if_icmp .lt 18, 3) := by decide +kernel
theorem dX12_readStep_123 : decode cX12_readStep 123 = .ok (.iload_n 1, 1) := by decide +kernel
theorem dX12_readStep_124 : decode cX12_readStep 124 = .ok (.iconst 5, 1) := by decide +kernel
theorem dX12_readStep_125 : decode cX12_readStep 125 = .ok (.if_icmp .eq 13, 3) := by decide +kernel
theorem dX12_readStep_128 : decode cX12_readStep 128 = .ok (.aload_n 0, 1) := by decide +kernel
theorem dX12_readStep_129 : decode cX12_readStep 129 = .ok (.getfield 45, 3) := by decide +kernel
theorem dX12_readStep_132 : decode cX12_readStep 132 = .ok (.iload_n 2, 1) := by decide +kernel
theorem dX12_readStep_133 : decode cX12_readStep 133 = .ok (.aload_n 0, 1) := by decide +kernel
theorem dX12_readStep_134 : decode cX12_readStep 134 = .ok (.invokevirtual 304, 3) := by decide +kernel
theorem dX12_readStep_137 : decode cX12_readStep 137 = .ok (.iastore, 1) := by decide +kernel
theorem dX12_readStep_101 : decode cX12_readStep 101 = .ok (.iload_n 1, 1) := by decide +kernel
theorem dX12_readStep_102 : decode cX12_readStep 102 = .ok (.bipush 6, 2) := by decide +kernel
theorem dX12_readStep_104 : decode cX12_readStep 104 = .ok (.if_icmp .ne 14, 3) := by decide +kernel
theorem dX12_readStep_107 : decode cX12_readStep 107 = .ok (.aload_n 0, 1) := by decide +kernel
theorem dX12_readStep_108 : decode cX12_readStep 108 = .ok (.aload_n 0, 1) := by decide +kernel
theorem dX12_readStep_109 : decode cX12_readStep 109 = .ok (.ldc2_w 171, 3) := by decide +kernel
theorem dX12_readStep_112 : decode cX12_readStep 112 = .ok (.invokevirtual 261, 3) := by decide +kernel
theorem dX12_readStep_115 : decode cX12_readStep 115 = .ok (.invokevirtual 278, 3) := by decide +kernel
theorem dX12_readStep_73 : decode cX12_readStep 73 = .ok (.aload_n 0, 1) := by decide +kernel
theorem dX12_readStep_74 : decode cX12_readStep 74 = .ok (.getfield 42, 3) := by decide +kernel
theorem dX12_readStep_77 : decode cX12_readStep 77 = .ok (.iload_n 2, 1) := by decide +kernel
theorem dX12_readStep_78 : decode cX12_readStep 78 = .ok (.iload_n 1, 1) := by decide +kernel
theorem dX12_readStep_79 : decode cX12_readStep 79 = .ok (.iconst 1, 1) := by decide +kernel
theorem dX12_readStep_80 : decode cX12_readStep 80 = .ok (.if_icmp .le 9, 3) := by decide +kernel
theorem dX12_readStep_89 : decode cX12_readStep 89 = .ok (.aload_n 0, 1) := by decide +kernel
theorem dX12_readStep_90 : decode cX12_readStep 90 = .ok (.invokevirtual 301, 3) := by decide +kernel
theorem dX12_readStep_93 : decode cX12_readStep 93 = .ok (.goto 7, 3) := by decide +kernel
theorem dX12_readStep_100 : decode cX12_readStep 100 = .ok (.iastore, 1) := by decide +kernel
theorem dX12_readStep_83 : decode cX12_readStep 83 = .ok (.iload_n 1, 1) := by decide +kernel
theorem dX12_readStep_84 : decode cX12_readStep 84 = .ok (.bipush 6, 2) := by decide +kernel
theorem dX12_readStep_86 : decode cX12_readStep 86 = .ok (.if_icmp .ne 10, 3) := by decide +kernel
theorem dX12_readStep_96 : decode cX12_readStep 96 = .ok (.aload_n 0, 1) := by decide +kernel
theorem dX12_readStep_97 : decode cX12_readStep 97 = .ok (.invokevirtual 304, 3) := by decide +kernel
theorem dX12_readStep_50 : decode cX12_readStep 50 = .ok (.aload_n 0, 1) := by decide +kernel
theorem dX12_readStep_51 : decode cX12_readStep 51 = .ok (.getfield 39, 3) := by decide +kernel
theorem dX12_readStep_54 : decode cX12_readStep 54 = .ok (.iload_n 2, 1) := by decide +kernel
theorem dX12_readStep_55 : decode cX12_readStep 55 = .ok (.iload_n 1, 1) := by decide +kernel
theorem dX12_readStep_56 : decode cX12_readStep 56 = .ok (.iastore, 1) := by decide +kernel
theorem dX12_readStep_57 : decode cX12_readStep 57 = .ok (.iload_n 1, 1) := by decide +kernel
theorem dX12_readStep_58 : decode cX12_readStep 58 = .ok (.iconst 1, 1) := by decide +kernel
theorem dX12_readStep_59 : decode cX12_readStep 59 = .ok (.if_icmp .gt 14, 3) := by decide +kernel
theorem dX12_readStep_62 : decode cX12_readStep 62 = .ok (.aload_n 0, 1) := by decide +kernel
theorem dX12_readStep_63 : decode cX12_readStep 63 = .ok (.aload_n 0, 1) := by decide +kernel
theorem dX12_readStep_64 : decode cX12_readStep 64 = .ok (.ldc2_w 153, 3) := by decide +kernel
theorem dX12_readStep_67 : decode cX12_readStep 67 = .ok (.invokevirtual 261, 3) := by decide +kernel
theorem dX12_readStep_70 : decode cX12_readStep 70 = .ok (.invokevirtual 278, 3) := by decide +kernel
theorem dX12_readStep_0 : decode cX12_readStep 0 = .ok (.bipush 12, 2) := by decide +kernel
theorem dX12_readStep_2 : decode cX12_readStep 2 = .ok (.aload_n 0, 1) := by decide +kernel
theorem dX12_readStep_3 : decode cX12_readStep 3 = .ok (.getfield 243, 3) := by decide +kernel
theorem dX12_readStep_6 : decode cX12_readStep 6 = .ok (.imul, 1) := by decide +kernel
theorem dX12_readStep_7 : decode cX12_readStep 7 = .ok (.aload_n 0, 1) := by decide +kernel
theorem dX12_readStep_8 : decode cX12_readStep 8 = .ok (.getfield 24, 3) := by decide +kernel
theorem dX12_readStep_11 : decode cX12_readStep 11 = .ok (.aload_n 0, 1) := by decide +kernel
theorem dX12_readStep_12 : decode cX12_readStep 12 = .ok (.getfield 243, 3) := by decide +kernel
theorem dX12_readStep_15 : decode cX12_readStep 15 = .ok (.iaload, 1) := by decide +kernel
theorem dX12_readStep_16 : decode cX12_readStep 16 = .ok (.iadd, 1) := by decide +kernel
theorem dX12_readStep_17 : decode cX12_readStep 17 = .ok (.istore_n 2, 1) := by decide +kernel
theorem dX12_readStep_18 : decode cX12_readStep 18 = .ok (.aload_n 0, 1) := by decide +kernel
theorem dX12_readStep_19 : decode cX12_readStep 19 = .ok (.getfield 192, 3) := by decide +kernel
theorem dX12_readStep_22 : decode cX12_readStep 22 = .ok (.istore_n 3, 1) := by decide +kernel
theorem dX12_readStep_23 : decode cX12_readStep 23 = .ok (.aload_n 0, 1) := by decide +kernel
theorem dX12_readStep_24 : decode cX12_readStep 24 = .ok (.invokevirtual 288, 3) := by decide +kernel
theorem dX12_readStep_27 : decode cX12_readStep 27 = .ok (.aload_n 0, 1) := by decide +kernel
theorem dX12_readStep_28 : decode cX12_readStep 28 = .ok (.getfield 206, 3) := by decide +kernel
theorem dX12_readStep_31 : decode cX12_readStep 31 = .ok (.lstore 4, 2) := by decide +kernel
theorem dX12_readStep_33 : decode cX12_readStep 33 = .ok (.aload_n 0, 1) := by decide +kernel
theorem dX12_readStep_34 : decode cX12_readStep 34 = .ok (.aload_n 0, 1) := by decide +kernel
theorem dX12_readStep_35 : decode cX12_readStep 35 = .ok (.getfield 199, 3) := by decide +kernel
theorem dX12_readStep_38 : decode cX12_readStep 38 = .ok (.iconst 2, 1) := by decide +kernel
theorem dX12_readStep_39 : decode cX12_readStep 39 = .ok (.if_icmp .ne 7, 3) := by decide +kernel
theorem dX12_readStep_46 : decode cX12_readStep 46 = .ok (.iconst 0, 1) := by decide +kernel
theorem dX12_readStep_47 : decode cX12_readStep 47 = .ok (.invokevirtual 278, 3) := by decide +kernel
theorem dX12_readStep_42 : decode cX12_readStep 42 = .ok (.iconst 1, 1) := by decide +kernel
theorem dX12_readStep_43 : decode cX12_readStep 43 = .ok (.goto 4, 3) := by decide +kernel
theorem rg_171 : 26 ∈ [6, 7, 8, 9, 10, 4, 5, 17, 18, 19, 20, 21, 27, 28, 26, 12] := by decide
theorem rg_172 : 30 ∉ [6, 7, 8, 9, 10, 4, 5, 17, 18, 19, 20, 21, 27, 28, 26, 12] := by decide
theorem rg_173 : 11 ≤ 12 := by decide
theorem rg_174 : 12 ≤ 22 := by decide
theorem rg_175 : ¬ (17 ≤ 12 ∧ 12 ≤ 16 + 5) := by decide
theorem rg_176 : 12 ∈ [6, 7, 8, 9, 10, 4, 5, 17, 18, 19, 20, 21, 27, 28, 26, 12] := by decide
theorem rg_180 : 11 ≠ 12 := by decide
theorem rg_177 : 11 ≤ 11 := by decide
theorem rg_178 : 11 ≤ 22 := by decide
theorem rg_179 : ¬ (17 ≤ 11 ∧ 11 ≤ 16 + 5) := by decide
theorem rg_184 : 13 ≠ 12 := by decide
theorem rg_181 : 11 ≤ 13 := by decide
theorem rg_182 : 13 ≤ 22 := by decide
theorem rg_183 : ¬ (17 ≤ 13 ∧ 13 ≤ 16 + 5) := by decide
theorem rg_188 : 14 ≠ 12 := by decide
theorem rg_185 : 11 ≤ 14 := by decide
theorem rg_186 : 14 ≤ 22 := by decide
theorem rg_187 : ¬ (17 ≤ 14 ∧ 14 ≤ 16 + 5) := by decide
theorem rg_192 : 15 ≠ 12 := by decide
theorem rg_189 : 11 ≤ 15 := by decide
theorem rg_190 : 15 ≤ 22 := by decide
theorem rg_191 : ¬ (17 ≤ 15 ∧ 15 ≤ 16 + 5) := by decide
theorem rg_196 : 16 ≠ 12 := by decide
theorem rg_193 : 11 ≤ 16 := by decide
theorem rg_194 : 16 ≤ 22 := by decide
theorem rg_195 : ¬ (17 ≤ 16 ∧ 16 ≤ 16 + 5) := by decide
theorem rg_197 : 17 ≠ 12 := by decide
theorem rg_198 : 18 ≠ 12 := by decide
theorem rg_199 : 19 ≠ 12 := by decide
theorem rg_200 : 20 ≠ 12 := by decide
theorem rg_201 : 21 ≠ 12 := by decide
theorem rg_204 : 22 ≠ 12 := by decide
theorem rg_202 : 22 ≤ 22 := by decide
theorem rg_203 : ¬ (17 ≤ 22 ∧ 22 ≤ 16 + 5) := by decide
theorem rg_205 : ∀ q, q ∈ [27, 28] → q ∈ [6, 7, 8, 9, 10, 4, 5, 17, 18, 19, 20, 21, 27, 28, 26, 12] := by decide
theorem rg_206 : 4 ∉ [27, 28] := by decide
theorem rg_207 : 3 ∉ [27, 28] := by decide
theorem rg_208 : 7 ∉ [27, 28] := by decide
theorem rg_209 : 8 ∉ [27, 28] := by decide
theorem rg_210 : ∀ q, q ∈ [4, 5] → q ∈ [6, 7, 8, 9, 10, 4, 5, 17, 18, 19, 20, 21, 27, 28, 26, 12] := by decide
theorem rg_211 : 11 ∉ [27, 28] := by decide
theorem rg_212 : 12 ∉ [27, 28] := by decide
theorem rg_213 : 13 ∉ [27, 28] := by decide
theorem rg_214 : 14 ∉ [27, 28] := by decide
theorem rg_215 : 15 ∉ [27, 28] := by decide
theorem rg_216 : 16 ∉ [27, 28] := by decide
theorem rg_217 : 17 ∉ [27, 28] := by decide
theorem rg_218 : 18 ∉ [27, 28] := by decide
theorem rg_219 : 19 ∉ [27, 28] := by decide
theorem rg_220 : 20 ∉ [27, 28] := by decide
theorem rg_221 : 21 ∉ [27, 28] := by decide
theorem rg_222 : 22 ∉ [27, 28] := by decide
theorem rg_223 : 17 ≤ 16 + 5 := by decide
theorem rg_224 : 18 ≤ 16 + 5 := by decide
theorem rg_225 : 19 ≤ 16 + 5 := by decide
theorem rg_226 : 20 ≤ 16 + 5 := by decide
theorem rg_227 : 21 ≤ 16 + 5 := by decide
theorem rg_228 : ¬ (17 ≤ 11 ∧ 11 ≤ 16 + 4) := by decide
theorem rg_229 : ¬ (17 ≤ 12 ∧ 12 ≤ 16 + 4) := by decide
theorem rg_230 : ¬ (17 ≤ 13 ∧ 13 ≤ 16 + 4) := by decide
theorem rg_231 : ¬ (17 ≤ 14 ∧ 14 ≤ 16 + 4) := by decide
theorem rg_232 : ¬ (17 ≤ 15 ∧ 15 ≤ 16 + 4) := by decide
theorem rg_233 : ¬ (17 ≤ 16 ∧ 16 ≤ 16 + 4) := by decide
theorem rg_234 : 11 ≤ 21 := by decide
theorem rg_235 : 21 ≤ 22 := by decide
theorem rg_236 : ¬ (17 ≤ 21 ∧ 21 ≤ 16 + 4) := by decide
theorem rg_237 : ¬ (17 ≤ 22 ∧ 22 ≤ 16 + 4) := by decide
theorem rg_238 : ∀ q, q ∈ [6, 7, 8, 9, 10, 4, 5] → q ∈ [6, 7, 8, 9, 10, 4, 5, 17, 18, 19, 20, 21, 27, 28, 26, 12] := by decide
theorem rg_239 : 20 ∈ [6, 7, 8, 9, 10, 4, 5, 17, 18, 19, 20, 21, 27, 28, 26, 12] := by decide
theorem rg_240 : 12 ≠ 20 := by decide
theorem rg_241 : 21 ∈ [6, 7, 8, 9, 10, 4, 5, 17, 18, 19, 20, 21, 27, 28, 26, 12] := by decide
theorem rg_243 : 11 ≠ 21 := by decide
theorem rg_242 : 11 ≠ 20 := by decide
theorem rg_244 : 12 ≠ 21 := by decide
theorem rg_246 : 13 ≠ 21 := by decide
theorem rg_245 : 13 ≠ 20 := by decide
theorem rg_248 : 14 ≠ 21 := by decide
theorem rg_247 : 14 ≠ 20 := by decide
theorem rg_250 : 15 ≠ 21 := by decide
theorem rg_249 : 15 ≠ 20 := by decide
theorem rg_252 : 16 ≠ 21 := by decide
theorem rg_251 : 16 ≠ 20 := by decide
theorem rg_254 : 17 ≠ 21 := by decide
theorem rg_253 : 17 ≠ 20 := by decide
theorem rg_256 : 18 ≠ 21 := by decide
theorem rg_255 : 18 ≠ 20 := by decide
theorem rg_258 : 19 ≠ 21 := by decide
theorem rg_257 : 19 ≠ 20 := by decide
theorem rg_259 : 20 ≠ 21 := by decide
theorem rg_260 : 21 ≠ 20 := by decide
theorem rg_262 : 22 ≠ 21 := by decide
theorem rg_261 : 22 ≠ 20 := by decide
theorem rg_263 : ¬ (17 ≤ 11 ∧ 11 ≤ 16 + 3) := by decide
theorem rg_264 : ¬ (17 ≤ 12 ∧ 12 ≤ 16 + 3) := by decide
theorem rg_265 : ¬ (17 ≤ 13 ∧ 13 ≤ 16 + 3) := by decide
theorem rg_266 : ¬ (17 ≤ 14 ∧ 14 ≤ 16 + 3) := by decide
theorem rg_267 : ¬ (17 ≤ 15 ∧ 15 ≤ 16 + 3) := by decide
theorem rg_268 : ¬ (17 ≤ 16 ∧ 16 ≤ 16 + 3) := by decide
theorem rg_269 : 11 ≤ 20 := by decide
theorem rg_270 : 20 ≤ 22 := by decide
theorem rg_271 : ¬ (17 ≤ 20 ∧ 20 ≤ 16 + 3) := by decide
theorem rg_272 : ¬ (17 ≤ 21 ∧ 21 ≤ 16 + 3) := by decide
theorem rg_273 : ¬ (17 ≤ 22 ∧ 22 ≤ 16 + 3) := by decide
theorem rg_274 : 17 ≤ 16 + 4 := by decide
theorem rg_275 : 18 ≤ 16 + 4 := by decide
theorem rg_276 : 19 ≤ 16 + 4 := by decide
theorem rg_277 : 20 ≤ 16 + 4 := by decide
theorem rg_278 : Int32.ofInt (-99) = (-99) := by decide
theorem rg_279 : ((-99) : Int32).toInt = (-99) := by decide
theorem rg_280 : 19 ∈ [6, 7, 8, 9, 10, 4, 5, 17, 18, 19, 20, 21, 27, 28, 26, 12] := by decide
theorem rg_281 : 11 ≠ 19 := by decide
theorem rg_282 : 12 ≠ 19 := by decide
theorem rg_283 : 13 ≠ 19 := by decide
theorem rg_284 : 14 ≠ 19 := by decide
theorem rg_285 : 15 ≠ 19 := by decide
theorem rg_286 : 16 ≠ 19 := by decide
theorem rg_287 : 17 ≠ 19 := by decide
theorem rg_288 : 18 ≠ 19 := by decide
theorem rg_289 : 20 ≠ 19 := by decide
theorem rg_290 : 21 ≠ 19 := by decide
theorem rg_291 : 22 ≠ 19 := by decide
theorem rg_292 : ¬ (17 ≤ 11 ∧ 11 ≤ 16 + 2) := by decide
theorem rg_293 : ¬ (17 ≤ 12 ∧ 12 ≤ 16 + 2) := by decide
theorem rg_294 : ¬ (17 ≤ 13 ∧ 13 ≤ 16 + 2) := by decide
theorem rg_295 : ¬ (17 ≤ 14 ∧ 14 ≤ 16 + 2) := by decide
theorem rg_296 : ¬ (17 ≤ 15 ∧ 15 ≤ 16 + 2) := by decide
theorem rg_297 : ¬ (17 ≤ 16 ∧ 16 ≤ 16 + 2) := by decide
theorem rg_298 : 11 ≤ 19 := by decide
theorem rg_299 : 19 ≤ 22 := by decide
theorem rg_300 : ¬ (17 ≤ 19 ∧ 19 ≤ 16 + 2) := by decide
theorem rg_301 : ¬ (17 ≤ 20 ∧ 20 ≤ 16 + 2) := by decide
theorem rg_302 : ¬ (17 ≤ 21 ∧ 21 ≤ 16 + 2) := by decide
theorem rg_303 : ¬ (17 ≤ 22 ∧ 22 ≤ 16 + 2) := by decide
theorem rg_304 : 17 ≤ 16 + 3 := by decide
theorem rg_305 : 18 ≤ 16 + 3 := by decide
theorem rg_306 : 19 ≤ 16 + 3 := by decide
theorem rg_307 : 17 ≤ 16 + 2 := by decide
theorem rg_308 : 18 ≤ 16 + 2 := by decide
theorem rg_309 : ¬ (17 ≤ 11 ∧ 11 ≤ 16 + 1) := by decide
theorem rg_310 : 18 ∈ [6, 7, 8, 9, 10, 4, 5, 17, 18, 19, 20, 21, 27, 28, 26, 12] := by decide
theorem rg_311 : 11 ≠ 18 := by decide
theorem rg_313 : 12 ≠ 18 := by decide
theorem rg_312 : ¬ (17 ≤ 12 ∧ 12 ≤ 16 + 1) := by decide
theorem rg_315 : 13 ≠ 18 := by decide
theorem rg_314 : ¬ (17 ≤ 13 ∧ 13 ≤ 16 + 1) := by decide
theorem rg_317 : 14 ≠ 18 := by decide
theorem rg_316 : ¬ (17 ≤ 14 ∧ 14 ≤ 16 + 1) := by decide
theorem rg_319 : 15 ≠ 18 := by decide
theorem rg_318 : ¬ (17 ≤ 15 ∧ 15 ≤ 16 + 1) := by decide
theorem rg_321 : 16 ≠ 18 := by decide
theorem rg_320 : ¬ (17 ≤ 16 ∧ 16 ≤ 16 + 1) := by decide
theorem rg_322 : 17 ≠ 18 := by decide
theorem rg_323 : 11 ≤ 18 := by decide
theorem rg_324 : 18 ≤ 22 := by decide
theorem rg_325 : ¬ (17 ≤ 18 ∧ 18 ≤ 16 + 1) := by decide
theorem rg_327 : 19 ≠ 18 := by decide
theorem rg_326 : ¬ (17 ≤ 19 ∧ 19 ≤ 16 + 1) := by decide
theorem rg_329 : 20 ≠ 18 := by decide
theorem rg_328 : ¬ (17 ≤ 20 ∧ 20 ≤ 16 + 1) := by decide
theorem rg_331 : 21 ≠ 18 := by decide
theorem rg_330 : ¬ (17 ≤ 21 ∧ 21 ≤ 16 + 1) := by decide
theorem rg_333 : 22 ≠ 18 := by decide
theorem rg_332 : ¬ (17 ≤ 22 ∧ 22 ≤ 16 + 1) := by decide
theorem rg_334 : 17 ∈ [6, 7, 8, 9, 10, 4, 5, 17, 18, 19, 20, 21, 27, 28, 26, 12] := by decide
theorem rg_336 : 11 ≠ 17 := by decide
theorem rg_335 : ¬ (17 ≤ 11 ∧ 11 ≤ 16 + 0) := by decide
theorem rg_338 : 12 ≠ 17 := by decide
theorem rg_337 : ¬ (17 ≤ 12 ∧ 12 ≤ 16 + 0) := by decide
theorem rg_340 : 13 ≠ 17 := by decide
theorem rg_339 : ¬ (17 ≤ 13 ∧ 13 ≤ 16 + 0) := by decide
theorem rg_342 : 14 ≠ 17 := by decide
theorem rg_341 : ¬ (17 ≤ 14 ∧ 14 ≤ 16 + 0) := by decide
theorem rg_344 : 15 ≠ 17 := by decide
theorem rg_343 : ¬ (17 ≤ 15 ∧ 15 ≤ 16 + 0) := by decide
theorem rg_346 : 16 ≠ 17 := by decide
theorem rg_345 : ¬ (17 ≤ 16 ∧ 16 ≤ 16 + 0) := by decide
theorem rg_347 : 11 ≤ 17 := by decide
theorem rg_348 : 17 ≤ 22 := by decide
theorem rg_349 : ¬ (17 ≤ 17 ∧ 17 ≤ 16 + 0) := by decide
theorem rg_351 : 18 ≠ 17 := by decide
theorem rg_350 : ¬ (17 ≤ 18 ∧ 18 ≤ 16 + 0) := by decide
theorem rg_353 : 19 ≠ 17 := by decide
theorem rg_352 : ¬ (17 ≤ 19 ∧ 19 ≤ 16 + 0) := by decide
theorem rg_355 : 20 ≠ 17 := by decide
theorem rg_354 : ¬ (17 ≤ 20 ∧ 20 ≤ 16 + 0) := by decide
theorem rg_357 : 21 ≠ 17 := by decide
theorem rg_356 : ¬ (17 ≤ 21 ∧ 21 ≤ 16 + 0) := by decide
theorem rg_359 : 22 ≠ 17 := by decide
theorem rg_358 : ¬ (17 ≤ 22 ∧ 22 ≤ 16 + 0) := by decide
theorem rg_360 : 17 ≤ 16 + 1 := by decide
def ow_n_readStep : List Cond := [.fieldLink RX12 67 "NearEnoughModel" "sName" "[J", .fieldLink RX12 24 "NearEnoughModel" "stepMany" "[I", .fieldLink RX12 243 "NearEnoughModel" "rb" "I", .fieldLink RX12 70 "NearEnoughModel" "sLeast" "[J", .constantLong RX12 310 (-1000000000), .fieldLink RX12 73 "NearEnoughModel" "sMost" "[J", .constantLong RX12 312 (1000000000), .constantLong RX12 175 (26982), .fieldLink RX12 48 "NearEnoughModel" "sC" "[I", .constantLong RX12 177 (504363246962), .fieldLink RX12 51 "NearEnoughModel" "sD" "[I", .constantLong RX12 165 (25209), .fieldLink RX12 45 "NearEnoughModel" "sB" "[I", .constantLong RX12 167 (1870030194), .constantLong RX12 171 (482854658917), .fieldLink RX12 42 "NearEnoughModel" "sA" "[I", .fieldLink RX12 39 "NearEnoughModel" "sKind" "[I", .constantLong RX12 153 (28518), .fieldLink RX12 192 "NearEnoughModel" "at" "I", .fieldLink RX12 206 "NearEnoughModel" "name" "J", .fieldLink RX12 199 "NearEnoughModel" "token" "I"]
def vs_n_readStep : List Cond := .code yX12_readStep cX12_readStep 6 none :: (ow_n_readStep ++ (([.methodLink RX12 224 yX12_isGood, .instanceMethod yX12_isGood, .selects RX12 yX12_isGood yX12_isGood, .initialized RX12] : List Cond) ++ (vs_n_isGood ++ (([.methodLink RX12 307 yX12_laySpan, .instanceMethod yX12_laySpan, .selects RX12 yX12_laySpan yX12_laySpan, .initialized RX12] : List Cond) ++ (vs_n_laySpan ++ (([.methodLink RX12 220 yX12_fails, .instanceMethod yX12_fails, .selects RX12 yX12_fails yX12_fails, .initialized RX12] : List Cond) ++ (vs_n_fails ++ (([.methodLink RX12 261 yX12_isWord, .instanceMethod yX12_isWord, .selects RX12 yX12_isWord yX12_isWord, .initialized RX12] : List Cond) ++ (vs_n_isWord ++ (([.methodLink RX12 278 yX12_must, .instanceMethod yX12_must, .selects RX12 yX12_must yX12_must, .initialized RX12] : List Cond) ++ (vs_n_must ++ (([.methodLink RX12 304 yX12_aStep, .instanceMethod yX12_aStep, .selects RX12 yX12_aStep yX12_aStep, .initialized RX12] : List Cond) ++ (vs_n_aStep ++ (([.methodLink RX12 295 yX12_signed, .instanceMethod yX12_signed, .selects RX12 yX12_signed yX12_signed, .initialized RX12] : List Cond) ++ (vs_n_signed ++ (([.methodLink RX12 291 yX12_numeral, .instanceMethod yX12_numeral, .selects RX12 yX12_numeral yX12_numeral, .initialized RX12] : List Cond) ++ (vs_n_numeral ++ (([.methodLink RX12 301 yX12_aRow, .instanceMethod yX12_aRow, .selects RX12 yX12_aRow yX12_aRow, .initialized RX12] : List Cond) ++ (vs_n_aRow ++ (([.methodLink RX12 288 yX12_fresh, .instanceMethod yX12_fresh, .selects RX12 yX12_fresh yX12_fresh, .initialized RX12] : List Cond) ++ (vs_n_fresh ++ (wsX120))))))))))))))))))))))
theorem vg_n_readStep : vs_n_readStep.all goodWord = true := by decide +kernel
theorem dd_n_readStep : yX12_readStep.cls = RX12 ∧ yX12_readStep.cls ≠ "java/lang/invoke/MethodHandle" ∧ yX12_readStep.cls ≠ "java/lang/invoke/VarHandle" ∧ (parseMethodDescriptor yX12_readStep.desc).map (fun d => d.parameters.length) = some 1 := by decide +kernel
def rm_n_readStep : Room := { frames := 4, cells := 0, slots := 0, locals := 84 }
theorem gd_n_readStep_224_n_isGood : GoodIn vs_n_readStep (wsV RX12 224 RX12 yX12_isGood vs_n_isGood) := goodIn_app (goodIn_sub (fun w h => (List.mem_cons_of_mem _ (List.mem_append_right _ (List.mem_append_left _ h)))) (by decide +kernel)) (goodIn_sub (fun w h => (List.mem_cons_of_mem _ (List.mem_append_right _ (List.mem_append_right _ (List.mem_append_left _ h))))) vg_n_isGood)
theorem gd_n_readStep_307_n_laySpan : GoodIn vs_n_readStep (wsV RX12 307 RX12 yX12_laySpan vs_n_laySpan) := goodIn_app (goodIn_sub (fun w h => (List.mem_cons_of_mem _ (List.mem_append_right _ (List.mem_append_right _ (List.mem_append_right _ (List.mem_append_left _ h)))))) (by decide +kernel)) (goodIn_sub (fun w h => (List.mem_cons_of_mem _ (List.mem_append_right _ (List.mem_append_right _ (List.mem_append_right _ (List.mem_append_right _ (List.mem_append_left _ h))))))) vg_n_laySpan)
theorem gd_n_readStep_220_n_fails : GoodIn vs_n_readStep (wsV RX12 220 RX12 yX12_fails vs_n_fails) := goodIn_app (goodIn_sub (fun w h => (List.mem_cons_of_mem _ (List.mem_append_right _ (List.mem_append_right _ (List.mem_append_right _ (List.mem_append_right _ (List.mem_append_right _ (List.mem_append_left _ h)))))))) (by decide +kernel)) (goodIn_sub (fun w h => (List.mem_cons_of_mem _ (List.mem_append_right _ (List.mem_append_right _ (List.mem_append_right _ (List.mem_append_right _ (List.mem_append_right _ (List.mem_append_right _ (List.mem_append_left _ h))))))))) vg_n_fails)
theorem gd_n_readStep_261_n_isWord : GoodIn vs_n_readStep (wsV RX12 261 RX12 yX12_isWord vs_n_isWord) := goodIn_app (goodIn_sub (fun w h => (List.mem_cons_of_mem _ (List.mem_append_right _ (List.mem_append_right _ (List.mem_append_right _ (List.mem_append_right _ (List.mem_append_right _ (List.mem_append_right _ (List.mem_append_right _ (List.mem_append_left _ h)))))))))) (by decide +kernel)) (goodIn_sub (fun w h => (List.mem_cons_of_mem _ (List.mem_append_right _ (List.mem_append_right _ (List.mem_append_right _ (List.mem_append_right _ (List.mem_append_right _ (List.mem_append_right _ (List.mem_append_right _ (List.mem_append_right _ (List.mem_append_left _ h))))))))))) vg_n_isWord)
theorem gd_n_readStep_278_n_must : GoodIn vs_n_readStep (wsV RX12 278 RX12 yX12_must vs_n_must) := goodIn_app (goodIn_sub (fun w h => (List.mem_cons_of_mem _ (List.mem_append_right _ (List.mem_append_right _ (List.mem_append_right _ (List.mem_append_right _ (List.mem_append_right _ (List.mem_append_right _ (List.mem_append_right _ (List.mem_append_right _ (List.mem_append_right _ (List.mem_append_left _ h)))))))))))) (by decide +kernel)) (goodIn_sub (fun w h => (List.mem_cons_of_mem _ (List.mem_append_right _ (List.mem_append_right _ (List.mem_append_right _ (List.mem_append_right _ (List.mem_append_right _ (List.mem_append_right _ (List.mem_append_right _ (List.mem_append_right _ (List.mem_append_right _ (List.mem_append_right _ (List.mem_append_left _ h))))))))))))) vg_n_must)
theorem gd_n_readStep_304_n_aStep : GoodIn vs_n_readStep (wsV RX12 304 RX12 yX12_aStep vs_n_aStep) := goodIn_app (goodIn_sub (fun w h => (List.mem_cons_of_mem _ (List.mem_append_right _ (List.mem_append_right _ (List.mem_append_right _ (List.mem_append_right _ (List.mem_append_right _ (List.mem_append_right _ (List.mem_append_right _ (List.mem_append_right _ (List.mem_append_right _ (List.mem_append_right _ (List.mem_append_right _ (List.mem_append_left _ h)))))))))))))) (by decide +kernel)) (goodIn_sub (fun w h => (List.mem_cons_of_mem _ (List.mem_append_right _ (List.mem_append_right _ (List.mem_append_right _ (List.mem_append_right _ (List.mem_append_right _ (List.mem_append_right _ (List.mem_append_right _ (List.mem_append_right _ (List.mem_append_right _ (List.mem_append_right _ (List.mem_append_right _ (List.mem_append_right _ (List.mem_append_left _ h))))))))))))))) vg_n_aStep)
theorem gd_n_readStep_295_n_signed : GoodIn vs_n_readStep (wsV RX12 295 RX12 yX12_signed vs_n_signed) := goodIn_app (goodIn_sub (fun w h => (List.mem_cons_of_mem _ (List.mem_append_right _ (List.mem_append_right _ (List.mem_append_right _ (List.mem_append_right _ (List.mem_append_right _ (List.mem_append_right _ (List.mem_append_right _ (List.mem_append_right _ (List.mem_append_right _ (List.mem_append_right _ (List.mem_append_right _ (List.mem_append_right _ (List.mem_append_right _ (List.mem_append_left _ h)))))))))))))))) (by decide +kernel)) (goodIn_sub (fun w h => (List.mem_cons_of_mem _ (List.mem_append_right _ (List.mem_append_right _ (List.mem_append_right _ (List.mem_append_right _ (List.mem_append_right _ (List.mem_append_right _ (List.mem_append_right _ (List.mem_append_right _ (List.mem_append_right _ (List.mem_append_right _ (List.mem_append_right _ (List.mem_append_right _ (List.mem_append_right _ (List.mem_append_right _ (List.mem_append_left _ h))))))))))))))))) vg_n_signed)
theorem gd_n_readStep_291_n_numeral : GoodIn vs_n_readStep (wsV RX12 291 RX12 yX12_numeral vs_n_numeral) := goodIn_app (goodIn_sub (fun w h => (List.mem_cons_of_mem _ (List.mem_append_right _ (List.mem_append_right _ (List.mem_append_right _ (List.mem_append_right _ (List.mem_append_right _ (List.mem_append_right _ (List.mem_append_right _ (List.mem_append_right _ (List.mem_append_right _ (List.mem_append_right _ (List.mem_append_right _ (List.mem_append_right _ (List.mem_append_right _ (List.mem_append_right _ (List.mem_append_right _ (List.mem_append_left _ h)))))))))))))))))) (by decide +kernel)) (goodIn_sub (fun w h => (List.mem_cons_of_mem _ (List.mem_append_right _ (List.mem_append_right _ (List.mem_append_right _ (List.mem_append_right _ (List.mem_append_right _ (List.mem_append_right _ (List.mem_append_right _ (List.mem_append_right _ (List.mem_append_right _ (List.mem_append_right _ (List.mem_append_right _ (List.mem_append_right _ (List.mem_append_right _ (List.mem_append_right _ (List.mem_append_right _ (List.mem_append_right _ (List.mem_append_left _ h))))))))))))))))))) vg_n_numeral)
theorem gd_n_readStep_301_n_aRow : GoodIn vs_n_readStep (wsV RX12 301 RX12 yX12_aRow vs_n_aRow) := goodIn_app (goodIn_sub (fun w h => (List.mem_cons_of_mem _ (List.mem_append_right _ (List.mem_append_right _ (List.mem_append_right _ (List.mem_append_right _ (List.mem_append_right _ (List.mem_append_right _ (List.mem_append_right _ (List.mem_append_right _ (List.mem_append_right _ (List.mem_append_right _ (List.mem_append_right _ (List.mem_append_right _ (List.mem_append_right _ (List.mem_append_right _ (List.mem_append_right _ (List.mem_append_right _ (List.mem_append_right _ (List.mem_append_left _ h)))))))))))))))))))) (by decide +kernel)) (goodIn_sub (fun w h => (List.mem_cons_of_mem _ (List.mem_append_right _ (List.mem_append_right _ (List.mem_append_right _ (List.mem_append_right _ (List.mem_append_right _ (List.mem_append_right _ (List.mem_append_right _ (List.mem_append_right _ (List.mem_append_right _ (List.mem_append_right _ (List.mem_append_right _ (List.mem_append_right _ (List.mem_append_right _ (List.mem_append_right _ (List.mem_append_right _ (List.mem_append_right _ (List.mem_append_right _ (List.mem_append_right _ (List.mem_append_left _ h))))))))))))))))))))) vg_n_aRow)
theorem gd_n_readStep_288_n_fresh : GoodIn vs_n_readStep (wsV RX12 288 RX12 yX12_fresh vs_n_fresh) := goodIn_app (goodIn_sub (fun w h => (List.mem_cons_of_mem _ (List.mem_append_right _ (List.mem_append_right _ (List.mem_append_right _ (List.mem_append_right _ (List.mem_append_right _ (List.mem_append_right _ (List.mem_append_right _ (List.mem_append_right _ (List.mem_append_right _ (List.mem_append_right _ (List.mem_append_right _ (List.mem_append_right _ (List.mem_append_right _ (List.mem_append_right _ (List.mem_append_right _ (List.mem_append_right _ (List.mem_append_right _ (List.mem_append_right _ (List.mem_append_right _ (List.mem_append_left _ h)))))))))))))))))))))) (by decide +kernel)) (goodIn_sub (fun w h => (List.mem_cons_of_mem _ (List.mem_append_right _ (List.mem_append_right _ (List.mem_append_right _ (List.mem_append_right _ (List.mem_append_right _ (List.mem_append_right _ (List.mem_append_right _ (List.mem_append_right _ (List.mem_append_right _ (List.mem_append_right _ (List.mem_append_right _ (List.mem_append_right _ (List.mem_append_right _ (List.mem_append_right _ (List.mem_append_right _ (List.mem_append_right _ (List.mem_append_right _ (List.mem_append_right _ (List.mem_append_right _ (List.mem_append_right _ (List.mem_append_left _ h))))))))))))))))))))))) vg_n_fresh)
set_option maxHeartbeats 4000000 in
set_option maxRecDepth 100000 in
theorem n_readStep (l : Launch) (dC : Nat → ClassId) (dI : Nat → Nat → Nat) (h : Nat) (ad : Nat → Nat) (cl : Nat → ClassId) (sz : Nat) (σ : MS) (k : Int32) (hI : Inv σ) (hk : 0 ≤ k.toInt ∧ k.toInt ≤ 7) (hsm : (σ.2.1 12 (σ.1 30).toNatClampNeg).toInt ≤ 11) (hes : Es σ) : Met l yX12_readStep vs_n_readStep rm_n_readStep (va_Pc [.ref h, .int k] (wSt dC dI (mW h ad cl σ) (mT cl) sz)) (va_Qv (fun (τ : MS) => Inv τ ∧ eqx [6, 7, 8, 9, 10, 4, 5, 17, 18, 19, 20, 21, 27, 28, 26, 12] τ σ ∧ ((τ.1 4).toInt = 0 → RelP σ (σ.1 30).toNatClampNeg → RelP τ (σ.1 30).toNatClampNeg) ∧ (∀ bk, bk < 2 → bk ≠ (σ.1 30).toNatClampNeg → SameB τ σ bk) ∧ Mo τ σ ∧ Lx τ σ) (fun (τ : MS) => wEn dC dI (va_A (mW h ad cl σ) sz) (mW h ad cl τ) []) (va_A (mW h ad cl σ) sz)) 0 0 (va_A (mW h ad cl σ) sz) := by
  refine Met.ofW (cc := cX12_readStep) (maxL := 6) (ret := none) (by decide) rfl ?_
  intro p e s m args below meth c s₁ B hml hv
  obtain ⟨rfl, hsz, hP, hK, hD0, hE⟩ := hv
  have hx := B.exec
  have hb := B.bytes
  have hr := B.returns
  have hts := atoms_spec (ws := vs_n_readStep) B.pre
  have hown : s.vm.findClass RX12 = some m.cls := findClass_of_methodNamed B.named
  have hlocks := B.notSynchronized
  subst hsz
  have hD := hD0.self (sz := s.heap.size)
  generalize hAe : va_A (mW h ad cl σ) s.heap.size = A at hD ⊢
  have hA : ∀ q : Nat, s.heap.size ≤ q → A q := fun q h => by rw [← hAe]; exact Or.inr h
  have hl := lv_entry ([.ref h, .int k]) (n := 6) (Nat.le_of_ble_eq_true rfl)
  rw [lg_entry_eq]
  generalize (lg_sl ([.ref h, .int k]) ++ List.replicate (6 - (lg_sl ([.ref h, .int k])).length) Slot.unset).toArray = ls at hl ⊢
  have hl : lv_has ls 6 [(0, .ref h), (1, .int k)] := hl
  have ho := fun w (h : w ∈ ow_n_readStep) => hts w (List.mem_cons_of_mem _ (List.mem_append_left _ h))
  have hin12 : ∀ w ∈ u_ws RX12 TX12 59, w ∈ vs_n_readStep := fun w h => (List.mem_cons_of_mem _ (List.mem_append_right _ (List.mem_append_right _ (List.mem_append_right _ (List.mem_append_right _ (List.mem_append_right _ (List.mem_append_right _ (List.mem_append_right _ (List.mem_append_right _ (List.mem_append_right _ (List.mem_append_right _ (List.mem_append_right _ (List.mem_append_right _ (List.mem_append_right _ (List.mem_append_right _ (List.mem_append_right _ (List.mem_append_right _ (List.mem_append_right _ (List.mem_append_right _ (List.mem_append_right _ (List.mem_append_right _ (List.mem_append_right _ h))))))))))))))))))))))
  refine zQ (fun Q hQ => ?_)
  have bn12 : 0 ≤ (σ.2.1 12 (σ.1 30).toNatClampNeg).toInt ∧ (σ.2.1 12 (σ.1 30).toNatClampNeg).toInt ≤ 12 := hI.2 12 _ (cl_lt (n := 2) (hI.1 30).1 (Int.lt_of_le_of_lt (hI.1 30).2 (by decide)))
  have bn11 : 0 ≤ (σ.2.1 11 (σ.1 30).toNatClampNeg).toInt ∧ (σ.2.1 11 (σ.1 30).toNatClampNeg).toInt ≤ 2 := hI.2 11 _ (cl_lt (n := 2) (hI.1 30).1 (Int.lt_of_le_of_lt (hI.1 30).2 (by decide)))
  have brb : 0 ≤ (σ.1 30).toInt ∧ (σ.1 30).toInt ≤ 1 := hI.1 30
  have pt_286 : ∀ (τ : MS) (sx : Int32) (pl : Int32) (ow : Int64) (va : Int32) (vb : Int32) (vc : Int32) (vd : Int32) (H : Heap) (locs : List Loc) (ls : Array Slot), (Inv τ) → (eqx [6, 7, 8, 9, 10, 4, 5, 17, 18, 19, 20, 21, 27, 28, 26, 12] τ σ) → (Mo τ σ) → (Lx τ σ) → (sx.toInt = 12 * (σ.1 30).toInt + (σ.2.1 12 (σ.1 30).toNatClampNeg).toInt) → (∀ p9, 11 ≤ p9 → p9 ≤ 22 → ¬ (17 ≤ p9 ∧ p9 ≤ 16 + 5) → τ.2.1 p9 = σ.2.1 p9) → (τ.2.1 17 = upd (σ.2.1 17) (Int32.toNatClampNeg sx) k) → (τ.2.1 18 = upd (σ.2.1 18) (Int32.toNatClampNeg sx) va) → (τ.2.1 19 = upd (σ.2.1 19) (Int32.toNatClampNeg sx) vb) → (τ.2.1 20 = upd (σ.2.1 20) (Int32.toNatClampNeg sx) vc) → (τ.2.1 21 = upd (σ.2.1 21) (Int32.toNatClampNeg sx) vd) → (When τ (StOk k.toInt va.toInt vb.toInt vc.toInt vd.toInt (σ.2.1 11 (σ.1 30).toNatClampNeg).toInt (σ.2.1 12 (σ.1 30).toNatClampNeg).toInt)) → va_P (dC, dI) vwCl (mW h ad cl τ) H → va_D A (mW h ad cl τ) → va_S A s.heap H locs → lv_has ls 6 [(0, .ref h), (1, .int k), (2, .int sx), (3, .int pl), (4, .long ow)] → W p l e (headSpec vs_n_readStep rm_n_readStep).room s m #[Value.ref h, Value.int k] below meth c H locs 0 0 Q (F0 m 286 ls []) := by
    intro τ sx pl ow va vb vc vd H locs ls hIτ hxτ hmτ hgτ hR hT h17 h18 h19 h20 h21 hw0 hP hD hS hl
    refine lv_aload_n hx hb dX12_readStep_286 rfl (lv_at hl 0 rfl) ?_
    refine va_get (D := (dC, dI)) (ci := 12) (v := .ref (ad 26)) (C := RX12) (T := TX12) (N := 59) hx hb hts hin12 hown hK hP 0 rfl rfl 26 (Nat.le_of_ble_eq_true rfl) (ho (.fieldLink RX12 67 "NearEnoughModel" "sName" "[J") (List.mem_of_getElem? (i := 0) rfl)) (fun _ h9 => h9) rfl dX12_readStep_287 ?_
    refine lv_iload_n hx hb dX12_readStep_290 rfl (lv_at hl 2 rfl) ?_
    refine lv_lload hx hb dX12_readStep_291 (lv_at hl 4 rfl) ?_
    have o1 : 0 ≤ sx.toInt := by omega
    have o2 : sx.toInt < ((24 : Nat) : Int) := by omega
    refine va_last hx hb hK hP hD hS 18 17 rfl rfl (ti_inx o1 o2) dX12_readStep_293 (fun H locs hP hD hS => ?_)
    rw [wS26] at hP hD
    obtain ⟨τ1, eτ1⟩ : ∃ x9 : MS, x9 = sJ τ 26 (vp_updL (τ.2.2.1 26) (Int32.toNatClampNeg sx) ow) := ⟨_, rfl⟩
    have hP : va_P (dC, dI) vwCl (mW h ad cl τ1) H := by rw [eτ1]; exact hP
    have hD : va_D A (mW h ad cl τ1) := by rw [eτ1]; exact hD
    have hIτ1 : Inv τ1 := by rw [eτ1]; exact (Inv.sJ hIτ)
    have Xτ1 : eqx [6, 7, 8, 9, 10, 4, 5, 17, 18, 19, 20, 21, 27, 28, 26, 12] τ1 σ := (eqx.eq eτ1 (eqx.sJ hxτ rg_171))
    have Mτ1 : Mo τ1 σ := Mo.eq eτ1 (fun h9 => hmτ h9)
    have Lτ1 : Lx τ1 σ := Lx.eq eτ1 hgτ
    have W2 : When τ1 (StOk k.toInt va.toInt vb.toInt vc.toInt vd.toInt (σ.2.1 11 (σ.1 30).toNatClampNeg).toInt (σ.2.1 12 (σ.1 30).toNatClampNeg).toInt) := When.mo hw0 (Mo.eq eτ1 (fun h9 => h9))
    refine lv_aload_n hx hb dX12_readStep_294 rfl (lv_at hl 0 rfl) ?_
    refine va_get (D := (dC, dI)) (ci := 12) (v := .ref (ad 12)) (C := RX12) (T := TX12) (N := 59) hx hb hts hin12 hown hK hP 0 rfl rfl 12 (Nat.le_of_ble_eq_true rfl) (ho (.fieldLink RX12 24 "NearEnoughModel" "stepMany" "[I") (List.mem_of_getElem? (i := 1) rfl)) (fun _ h9 => h9) rfl dX12_readStep_295 ?_
    refine lv_aload_n hx hb dX12_readStep_298 rfl (lv_at hl 0 rfl) ?_
    refine va_get (D := (dC, dI)) (ci := 12) (v := .int (τ1.1 30)) (C := RX12) (T := TX12) (N := 59) hx hb hts hin12 hown hK hP 0 rfl rfl 30 (Nat.le_of_ble_eq_true rfl) (ho (.fieldLink RX12 243 "NearEnoughModel" "rb" "I") (List.mem_of_getElem? (i := 2) rfl)) (fun _ h9 => h9) rfl dX12_readStep_299 ?_
    refine zi (v := (σ.1 30)) (show τ1.1 30 = (σ.1 30) from (congrArg (fun x9 : MS => x9.1 30) eτ1).trans ((hxτ 30 rg_172).1)) ?_
    have bb3 : 0 ≤ (σ.1 30).toInt ∧ (σ.1 30).toInt ≤ 1 := by have h9 := hIτ1.1 30; rw [show (τ1.1 30) = (σ.1 30) from (show τ1.1 30 = (σ.1 30) from (congrArg (fun x9 : MS => x9.1 30) eτ1).trans ((hxτ 30 rg_172).1))] at h9; exact h9
    refine lv_dup2_11 hx hb dX12_readStep_302 rfl rfl ?_
    have o3 : 0 ≤ (σ.1 30).toInt := by omega
    have o4 : (σ.1 30).toInt < ((2 : Nat) : Int) := by omega
    refine va_iald hx hb hK hP 4 3 rfl rfl (ti_inx o3 o4) dX12_readStep_303 ?_
    refine lv_topi (fun z4 ez4 => ?_)
    have gz4 : z4.toInt = ((σ.2.1 12) (Int32.toNatClampNeg (σ.1 30))).toInt := congrArg Int32.toInt (ez4.trans (congrFun ((congrArg (fun x9 : MS => x9.2.1 12) eτ1).trans (tJ.trans (hT 12 rg_173 rg_174 rg_175))) (Int32.toNatClampNeg (σ.1 30))))
    have bz4 : 0 ≤ z4.toInt ∧ z4.toInt ≤ 12 := by rw [ez4]; exact (hIτ1.2 12) _ (cl_lt (n := 2) o3 o4)
    refine lv_iconst (v := 1) hx hb dX12_readStep_304 rg_6 ?_
    refine lv_iadd hx hb dX12_readStep_305 ?_
    refine lv_topi (fun z5 ez5 => ?_)
    have o5 : -2147483648 ≤ z4.toInt + 1 := by omega
    have o6 : z4.toInt + 1 ≤ 2147483647 := by omega
    have tz5 : z5.toInt = z4.toInt + 1 := ti_add ez5 rfl rg_18 o5 o6
    refine va_iast hx hb hK hP hD hS 4 3 rfl rfl (ti_inx o3 o4) dX12_readStep_306 (fun H locs hP hD hS => ?_)
    rw [wS12] at hP hD
    obtain ⟨τ6, eτ6⟩ : ∃ x9 : MS, x9 = sA τ1 12 (upd (τ1.2.1 12) (Int32.toNatClampNeg (σ.1 30)) z5) := ⟨_, rfl⟩
    have hP : va_P (dC, dI) vwCl (mW h ad cl τ6) H := by rw [eτ6]; exact hP
    have hD : va_D A (mW h ad cl τ6) := by rw [eτ6]; exact hD
    have o7 : (0 : Int) ≤ (z5 : Int32).toInt := by omega
    have o8 : (z5 : Int32).toInt ≤ 12 := by omega
    have hIτ6 : Inv τ6 := by rw [eτ6]; exact (Inv_sA1 hIτ1 (rgu (hIτ1.2 12) (show (0 : Int) ≤ (z5 : Int32).toInt ∧ (z5 : Int32).toInt ≤ 12 from ⟨o7, o8⟩)))
    have Xτ6 : eqx [6, 7, 8, 9, 10, 4, 5, 17, 18, 19, 20, 21, 27, 28, 26, 12] τ6 σ := (eqx.eq eτ6 (eqx.sA Xτ1 rg_176))
    have Mτ6 : Mo τ6 σ := Mo.eq eτ6 (fun h9 => Mτ1 h9)
    have Lτ6 : Lx τ6 σ := Lx.eq eτ6 Lτ1
    have W7 : When τ6 (StOk k.toInt va.toInt vb.toInt vc.toInt vd.toInt (σ.2.1 11 (σ.1 30).toNatClampNeg).toInt (σ.2.1 12 (σ.1 30).toNatClampNeg).toInt) := When.mo W2 (Mo.eq eτ6 (fun h9 => h9))
    rw [hQ]
    have qq8 : (τ6.1 4).toInt = ((τ.1 4) : Int32).toInt := congrArg Int32.toInt ((show τ6.1 4 = (τ.1 4) from (congrArg (fun x9 : MS => x9.1 4) eτ6).trans (show τ1.1 4 = (τ.1 4) from (congrArg (fun x9 : MS => x9.1 4) eτ1).trans rfl)))
    have C11 : (τ6).2.1 11 = (σ.2.1 11) := ((congrArg (fun x9 : MS => x9.2.1 11) eτ6).trans ((tA rg_180).trans ((congrArg (fun x9 : MS => x9.2.1 11) eτ1).trans (tJ.trans (hT 11 rg_177 rg_178 rg_179)))))
    have C12 : (τ6).2.1 12 = (upd (σ.2.1 12) (Int32.toNatClampNeg (σ.1 30)) z5) := ((congrArg (fun x9 : MS => x9.2.1 12) eτ6).trans (tAe.trans (congrArg (fun f9 => (upd f9 (Int32.toNatClampNeg (σ.1 30)) z5)) ((congrArg (fun x9 : MS => x9.2.1 12) eτ1).trans (tJ.trans (hT 12 rg_173 rg_174 rg_175))))))
    have C13 : (τ6).2.1 13 = (σ.2.1 13) := ((congrArg (fun x9 : MS => x9.2.1 13) eτ6).trans ((tA rg_184).trans ((congrArg (fun x9 : MS => x9.2.1 13) eτ1).trans (tJ.trans (hT 13 rg_181 rg_182 rg_183)))))
    have C14 : (τ6).2.1 14 = (σ.2.1 14) := ((congrArg (fun x9 : MS => x9.2.1 14) eτ6).trans ((tA rg_188).trans ((congrArg (fun x9 : MS => x9.2.1 14) eτ1).trans (tJ.trans (hT 14 rg_185 rg_186 rg_187)))))
    have C15 : (τ6).2.1 15 = (σ.2.1 15) := ((congrArg (fun x9 : MS => x9.2.1 15) eτ6).trans ((tA rg_192).trans ((congrArg (fun x9 : MS => x9.2.1 15) eτ1).trans (tJ.trans (hT 15 rg_189 rg_190 rg_191)))))
    have C16 : (τ6).2.1 16 = (σ.2.1 16) := ((congrArg (fun x9 : MS => x9.2.1 16) eτ6).trans ((tA rg_196).trans ((congrArg (fun x9 : MS => x9.2.1 16) eτ1).trans (tJ.trans (hT 16 rg_193 rg_194 rg_195)))))
    have C17 : (τ6).2.1 17 = (upd (σ.2.1 17) (Int32.toNatClampNeg sx) k) := ((congrArg (fun x9 : MS => x9.2.1 17) eτ6).trans ((tA rg_197).trans ((congrArg (fun x9 : MS => x9.2.1 17) eτ1).trans (tJ.trans h17))))
    have C18 : (τ6).2.1 18 = (upd (σ.2.1 18) (Int32.toNatClampNeg sx) va) := ((congrArg (fun x9 : MS => x9.2.1 18) eτ6).trans ((tA rg_198).trans ((congrArg (fun x9 : MS => x9.2.1 18) eτ1).trans (tJ.trans h18))))
    have C19 : (τ6).2.1 19 = (upd (σ.2.1 19) (Int32.toNatClampNeg sx) vb) := ((congrArg (fun x9 : MS => x9.2.1 19) eτ6).trans ((tA rg_199).trans ((congrArg (fun x9 : MS => x9.2.1 19) eτ1).trans (tJ.trans h19))))
    have C20 : (τ6).2.1 20 = (upd (σ.2.1 20) (Int32.toNatClampNeg sx) vc) := ((congrArg (fun x9 : MS => x9.2.1 20) eτ6).trans ((tA rg_200).trans ((congrArg (fun x9 : MS => x9.2.1 20) eτ1).trans (tJ.trans h20))))
    have C21 : (τ6).2.1 21 = (upd (σ.2.1 21) (Int32.toNatClampNeg sx) vd) := ((congrArg (fun x9 : MS => x9.2.1 21) eτ6).trans ((tA rg_201).trans ((congrArg (fun x9 : MS => x9.2.1 21) eτ1).trans (tJ.trans h21))))
    have C22 : (τ6).2.1 22 = (σ.2.1 22) := ((congrArg (fun x9 : MS => x9.2.1 22) eτ6).trans ((tA rg_204).trans ((congrArg (fun x9 : MS => x9.2.1 22) eτ1).trans (tJ.trans (hT 22 rg_178 rg_202 rg_203)))))
    have o9 : (σ.1 30).toInt ≤ 1 := by omega
    have o10 : 0 ≤ (σ.2.1 12 (σ.1 30).toNatClampNeg).toInt := by omega
    have o11 : (σ.2.1 12 (σ.1 30).toNatClampNeg).toInt ≤ 11 := by omega
    have o12 : sx.toInt = 12 * (σ.1 30).toInt + (σ.2.1 12 (σ.1 30).toNatClampNeg).toInt := by omega
    have o13 : z5.toInt = (σ.2.1 12 (σ.1 30).toNatClampNeg).toInt + 1 := by omega
    have RR := rel_step (n := (σ.2.1 12 (σ.1 30).toNatClampNeg)) hI ⟨o3, o9⟩ rfl o10 o11 o12 C11 C12 C13 (crL C14 C15 C16) (csL C17 C18 C19 C20 C21) C22 o13
    exact W.vret hx hb hr (fun t ht hW => ⟨⟨τ6, rfl, ⟨hIτ6, Xτ6, (fun h9 hr9 => RR.1 hr9 ((W7 h9).cells C17 C18 C19 C20 C21)), RR.2, Mτ6, Lτ6⟩, wEn_of hP (hK.sub [] rfl) hD ht hW⟩, hS.F ht⟩) hS.2.2 dX12_readStep_307
  have pt_240 : ∀ (τ : MS) (sx : Int32) (pl : Int32) (ow : Int64) (va : Int32) (vb : Int32) (vc : Int32) (vd : Int32) (H : Heap) (locs : List Loc) (ls : Array Slot), (Inv τ) → (eqx [6, 7, 8, 9, 10, 4, 5, 17, 18, 19, 20, 21, 27, 28, 26, 12] τ σ) → (Mo τ σ) → (Lx τ σ) → (sx.toInt = 12 * (σ.1 30).toInt + (σ.2.1 12 (σ.1 30).toNatClampNeg).toInt) → (∀ p9, 11 ≤ p9 → p9 ≤ 22 → ¬ (17 ≤ p9 ∧ p9 ≤ 16 + 5) → τ.2.1 p9 = σ.2.1 p9) → (τ.2.1 17 = upd (σ.2.1 17) (Int32.toNatClampNeg sx) k) → (τ.2.1 18 = upd (σ.2.1 18) (Int32.toNatClampNeg sx) va) → (τ.2.1 19 = upd (σ.2.1 19) (Int32.toNatClampNeg sx) vb) → (τ.2.1 20 = upd (σ.2.1 20) (Int32.toNatClampNeg sx) vc) → (τ.2.1 21 = upd (σ.2.1 21) (Int32.toNatClampNeg sx) vd) → (When τ ((k.toInt = 0 ∨ k.toInt = 1 ∨ k.toInt = 6 → 0 ≤ va.toInt ∧ va.toInt < (σ.2.1 11 (σ.1 30).toNatClampNeg).toInt) ∧ (k.toInt ≠ 0 ∧ k.toInt ≠ 1 ∧ k.toInt ≠ 6 → 0 ≤ va.toInt ∧ va.toInt < (σ.2.1 12 (σ.1 30).toNatClampNeg).toInt))) → (When τ (k.toInt = 2 ∨ k.toInt = 3 ∨ k.toInt = 4 ∨ k.toInt = 6 ∨ k.toInt = 7 → 0 ≤ vb.toInt ∧ vb.toInt < (σ.2.1 12 (σ.1 30).toNatClampNeg).toInt)) → (When τ (k.toInt = 5 → -99 ≤ vb.toInt ∧ vb.toInt ≤ 99 ∧ 1 ≤ vc.toInt ∧ vc.toInt ≤ 99)) → (When τ (k.toInt = 7 → 0 ≤ vc.toInt ∧ vc.toInt < (σ.2.1 12 (σ.1 30).toNatClampNeg).toInt ∧ 0 ≤ vd.toInt ∧ vd.toInt < (σ.2.1 12 (σ.1 30).toNatClampNeg).toInt)) → va_P (dC, dI) vwCl (mW h ad cl τ) H → va_D A (mW h ad cl τ) → va_S A s.heap H locs → lv_has ls 6 [(0, .ref h), (1, .int k), (2, .int sx), (3, .int pl), (4, .long ow)] → W p l e (headSpec vs_n_readStep rm_n_readStep).room s m #[Value.ref h, Value.int k] below meth c H locs 0 0 Q (F0 m 240 ls []) := by
    intro τ sx pl ow va vb vc vd H locs ls hIτ hxτ hmτ hgτ hR hT h17 h18 h19 h20 h21 hw0 hw1 hw2 hw3 hP hD hS hl
    refine lv_aload_n hx hb dX12_readStep_240 rfl (lv_at hl 0 rfl) ?_
    refine zy_i (va_runV (As := []) (rest := []) ⟨hx, hb, hml, hown, hts⟩ (n_isGood l dC dI h ad cl H.size τ  hIτ) (cwV 0 hts gd_n_readStep_224_n_isGood rfl rfl rfl dd_n_isGood ⟨Nat.le_of_ble_eq_true rfl, Nat.le_of_ble_eq_true rfl⟩) (preV hP hK hD hE (ci := 12) (q0 := 0) rfl rfl) rfl rfl hl.1 rfl (lv_room (Nat.le_of_ble_eq_true rfl)) dX12_readStep_241 ⟨Nat.le_of_ble_eq_true rfl, Nat.le_of_ble_eq_true rfl⟩) hD hS hA (fun z10 τ9 H locs hq hP hD hS => ?_)
    obtain ⟨rfl, f11⟩ := hq
    refine W.widen (k := 0) (n := 0) (Nat.le_of_ble_eq_true rfl) (Nat.le_of_ble_eq_true rfl) ?_
    refine lv_if_ne (tgt := 248) hx hb dX12_readStep_244 rfl (fun c12 => ?_) (fun c12 => ?_)
    · have tc12 := (show z10.toInt ≠ 0 from ti_ne rfl rg_11 c12)
      refine lv_aload_n hx hb dX12_readStep_248 rfl (lv_at hl 0 rfl) ?_
      refine lv_iload_n hx hb dX12_readStep_249 rfl (lv_at hl 2 rfl) ?_
      have o14 : 0 ≤ sx.toInt := by omega
      have o15 : sx.toInt ≤ 23 := by omega
      have h8 : (τ.1 4).toInt = 0 := by omega
      have K13 : StOk k.toInt va.toInt vb.toInt vc.toInt vd.toInt (σ.2.1 11 (σ.1 30).toNatClampNeg).toInt (σ.2.1 12 (σ.1 30).toNatClampNeg).toInt := by have q0 := hw0 h8; have q1 := hw1 h8; have q2 := hw2 h8; have q3 := hw3 h8; unfold StOk; omega
      have o16 : (σ.2.1 11 (σ.1 30).toNatClampNeg).toInt ≤ 2 := by omega
      have o17 : (σ.2.1 12 (σ.1 30).toNatClampNeg).toInt ≤ 12 := by omega
      refine zy_v (va_runV (As := [.int sx]) (rest := []) ⟨hx, hb, hml, hown, hts⟩ (n_laySpan l dC dI h ad cl H.size τ sx hIτ ⟨o14, o15⟩ ((StOk.up K13 o16 o17).cells h17 h18 h19 h20 h21)) (cwV 1 hts gd_n_readStep_307_n_laySpan rfl rfl rfl dd_n_laySpan ⟨Nat.le_of_ble_eq_true rfl, Nat.le_of_ble_eq_true rfl⟩) (preV hP hK hD hE (ci := 12) (q0 := 0) rfl rfl) rfl rfl hl.1 rfl (lv_room (Nat.le_of_ble_eq_true rfl)) dX12_readStep_250 ⟨Nat.le_of_ble_eq_true rfl, Nat.le_of_ble_eq_true rfl⟩) hD hS hA (fun τ14 H locs hq hP hD hS => ?_)
      obtain ⟨hI16, hx17⟩ := hq
      have Xτ14 : eqx [6, 7, 8, 9, 10, 4, 5, 17, 18, 19, 20, 21, 27, 28, 26, 12] τ14 σ := eqx.tr hx17 hxτ rg_205
      have Mτ14 : Mo τ14 σ := Mo.tr (Mo.of hx17 rg_206) (fun h9 => hmτ h9)
      have Lτ14 : Lx τ14 σ := Lx.tr (Lx.of hx17 (Lx.es hgτ) rg_207 rg_208 rg_209) hgτ
      have W18 : When τ14 ((k.toInt = 0 ∨ k.toInt = 1 ∨ k.toInt = 6 → 0 ≤ va.toInt ∧ va.toInt < (σ.2.1 11 (σ.1 30).toNatClampNeg).toInt) ∧ (k.toInt ≠ 0 ∧ k.toInt ≠ 1 ∧ k.toInt ≠ 6 → 0 ≤ va.toInt ∧ va.toInt < (σ.2.1 12 (σ.1 30).toNatClampNeg).toInt)) := When.mo hw0 (Mo.of hx17 rg_206)
      have W19 : When τ14 (k.toInt = 2 ∨ k.toInt = 3 ∨ k.toInt = 4 ∨ k.toInt = 6 ∨ k.toInt = 7 → 0 ≤ vb.toInt ∧ vb.toInt < (σ.2.1 12 (σ.1 30).toNatClampNeg).toInt) := When.mo hw1 (Mo.of hx17 rg_206)
      have W20 : When τ14 (k.toInt = 5 → -99 ≤ vb.toInt ∧ vb.toInt ≤ 99 ∧ 1 ≤ vc.toInt ∧ vc.toInt ≤ 99) := When.mo hw2 (Mo.of hx17 rg_206)
      have W21 : When τ14 (k.toInt = 7 → 0 ≤ vc.toInt ∧ vc.toInt < (σ.2.1 12 (σ.1 30).toNatClampNeg).toInt ∧ 0 ≤ vd.toInt ∧ vd.toInt < (σ.2.1 12 (σ.1 30).toNatClampNeg).toInt) := When.mo hw3 (Mo.of hx17 rg_206)
      have W22 : When τ14 (StOk k.toInt va.toInt vb.toInt vc.toInt vd.toInt (σ.2.1 11 (σ.1 30).toNatClampNeg).toInt (σ.2.1 12 (σ.1 30).toNatClampNeg).toInt) := When.mo (fun _ => K13) (Mo.of hx17 rg_206)
      refine W.widen (k := 0) (n := 0) (Nat.le_of_ble_eq_true rfl) (Nat.le_of_ble_eq_true rfl) ?_
      refine lv_aload_n hx hb dX12_readStep_253 rfl (lv_at hl 0 rfl) ?_
      refine va_get (D := (dC, dI)) (ci := 12) (v := .ref (ad 27)) (C := RX12) (T := TX12) (N := 59) hx hb hts hin12 hown hK hP 0 rfl rfl 27 (Nat.le_of_ble_eq_true rfl) (ho (.fieldLink RX12 70 "NearEnoughModel" "sLeast" "[J") (List.mem_of_getElem? (i := 3) rfl)) (fun _ h9 => h9) rfl dX12_readStep_254 ?_
      refine lv_iload_n hx hb dX12_readStep_257 rfl (lv_at hl 2 rfl) ?_
      have o18 : sx.toInt < ((24 : Nat) : Int) := by omega
      refine va_lald hx hb hK hP 19 18 rfl rfl (ti_inx o14 o18) dX12_readStep_258 ?_
      refine lv_topl (fun y23 ey23 => ?_)
      refine lv_ldc2 (v := (-1000000000)) hx hb hown (ho (.constantLong RX12 310 (-1000000000)) (List.mem_of_getElem? (i := 4) rfl)) dX12_readStep_259 ?_
      refine W.lcmp hx hb dX12_readStep_262 ?_
      refine lv_topi (fun z24 ez24 => ?_)
      refine lv_if_lt (tgt := 279) hx hb dX12_readStep_263 rfl (fun c25 => ?_) (fun c25 => ?_)
      · have tc25 := (show z24.toInt < 0 from ti_lt rfl rg_11 c25)
        have lc25 : y23 < (-1000000000) := (lg_cmp_lt y23 (-1000000000)).mp (by rw [← ez24]; exact c25)
        refine lv_aload_n hx hb dX12_readStep_279 rfl (lv_at hl 0 rfl) ?_
        refine lv_bipush (v := 7) hx hb dX12_readStep_280 rg_54 ?_
        refine lv_iload_n hx hb dX12_readStep_282 rfl (lv_at hl 3 rfl) ?_
        have kk26 : (7 : Int32).toInt = 7 := rg_77
        have o19 : 0 ≤ (7 : Int32).toInt := by omega
        have o20 : (7 : Int32).toInt ≤ 7 := by omega
        refine zy_v (va_runV (As := [.int 7, .int pl]) (rest := []) ⟨hx, hb, hml, hown, hts⟩ (n_fails l dC dI h ad cl H.size τ14 7 pl hI16 ⟨o19, o20⟩) (cwV 2 hts gd_n_readStep_220_n_fails rfl rfl rfl dd_n_fails ⟨Nat.le_of_ble_eq_true rfl, Nat.le_of_ble_eq_true rfl⟩) (preV hP hK hD hE (ci := 12) (q0 := 0) rfl rfl) rfl rfl hl.1 rfl (lv_room (Nat.le_of_ble_eq_true rfl)) dX12_readStep_283 ⟨Nat.le_of_ble_eq_true rfl, Nat.le_of_ble_eq_true rfl⟩) hD hS hA (fun τ27 H locs hq hP hD hS => ?_)
        obtain ⟨hI29, hx30, f31, mo32⟩ := hq
        have Xτ27 : eqx [6, 7, 8, 9, 10, 4, 5, 17, 18, 19, 20, 21, 27, 28, 26, 12] τ27 σ := eqx.tr hx30 Xτ14 rg_210
        have Mτ27 : Mo τ27 σ := Mo.tr mo32 (fun h9 => Mτ14 h9)
        have Lτ27 : Lx τ27 σ := Lx.tr (Lx.of hx30 (Lx.es Lτ14) rg_47 rg_48 rg_49) Lτ14
        have W33 : When τ27 ((k.toInt = 0 ∨ k.toInt = 1 ∨ k.toInt = 6 → 0 ≤ va.toInt ∧ va.toInt < (σ.2.1 11 (σ.1 30).toNatClampNeg).toInt) ∧ (k.toInt ≠ 0 ∧ k.toInt ≠ 1 ∧ k.toInt ≠ 6 → 0 ≤ va.toInt ∧ va.toInt < (σ.2.1 12 (σ.1 30).toNatClampNeg).toInt)) := When.mo W18 mo32
        have W34 : When τ27 (k.toInt = 2 ∨ k.toInt = 3 ∨ k.toInt = 4 ∨ k.toInt = 6 ∨ k.toInt = 7 → 0 ≤ vb.toInt ∧ vb.toInt < (σ.2.1 12 (σ.1 30).toNatClampNeg).toInt) := When.mo W19 mo32
        have W35 : When τ27 (k.toInt = 5 → -99 ≤ vb.toInt ∧ vb.toInt ≤ 99 ∧ 1 ≤ vc.toInt ∧ vc.toInt ≤ 99) := When.mo W20 mo32
        have W36 : When τ27 (k.toInt = 7 → 0 ≤ vc.toInt ∧ vc.toInt < (σ.2.1 12 (σ.1 30).toNatClampNeg).toInt ∧ 0 ≤ vd.toInt ∧ vd.toInt < (σ.2.1 12 (σ.1 30).toNatClampNeg).toInt) := When.mo W21 mo32
        have W37 : When τ27 (StOk k.toInt va.toInt vb.toInt vc.toInt vd.toInt (σ.2.1 11 (σ.1 30).toNatClampNeg).toInt (σ.2.1 12 (σ.1 30).toNatClampNeg).toInt) := When.mo W22 mo32
        refine W.widen (k := 0) (n := 0) (Nat.le_of_ble_eq_true rfl) (Nat.le_of_ble_eq_true rfl) ?_
        have C11 : (τ27).2.1 11 = (σ.2.1 11) := (((hx30 11 rg_103).2.1).trans (((hx17 11 rg_211).2.1).trans (hT 11 rg_177 rg_178 rg_179)))
        have C12 : (τ27).2.1 12 = (σ.2.1 12) := (((hx30 12 rg_109).2.1).trans (((hx17 12 rg_212).2.1).trans (hT 12 rg_173 rg_174 rg_175)))
        have C13 : (τ27).2.1 13 = (σ.2.1 13) := (((hx30 13 rg_115).2.1).trans (((hx17 13 rg_213).2.1).trans (hT 13 rg_181 rg_182 rg_183)))
        have C14 : (τ27).2.1 14 = (σ.2.1 14) := (((hx30 14 rg_121).2.1).trans (((hx17 14 rg_214).2.1).trans (hT 14 rg_185 rg_186 rg_187)))
        have C15 : (τ27).2.1 15 = (σ.2.1 15) := (((hx30 15 rg_99).2.1).trans (((hx17 15 rg_215).2.1).trans (hT 15 rg_189 rg_190 rg_191)))
        have C16 : (τ27).2.1 16 = (σ.2.1 16) := (((hx30 16 rg_128).2.1).trans (((hx17 16 rg_216).2.1).trans (hT 16 rg_193 rg_194 rg_195)))
        have C17 : (τ27).2.1 17 = (upd (σ.2.1 17) (Int32.toNatClampNeg sx) k) := (((hx30 17 rg_133).2.1).trans (((hx17 17 rg_217).2.1).trans h17))
        have C18 : (τ27).2.1 18 = (upd (σ.2.1 18) (Int32.toNatClampNeg sx) va) := (((hx30 18 rg_139).2.1).trans (((hx17 18 rg_218).2.1).trans h18))
        have C19 : (τ27).2.1 19 = (upd (σ.2.1 19) (Int32.toNatClampNeg sx) vb) := (((hx30 19 rg_145).2.1).trans (((hx17 19 rg_219).2.1).trans h19))
        have C20 : (τ27).2.1 20 = (upd (σ.2.1 20) (Int32.toNatClampNeg sx) vc) := (((hx30 20 rg_151).2.1).trans (((hx17 20 rg_220).2.1).trans h20))
        have C21 : (τ27).2.1 21 = (upd (σ.2.1 21) (Int32.toNatClampNeg sx) vd) := (((hx30 21 rg_157).2.1).trans (((hx17 21 rg_221).2.1).trans h21))
        have C22 : (τ27).2.1 22 = (σ.2.1 22) := (((hx30 22 rg_163).2.1).trans (((hx17 22 rg_222).2.1).trans (hT 22 rg_178 rg_202 rg_203)))
        have o21 : sx.toInt = 12 * (σ.1 30).toInt + (σ.2.1 12 (σ.1 30).toNatClampNeg).toInt := by omega
        exact pt_286 τ27 sx pl ow va vb vc vd _ _ _ hI29 Xτ27 Mτ27 Lτ27 (show sx.toInt = 12 * (σ.1 30).toInt + (σ.2.1 12 (σ.1 30).toNatClampNeg).toInt from o21) (tabL 5 C11 C12 C13 C14 C15 C16 (Or.inl rg_223) (Or.inl rg_224) (Or.inl rg_225) (Or.inl rg_226) (Or.inl rg_227) C22) C17 C18 C19 C20 C21 W37 hP hD hS (lv_sub hl [0, 1, 2, 3, 4] rfl)
      · have tc25 := (show 0 ≤ z24.toInt from ti_nlt rfl rg_11 c25)
        have lc25 : ¬ y23 < (-1000000000) := fun h => c25 (by rw [ez24]; exact (lg_cmp_lt y23 (-1000000000)).mpr h)
        refine lv_aload_n hx hb dX12_readStep_266 rfl (lv_at hl 0 rfl) ?_
        refine va_get (D := (dC, dI)) (ci := 12) (v := .ref (ad 28)) (C := RX12) (T := TX12) (N := 59) hx hb hts hin12 hown hK hP 0 rfl rfl 28 (Nat.le_of_ble_eq_true rfl) (ho (.fieldLink RX12 73 "NearEnoughModel" "sMost" "[J") (List.mem_of_getElem? (i := 5) rfl)) (fun _ h9 => h9) rfl dX12_readStep_267 ?_
        refine lv_iload_n hx hb dX12_readStep_270 rfl (lv_at hl 2 rfl) ?_
        refine va_lald hx hb hK hP 20 19 rfl rfl (ti_inx o14 o18) dX12_readStep_271 ?_
        refine lv_topl (fun y39 ey39 => ?_)
        refine lv_ldc2 (v := (1000000000)) hx hb hown (ho (.constantLong RX12 312 (1000000000)) (List.mem_of_getElem? (i := 6) rfl)) dX12_readStep_272 ?_
        refine W.lcmp hx hb dX12_readStep_275 ?_
        refine lv_topi (fun z40 ez40 => ?_)
        refine lv_if_le (tgt := 286) hx hb dX12_readStep_276 rfl (fun c41 => ?_) (fun c41 => ?_)
        · have tc41 := (show z40.toInt ≤ 0 from ti_le rfl rg_11 c41)
          have lc41 : y39 ≤ 1000000000 := (lg_cmp_le y39 1000000000).mp (by rw [← ez40]; exact c41)
          have C11 : (τ14).2.1 11 = (σ.2.1 11) := (((hx17 11 rg_211).2.1).trans (hT 11 rg_177 rg_178 rg_179))
          have C12 : (τ14).2.1 12 = (σ.2.1 12) := (((hx17 12 rg_212).2.1).trans (hT 12 rg_173 rg_174 rg_175))
          have C13 : (τ14).2.1 13 = (σ.2.1 13) := (((hx17 13 rg_213).2.1).trans (hT 13 rg_181 rg_182 rg_183))
          have C14 : (τ14).2.1 14 = (σ.2.1 14) := (((hx17 14 rg_214).2.1).trans (hT 14 rg_185 rg_186 rg_187))
          have C15 : (τ14).2.1 15 = (σ.2.1 15) := (((hx17 15 rg_215).2.1).trans (hT 15 rg_189 rg_190 rg_191))
          have C16 : (τ14).2.1 16 = (σ.2.1 16) := (((hx17 16 rg_216).2.1).trans (hT 16 rg_193 rg_194 rg_195))
          have C17 : (τ14).2.1 17 = (upd (σ.2.1 17) (Int32.toNatClampNeg sx) k) := (((hx17 17 rg_217).2.1).trans h17)
          have C18 : (τ14).2.1 18 = (upd (σ.2.1 18) (Int32.toNatClampNeg sx) va) := (((hx17 18 rg_218).2.1).trans h18)
          have C19 : (τ14).2.1 19 = (upd (σ.2.1 19) (Int32.toNatClampNeg sx) vb) := (((hx17 19 rg_219).2.1).trans h19)
          have C20 : (τ14).2.1 20 = (upd (σ.2.1 20) (Int32.toNatClampNeg sx) vc) := (((hx17 20 rg_220).2.1).trans h20)
          have C21 : (τ14).2.1 21 = (upd (σ.2.1 21) (Int32.toNatClampNeg sx) vd) := (((hx17 21 rg_221).2.1).trans h21)
          have C22 : (τ14).2.1 22 = (σ.2.1 22) := (((hx17 22 rg_222).2.1).trans (hT 22 rg_178 rg_202 rg_203))
          have o22 : sx.toInt = 12 * (σ.1 30).toInt + (σ.2.1 12 (σ.1 30).toNatClampNeg).toInt := by omega
          exact pt_286 τ14 sx pl ow va vb vc vd _ _ _ hI16 Xτ14 Mτ14 Lτ14 (show sx.toInt = 12 * (σ.1 30).toInt + (σ.2.1 12 (σ.1 30).toNatClampNeg).toInt from o22) (tabL 5 C11 C12 C13 C14 C15 C16 (Or.inl rg_223) (Or.inl rg_224) (Or.inl rg_225) (Or.inl rg_226) (Or.inl rg_227) C22) C17 C18 C19 C20 C21 W22 hP hD hS (lv_sub hl [0, 1, 2, 3, 4] rfl)
        · have tc41 := (show 0 < z40.toInt from ti_nle rfl rg_11 c41)
          have lc41 : ¬ y39 ≤ 1000000000 := fun h => c41 (by rw [ez40]; exact (lg_cmp_le y39 1000000000).mpr h)
          refine lv_aload_n hx hb dX12_readStep_279 rfl (lv_at hl 0 rfl) ?_
          refine lv_bipush (v := 7) hx hb dX12_readStep_280 rg_54 ?_
          refine lv_iload_n hx hb dX12_readStep_282 rfl (lv_at hl 3 rfl) ?_
          have kk43 : (7 : Int32).toInt = 7 := rg_77
          have o23 : 0 ≤ (7 : Int32).toInt := by omega
          have o24 : (7 : Int32).toInt ≤ 7 := by omega
          refine zy_v (va_runV (As := [.int 7, .int pl]) (rest := []) ⟨hx, hb, hml, hown, hts⟩ (n_fails l dC dI h ad cl H.size τ14 7 pl hI16 ⟨o23, o24⟩) (cwV 2 hts gd_n_readStep_220_n_fails rfl rfl rfl dd_n_fails ⟨Nat.le_of_ble_eq_true rfl, Nat.le_of_ble_eq_true rfl⟩) (preV hP hK hD hE (ci := 12) (q0 := 0) rfl rfl) rfl rfl hl.1 rfl (lv_room (Nat.le_of_ble_eq_true rfl)) dX12_readStep_283 ⟨Nat.le_of_ble_eq_true rfl, Nat.le_of_ble_eq_true rfl⟩) hD hS hA (fun τ44 H locs hq hP hD hS => ?_)
          obtain ⟨hI46, hx47, f48, mo49⟩ := hq
          have Xτ44 : eqx [6, 7, 8, 9, 10, 4, 5, 17, 18, 19, 20, 21, 27, 28, 26, 12] τ44 σ := eqx.tr hx47 Xτ14 rg_210
          have Mτ44 : Mo τ44 σ := Mo.tr mo49 (fun h9 => Mτ14 h9)
          have Lτ44 : Lx τ44 σ := Lx.tr (Lx.of hx47 (Lx.es Lτ14) rg_47 rg_48 rg_49) Lτ14
          have W50 : When τ44 ((k.toInt = 0 ∨ k.toInt = 1 ∨ k.toInt = 6 → 0 ≤ va.toInt ∧ va.toInt < (σ.2.1 11 (σ.1 30).toNatClampNeg).toInt) ∧ (k.toInt ≠ 0 ∧ k.toInt ≠ 1 ∧ k.toInt ≠ 6 → 0 ≤ va.toInt ∧ va.toInt < (σ.2.1 12 (σ.1 30).toNatClampNeg).toInt)) := When.mo W18 mo49
          have W51 : When τ44 (k.toInt = 2 ∨ k.toInt = 3 ∨ k.toInt = 4 ∨ k.toInt = 6 ∨ k.toInt = 7 → 0 ≤ vb.toInt ∧ vb.toInt < (σ.2.1 12 (σ.1 30).toNatClampNeg).toInt) := When.mo W19 mo49
          have W52 : When τ44 (k.toInt = 5 → -99 ≤ vb.toInt ∧ vb.toInt ≤ 99 ∧ 1 ≤ vc.toInt ∧ vc.toInt ≤ 99) := When.mo W20 mo49
          have W53 : When τ44 (k.toInt = 7 → 0 ≤ vc.toInt ∧ vc.toInt < (σ.2.1 12 (σ.1 30).toNatClampNeg).toInt ∧ 0 ≤ vd.toInt ∧ vd.toInt < (σ.2.1 12 (σ.1 30).toNatClampNeg).toInt) := When.mo W21 mo49
          have W54 : When τ44 (StOk k.toInt va.toInt vb.toInt vc.toInt vd.toInt (σ.2.1 11 (σ.1 30).toNatClampNeg).toInt (σ.2.1 12 (σ.1 30).toNatClampNeg).toInt) := When.mo W22 mo49
          refine W.widen (k := 0) (n := 0) (Nat.le_of_ble_eq_true rfl) (Nat.le_of_ble_eq_true rfl) ?_
          have C11 : (τ44).2.1 11 = (σ.2.1 11) := (((hx47 11 rg_103).2.1).trans (((hx17 11 rg_211).2.1).trans (hT 11 rg_177 rg_178 rg_179)))
          have C12 : (τ44).2.1 12 = (σ.2.1 12) := (((hx47 12 rg_109).2.1).trans (((hx17 12 rg_212).2.1).trans (hT 12 rg_173 rg_174 rg_175)))
          have C13 : (τ44).2.1 13 = (σ.2.1 13) := (((hx47 13 rg_115).2.1).trans (((hx17 13 rg_213).2.1).trans (hT 13 rg_181 rg_182 rg_183)))
          have C14 : (τ44).2.1 14 = (σ.2.1 14) := (((hx47 14 rg_121).2.1).trans (((hx17 14 rg_214).2.1).trans (hT 14 rg_185 rg_186 rg_187)))
          have C15 : (τ44).2.1 15 = (σ.2.1 15) := (((hx47 15 rg_99).2.1).trans (((hx17 15 rg_215).2.1).trans (hT 15 rg_189 rg_190 rg_191)))
          have C16 : (τ44).2.1 16 = (σ.2.1 16) := (((hx47 16 rg_128).2.1).trans (((hx17 16 rg_216).2.1).trans (hT 16 rg_193 rg_194 rg_195)))
          have C17 : (τ44).2.1 17 = (upd (σ.2.1 17) (Int32.toNatClampNeg sx) k) := (((hx47 17 rg_133).2.1).trans (((hx17 17 rg_217).2.1).trans h17))
          have C18 : (τ44).2.1 18 = (upd (σ.2.1 18) (Int32.toNatClampNeg sx) va) := (((hx47 18 rg_139).2.1).trans (((hx17 18 rg_218).2.1).trans h18))
          have C19 : (τ44).2.1 19 = (upd (σ.2.1 19) (Int32.toNatClampNeg sx) vb) := (((hx47 19 rg_145).2.1).trans (((hx17 19 rg_219).2.1).trans h19))
          have C20 : (τ44).2.1 20 = (upd (σ.2.1 20) (Int32.toNatClampNeg sx) vc) := (((hx47 20 rg_151).2.1).trans (((hx17 20 rg_220).2.1).trans h20))
          have C21 : (τ44).2.1 21 = (upd (σ.2.1 21) (Int32.toNatClampNeg sx) vd) := (((hx47 21 rg_157).2.1).trans (((hx17 21 rg_221).2.1).trans h21))
          have C22 : (τ44).2.1 22 = (σ.2.1 22) := (((hx47 22 rg_163).2.1).trans (((hx17 22 rg_222).2.1).trans (hT 22 rg_178 rg_202 rg_203)))
          have o25 : sx.toInt = 12 * (σ.1 30).toInt + (σ.2.1 12 (σ.1 30).toNatClampNeg).toInt := by omega
          exact pt_286 τ44 sx pl ow va vb vc vd _ _ _ hI46 Xτ44 Mτ44 Lτ44 (show sx.toInt = 12 * (σ.1 30).toInt + (σ.2.1 12 (σ.1 30).toNatClampNeg).toInt from o25) (tabL 5 C11 C12 C13 C14 C15 C16 (Or.inl rg_223) (Or.inl rg_224) (Or.inl rg_225) (Or.inl rg_226) (Or.inl rg_227) C22) C17 C18 C19 C20 C21 W54 hP hD hS (lv_sub hl [0, 1, 2, 3, 4] rfl)
    · have tc12 := (show z10.toInt = 0 from ti_eq rfl rg_11 c12)
      rw [hQ]
      have C11 : (τ).2.1 11 = (σ.2.1 11) := (hT 11 rg_177 rg_178 rg_179)
      have C12 : (τ).2.1 12 = (σ.2.1 12) := (hT 12 rg_173 rg_174 rg_175)
      have C13 : (τ).2.1 13 = (σ.2.1 13) := (hT 13 rg_181 rg_182 rg_183)
      have C14 : (τ).2.1 14 = (σ.2.1 14) := (hT 14 rg_185 rg_186 rg_187)
      have C15 : (τ).2.1 15 = (σ.2.1 15) := (hT 15 rg_189 rg_190 rg_191)
      have C16 : (τ).2.1 16 = (σ.2.1 16) := (hT 16 rg_193 rg_194 rg_195)
      have C17 : (τ).2.1 17 = (upd (σ.2.1 17) (Int32.toNatClampNeg sx) k) := h17
      have C18 : (τ).2.1 18 = (upd (σ.2.1 18) (Int32.toNatClampNeg sx) va) := h18
      have C19 : (τ).2.1 19 = (upd (σ.2.1 19) (Int32.toNatClampNeg sx) vb) := h19
      have C20 : (τ).2.1 20 = (upd (σ.2.1 20) (Int32.toNatClampNeg sx) vc) := h20
      have C21 : (τ).2.1 21 = (upd (σ.2.1 21) (Int32.toNatClampNeg sx) vd) := h21
      have C22 : (τ).2.1 22 = (σ.2.1 22) := (hT 22 rg_178 rg_202 rg_203)
      have o26 : 0 ≤ (σ.1 30).toInt := by omega
      have o27 : (σ.1 30).toInt ≤ 1 := by omega
      have o28 : 0 ≤ (σ.2.1 12 (σ.1 30).toNatClampNeg).toInt := by omega
      have o29 : (σ.2.1 12 (σ.1 30).toNatClampNeg).toInt ≤ 11 := by omega
      have o30 : sx.toInt = 12 * (σ.1 30).toInt + (σ.2.1 12 (σ.1 30).toNatClampNeg).toInt := by omega
      have RR := rel_other (n := (σ.2.1 12 (σ.1 30).toNatClampNeg)) hI ⟨o26, o27⟩ ⟨o28, o29⟩ o30 (Or.inl trivial) C11 C12 C13 (crL C14 C15 C16) (csL C17 C18 C19 C20 C21) C22
      have o31 : (τ.1 4).toInt ≠ 0 := by omega
      exact W.vret hx hb hr (fun t ht hW => ⟨⟨τ, rfl, ⟨hIτ, hxτ, (fun h9 _ => absurd (show (τ.1 4).toInt = 0 from h9) o31), RR, hmτ, hgτ⟩, wEn_of hP (hK.sub [] rfl) hD ht hW⟩, hS.F ht⟩) hS.2.2 dX12_readStep_247
  have pt_192 : ∀ (τ : MS) (sx : Int32) (pl : Int32) (ow : Int64) (va : Int32) (vb : Int32) (vc : Int32) (H : Heap) (locs : List Loc) (ls : Array Slot), (Inv τ) → (eqx [6, 7, 8, 9, 10, 4, 5, 17, 18, 19, 20, 21, 27, 28, 26, 12] τ σ) → (Mo τ σ) → (Lx τ σ) → (sx.toInt = 12 * (σ.1 30).toInt + (σ.2.1 12 (σ.1 30).toNatClampNeg).toInt) → (∀ p9, 11 ≤ p9 → p9 ≤ 22 → ¬ (17 ≤ p9 ∧ p9 ≤ 16 + 4) → τ.2.1 p9 = σ.2.1 p9) → (τ.2.1 17 = upd (σ.2.1 17) (Int32.toNatClampNeg sx) k) → (τ.2.1 18 = upd (σ.2.1 18) (Int32.toNatClampNeg sx) va) → (τ.2.1 19 = upd (σ.2.1 19) (Int32.toNatClampNeg sx) vb) → (τ.2.1 20 = upd (σ.2.1 20) (Int32.toNatClampNeg sx) vc) → (When τ ((k.toInt = 0 ∨ k.toInt = 1 ∨ k.toInt = 6 → 0 ≤ va.toInt ∧ va.toInt < (σ.2.1 11 (σ.1 30).toNatClampNeg).toInt) ∧ (k.toInt ≠ 0 ∧ k.toInt ≠ 1 ∧ k.toInt ≠ 6 → 0 ≤ va.toInt ∧ va.toInt < (σ.2.1 12 (σ.1 30).toNatClampNeg).toInt))) → (When τ (k.toInt = 2 ∨ k.toInt = 3 ∨ k.toInt = 4 ∨ k.toInt = 6 ∨ k.toInt = 7 → 0 ≤ vb.toInt ∧ vb.toInt < (σ.2.1 12 (σ.1 30).toNatClampNeg).toInt)) → (When τ (k.toInt = 5 → -99 ≤ vb.toInt ∧ vb.toInt ≤ 99 ∧ 1 ≤ vc.toInt ∧ vc.toInt ≤ 99)) → va_P (dC, dI) vwCl (mW h ad cl τ) H → va_D A (mW h ad cl τ) → va_S A s.heap H locs → lv_has ls 6 [(0, .ref h), (1, .int k), (2, .int sx), (3, .int pl), (4, .long ow)] → W p l e (headSpec vs_n_readStep rm_n_readStep).room s m #[Value.ref h, Value.int k] below meth c H locs 0 0 Q (F0 m 192 ls []) := by
    intro τ sx pl ow va vb vc H locs ls hIτ hxτ hmτ hgτ hR hT h17 h18 h19 h20 hw0 hw1 hw2 hP hD hS hl
    refine lv_iload_n hx hb dX12_readStep_192 rfl (lv_at hl 1 rfl) ?_
    refine lv_bipush (v := 7) hx hb dX12_readStep_193 rg_54 ?_
    refine lv_icmp_ne (tgt := 240) hx hb dX12_readStep_195 rfl (fun c56 => ?_) (fun c56 => ?_)
    · have tc56 := (show k.toInt ≠ 7 from ti_ne rfl rg_77 c56)
      have C11 : (τ).2.1 11 = (σ.2.1 11) := (hT 11 rg_177 rg_178 rg_228)
      have C12 : (τ).2.1 12 = (σ.2.1 12) := (hT 12 rg_173 rg_174 rg_229)
      have C13 : (τ).2.1 13 = (σ.2.1 13) := (hT 13 rg_181 rg_182 rg_230)
      have C14 : (τ).2.1 14 = (σ.2.1 14) := (hT 14 rg_185 rg_186 rg_231)
      have C15 : (τ).2.1 15 = (σ.2.1 15) := (hT 15 rg_189 rg_190 rg_232)
      have C16 : (τ).2.1 16 = (σ.2.1 16) := (hT 16 rg_193 rg_194 rg_233)
      have C17 : (τ).2.1 17 = (upd (σ.2.1 17) (Int32.toNatClampNeg sx) k) := h17
      have C18 : (τ).2.1 18 = (upd (σ.2.1 18) (Int32.toNatClampNeg sx) va) := h18
      have C19 : (τ).2.1 19 = (upd (σ.2.1 19) (Int32.toNatClampNeg sx) vb) := h19
      have C20 : (τ).2.1 20 = (upd (σ.2.1 20) (Int32.toNatClampNeg sx) vc) := h20
      have C21 : (τ).2.1 21 = (σ.2.1 21) := (hT 21 rg_234 rg_235 rg_236)
      have C22 : (τ).2.1 22 = (σ.2.1 22) := (hT 22 rg_178 rg_202 rg_237)
      have N60 : When τ (k.toInt = 7 → 0 ≤ vc.toInt ∧ vc.toInt < (σ.2.1 12 (σ.1 30).toNatClampNeg).toInt ∧ 0 ≤ ((σ.2.1 21) (Int32.toNatClampNeg sx)).toInt ∧ ((σ.2.1 21) (Int32.toNatClampNeg sx)).toInt < (σ.2.1 12 (σ.1 30).toNatClampNeg).toInt) := fun h9 => by have q0 := hw0 h9; have q1 := hw1 h9; have q2 := hw2 h9; omega
      have o32 : sx.toInt = 12 * (σ.1 30).toInt + (σ.2.1 12 (σ.1 30).toNatClampNeg).toInt := by omega
      exact pt_240 τ sx pl ow va vb vc ((σ.2.1 21) (Int32.toNatClampNeg sx)) _ _ _ hIτ hxτ hmτ hgτ (show sx.toInt = 12 * (σ.1 30).toInt + (σ.2.1 12 (σ.1 30).toNatClampNeg).toInt from o32) (tabL 5 C11 C12 C13 C14 C15 C16 (Or.inl rg_223) (Or.inl rg_224) (Or.inl rg_225) (Or.inl rg_226) (Or.inl rg_227) C22) C17 C18 C19 C20 (C21.trans upd_self) hw0 hw1 hw2 N60 hP hD hS (lv_sub hl [0, 1, 2, 3, 4] rfl)
    · have tc56 := (show k.toInt = 7 from ti_eq rfl rg_77 c56)
      refine lv_aload_n hx hb dX12_readStep_198 rfl (lv_at hl 0 rfl) ?_
      refine lv_aload_n hx hb dX12_readStep_199 rfl (lv_at hl 0 rfl) ?_
      refine lv_ldc2 (v := (26982)) hx hb hown (ho (.constantLong RX12 175 (26982)) (List.mem_of_getElem? (i := 7) rfl)) dX12_readStep_200 ?_
      refine zy_i (va_runV (As := [.long 26982]) (rest := [.ref h]) ⟨hx, hb, hml, hown, hts⟩ (n_isWord l dC dI h ad cl H.size τ 26982 hIτ) (cwV 1 hts gd_n_readStep_261_n_isWord rfl rfl rfl dd_n_isWord ⟨Nat.le_of_ble_eq_true rfl, Nat.le_of_ble_eq_true rfl⟩) (preV hP hK hD hE (ci := 12) (q0 := 0) rfl rfl) rfl rfl hl.1 rfl (lv_room (Nat.le_of_ble_eq_true rfl)) dX12_readStep_203 ⟨Nat.le_of_ble_eq_true rfl, Nat.le_of_ble_eq_true rfl⟩) hD hS hA (fun z62 τ61 H locs hq hP hD hS => ?_)
      obtain ⟨rfl, f63⟩ := hq
      refine W.widen (k := 0) (n := 0) (Nat.le_of_ble_eq_true rfl) (Nat.le_of_ble_eq_true rfl) ?_
      refine zy_v (va_runV (As := [.int z62]) (rest := []) ⟨hx, hb, hml, hown, hts⟩ (n_must l dC dI h ad cl H.size τ z62 hIτ (Lx.es hgτ)) (cwV 1 hts gd_n_readStep_278_n_must rfl rfl rfl dd_n_must ⟨Nat.le_of_ble_eq_true rfl, Nat.le_of_ble_eq_true rfl⟩) (preV hP hK hD hE (ci := 12) (q0 := 0) rfl rfl) rfl rfl hl.1 rfl (lv_room (Nat.le_of_ble_eq_true rfl)) dX12_readStep_206 ⟨Nat.le_of_ble_eq_true rfl, Nat.le_of_ble_eq_true rfl⟩) hD hS hA (fun τ64 H locs hq hP hD hS => ?_)
      obtain ⟨hI66, hx67, mo68, lx69⟩ := hq
      have Xτ64 : eqx [6, 7, 8, 9, 10, 4, 5, 17, 18, 19, 20, 21, 27, 28, 26, 12] τ64 σ := eqx.tr hx67 hxτ rg_238
      have Mτ64 : Mo τ64 σ := Mo.tr mo68 (fun h9 => hmτ h9)
      have Lτ64 : Lx τ64 σ := Lx.tr lx69 hgτ
      have W70 : When τ64 ((k.toInt = 0 ∨ k.toInt = 1 ∨ k.toInt = 6 → 0 ≤ va.toInt ∧ va.toInt < (σ.2.1 11 (σ.1 30).toNatClampNeg).toInt) ∧ (k.toInt ≠ 0 ∧ k.toInt ≠ 1 ∧ k.toInt ≠ 6 → 0 ≤ va.toInt ∧ va.toInt < (σ.2.1 12 (σ.1 30).toNatClampNeg).toInt)) := When.mo hw0 mo68
      have W71 : When τ64 (k.toInt = 2 ∨ k.toInt = 3 ∨ k.toInt = 4 ∨ k.toInt = 6 ∨ k.toInt = 7 → 0 ≤ vb.toInt ∧ vb.toInt < (σ.2.1 12 (σ.1 30).toNatClampNeg).toInt) := When.mo hw1 mo68
      have W72 : When τ64 (k.toInt = 5 → -99 ≤ vb.toInt ∧ vb.toInt ≤ 99 ∧ 1 ≤ vc.toInt ∧ vc.toInt ≤ 99) := When.mo hw2 mo68
      refine W.widen (k := 0) (n := 0) (Nat.le_of_ble_eq_true rfl) (Nat.le_of_ble_eq_true rfl) ?_
      refine lv_aload_n hx hb dX12_readStep_209 rfl (lv_at hl 0 rfl) ?_
      refine va_get (D := (dC, dI)) (ci := 12) (v := .ref (ad 20)) (C := RX12) (T := TX12) (N := 59) hx hb hts hin12 hown hK hP 0 rfl rfl 20 (Nat.le_of_ble_eq_true rfl) (ho (.fieldLink RX12 48 "NearEnoughModel" "sC" "[I") (List.mem_of_getElem? (i := 8) rfl)) (fun _ h9 => h9) rfl dX12_readStep_210 ?_
      refine lv_iload_n hx hb dX12_readStep_213 rfl (lv_at hl 2 rfl) ?_
      refine lv_aload_n hx hb dX12_readStep_214 rfl (lv_at hl 0 rfl) ?_
      refine zy_i (va_runV (As := []) (rest := [.int sx, .ref (ad 20)]) ⟨hx, hb, hml, hown, hts⟩ (n_aStep l dC dI h ad cl H.size τ64  hI66 (Lx.es Lτ64)) (cwV 0 hts gd_n_readStep_304_n_aStep rfl rfl rfl dd_n_aStep ⟨Nat.le_of_ble_eq_true rfl, Nat.le_of_ble_eq_true rfl⟩) (preV hP hK hD hE (ci := 12) (q0 := 0) rfl rfl) rfl rfl hl.1 rfl (lv_room (Nat.le_of_ble_eq_true rfl)) dX12_readStep_215 ⟨Nat.le_of_ble_eq_true rfl, Nat.le_of_ble_eq_true rfl⟩) hD hS hA (fun z74 τ73 H locs hq hP hD hS => ?_)
      obtain ⟨hI75, hx76, f77, f78, f79, mo80, lx81⟩ := hq
      have Xτ73 : eqx [6, 7, 8, 9, 10, 4, 5, 17, 18, 19, 20, 21, 27, 28, 26, 12] τ73 σ := eqx.tr hx76 Xτ64 rg_238
      have Mτ73 : Mo τ73 σ := Mo.tr mo80 (fun h9 => Mτ64 h9)
      have Lτ73 : Lx τ73 σ := Lx.tr lx81 Lτ64
      have W82 : When τ73 ((k.toInt = 0 ∨ k.toInt = 1 ∨ k.toInt = 6 → 0 ≤ va.toInt ∧ va.toInt < (σ.2.1 11 (σ.1 30).toNatClampNeg).toInt) ∧ (k.toInt ≠ 0 ∧ k.toInt ≠ 1 ∧ k.toInt ≠ 6 → 0 ≤ va.toInt ∧ va.toInt < (σ.2.1 12 (σ.1 30).toNatClampNeg).toInt)) := When.mo W70 mo80
      have W83 : When τ73 (k.toInt = 2 ∨ k.toInt = 3 ∨ k.toInt = 4 ∨ k.toInt = 6 ∨ k.toInt = 7 → 0 ≤ vb.toInt ∧ vb.toInt < (σ.2.1 12 (σ.1 30).toNatClampNeg).toInt) := When.mo W71 mo80
      have W84 : When τ73 (k.toInt = 5 → -99 ≤ vb.toInt ∧ vb.toInt ≤ 99 ∧ 1 ≤ vc.toInt ∧ vc.toInt ≤ 99) := When.mo W72 mo80
      have W85 : When τ73 (0 ≤ z74.toInt ∧ z74.toInt < ((σ.2.1 12) ((σ.1 30)).toNatClampNeg).toInt) := When.cv f79 (((hx67 12 rg_110).2.1).trans (hT 12 rg_173 rg_174 rg_229)) (show τ64.1 30 = (σ.1 30) from ((hx67 30 rg_94).1).trans ((hxτ 30 rg_172).1))
      refine W.widen (k := 0) (n := 0) (Nat.le_of_ble_eq_true rfl) (Nat.le_of_ble_eq_true rfl) ?_
      have o33 : 0 ≤ sx.toInt := by omega
      have o34 : sx.toInt < ((24 : Nat) : Int) := by omega
      refine va_iast hx hb hK hP hD hS 12 11 rfl rfl (ti_inx o33 o34) dX12_readStep_218 (fun H locs hP hD hS => ?_)
      rw [wS20] at hP hD
      obtain ⟨τ86, eτ86⟩ : ∃ x9 : MS, x9 = sA τ73 20 (upd (τ73.2.1 20) (Int32.toNatClampNeg sx) z74) := ⟨_, rfl⟩
      have hP : va_P (dC, dI) vwCl (mW h ad cl τ86) H := by rw [eτ86]; exact hP
      have hD : va_D A (mW h ad cl τ86) := by rw [eτ86]; exact hD
      have o35 : ((-1) : Int) ≤ (z74 : Int32).toInt := by omega
      have o36 : (z74 : Int32).toInt ≤ 99 := by omega
      have hIτ86 : Inv τ86 := by rw [eτ86]; exact (Inv_sA1 hI75 (rgu (hI75.2 20) (show ((-1) : Int) ≤ (z74 : Int32).toInt ∧ (z74 : Int32).toInt ≤ 99 from ⟨o35, o36⟩)))
      have Xτ86 : eqx [6, 7, 8, 9, 10, 4, 5, 17, 18, 19, 20, 21, 27, 28, 26, 12] τ86 σ := (eqx.eq eτ86 (eqx.sA Xτ73 rg_239))
      have Mτ86 : Mo τ86 σ := Mo.eq eτ86 (fun h9 => Mτ73 h9)
      have Lτ86 : Lx τ86 σ := Lx.eq eτ86 Lτ73
      have W87 : When τ86 ((k.toInt = 0 ∨ k.toInt = 1 ∨ k.toInt = 6 → 0 ≤ va.toInt ∧ va.toInt < (σ.2.1 11 (σ.1 30).toNatClampNeg).toInt) ∧ (k.toInt ≠ 0 ∧ k.toInt ≠ 1 ∧ k.toInt ≠ 6 → 0 ≤ va.toInt ∧ va.toInt < (σ.2.1 12 (σ.1 30).toNatClampNeg).toInt)) := When.mo W82 (Mo.eq eτ86 (fun h9 => h9))
      have W88 : When τ86 (k.toInt = 2 ∨ k.toInt = 3 ∨ k.toInt = 4 ∨ k.toInt = 6 ∨ k.toInt = 7 → 0 ≤ vb.toInt ∧ vb.toInt < (σ.2.1 12 (σ.1 30).toNatClampNeg).toInt) := When.mo W83 (Mo.eq eτ86 (fun h9 => h9))
      have W89 : When τ86 (k.toInt = 5 → -99 ≤ vb.toInt ∧ vb.toInt ≤ 99 ∧ 1 ≤ vc.toInt ∧ vc.toInt ≤ 99) := When.mo W84 (Mo.eq eτ86 (fun h9 => h9))
      have W90 : When τ86 (0 ≤ z74.toInt ∧ z74.toInt < ((σ.2.1 12) ((σ.1 30)).toNatClampNeg).toInt) := When.mo W85 (Mo.eq eτ86 (fun h9 => h9))
      refine lv_aload_n hx hb dX12_readStep_219 rfl (lv_at hl 0 rfl) ?_
      refine lv_aload_n hx hb dX12_readStep_220 rfl (lv_at hl 0 rfl) ?_
      refine lv_ldc2 (v := (504363246962)) hx hb hown (ho (.constantLong RX12 177 (504363246962)) (List.mem_of_getElem? (i := 9) rfl)) dX12_readStep_221 ?_
      refine zy_i (va_runV (As := [.long 504363246962]) (rest := [.ref h]) ⟨hx, hb, hml, hown, hts⟩ (n_isWord l dC dI h ad cl H.size τ86 504363246962 hIτ86) (cwV 1 hts gd_n_readStep_261_n_isWord rfl rfl rfl dd_n_isWord ⟨Nat.le_of_ble_eq_true rfl, Nat.le_of_ble_eq_true rfl⟩) (preV hP hK hD hE (ci := 12) (q0 := 0) rfl rfl) rfl rfl hl.1 rfl (lv_room (Nat.le_of_ble_eq_true rfl)) dX12_readStep_224 ⟨Nat.le_of_ble_eq_true rfl, Nat.le_of_ble_eq_true rfl⟩) hD hS hA (fun z92 τ91 H locs hq hP hD hS => ?_)
      obtain ⟨rfl, f93⟩ := hq
      refine W.widen (k := 0) (n := 0) (Nat.le_of_ble_eq_true rfl) (Nat.le_of_ble_eq_true rfl) ?_
      refine zy_v (va_runV (As := [.int z92]) (rest := []) ⟨hx, hb, hml, hown, hts⟩ (n_must l dC dI h ad cl H.size τ86 z92 hIτ86 (Lx.es Lτ86)) (cwV 1 hts gd_n_readStep_278_n_must rfl rfl rfl dd_n_must ⟨Nat.le_of_ble_eq_true rfl, Nat.le_of_ble_eq_true rfl⟩) (preV hP hK hD hE (ci := 12) (q0 := 0) rfl rfl) rfl rfl hl.1 rfl (lv_room (Nat.le_of_ble_eq_true rfl)) dX12_readStep_227 ⟨Nat.le_of_ble_eq_true rfl, Nat.le_of_ble_eq_true rfl⟩) hD hS hA (fun τ94 H locs hq hP hD hS => ?_)
      obtain ⟨hI96, hx97, mo98, lx99⟩ := hq
      have Xτ94 : eqx [6, 7, 8, 9, 10, 4, 5, 17, 18, 19, 20, 21, 27, 28, 26, 12] τ94 σ := eqx.tr hx97 Xτ86 rg_238
      have Mτ94 : Mo τ94 σ := Mo.tr mo98 (fun h9 => Mτ86 h9)
      have Lτ94 : Lx τ94 σ := Lx.tr lx99 Lτ86
      have W100 : When τ94 ((k.toInt = 0 ∨ k.toInt = 1 ∨ k.toInt = 6 → 0 ≤ va.toInt ∧ va.toInt < (σ.2.1 11 (σ.1 30).toNatClampNeg).toInt) ∧ (k.toInt ≠ 0 ∧ k.toInt ≠ 1 ∧ k.toInt ≠ 6 → 0 ≤ va.toInt ∧ va.toInt < (σ.2.1 12 (σ.1 30).toNatClampNeg).toInt)) := When.mo W87 mo98
      have W101 : When τ94 (k.toInt = 2 ∨ k.toInt = 3 ∨ k.toInt = 4 ∨ k.toInt = 6 ∨ k.toInt = 7 → 0 ≤ vb.toInt ∧ vb.toInt < (σ.2.1 12 (σ.1 30).toNatClampNeg).toInt) := When.mo W88 mo98
      have W102 : When τ94 (k.toInt = 5 → -99 ≤ vb.toInt ∧ vb.toInt ≤ 99 ∧ 1 ≤ vc.toInt ∧ vc.toInt ≤ 99) := When.mo W89 mo98
      have W103 : When τ94 (0 ≤ z74.toInt ∧ z74.toInt < ((σ.2.1 12) ((σ.1 30)).toNatClampNeg).toInt) := When.mo W90 mo98
      refine W.widen (k := 0) (n := 0) (Nat.le_of_ble_eq_true rfl) (Nat.le_of_ble_eq_true rfl) ?_
      refine lv_aload_n hx hb dX12_readStep_230 rfl (lv_at hl 0 rfl) ?_
      refine va_get (D := (dC, dI)) (ci := 12) (v := .ref (ad 21)) (C := RX12) (T := TX12) (N := 59) hx hb hts hin12 hown hK hP 0 rfl rfl 21 (Nat.le_of_ble_eq_true rfl) (ho (.fieldLink RX12 51 "NearEnoughModel" "sD" "[I") (List.mem_of_getElem? (i := 10) rfl)) (fun _ h9 => h9) rfl dX12_readStep_231 ?_
      refine lv_iload_n hx hb dX12_readStep_234 rfl (lv_at hl 2 rfl) ?_
      refine lv_aload_n hx hb dX12_readStep_235 rfl (lv_at hl 0 rfl) ?_
      refine zy_i (va_runV (As := []) (rest := [.int sx, .ref (ad 21)]) ⟨hx, hb, hml, hown, hts⟩ (n_aStep l dC dI h ad cl H.size τ94  hI96 (Lx.es Lτ94)) (cwV 0 hts gd_n_readStep_304_n_aStep rfl rfl rfl dd_n_aStep ⟨Nat.le_of_ble_eq_true rfl, Nat.le_of_ble_eq_true rfl⟩) (preV hP hK hD hE (ci := 12) (q0 := 0) rfl rfl) rfl rfl hl.1 rfl (lv_room (Nat.le_of_ble_eq_true rfl)) dX12_readStep_236 ⟨Nat.le_of_ble_eq_true rfl, Nat.le_of_ble_eq_true rfl⟩) hD hS hA (fun z105 τ104 H locs hq hP hD hS => ?_)
      obtain ⟨hI106, hx107, f108, f109, f110, mo111, lx112⟩ := hq
      have Xτ104 : eqx [6, 7, 8, 9, 10, 4, 5, 17, 18, 19, 20, 21, 27, 28, 26, 12] τ104 σ := eqx.tr hx107 Xτ94 rg_238
      have Mτ104 : Mo τ104 σ := Mo.tr mo111 (fun h9 => Mτ94 h9)
      have Lτ104 : Lx τ104 σ := Lx.tr lx112 Lτ94
      have W113 : When τ104 ((k.toInt = 0 ∨ k.toInt = 1 ∨ k.toInt = 6 → 0 ≤ va.toInt ∧ va.toInt < (σ.2.1 11 (σ.1 30).toNatClampNeg).toInt) ∧ (k.toInt ≠ 0 ∧ k.toInt ≠ 1 ∧ k.toInt ≠ 6 → 0 ≤ va.toInt ∧ va.toInt < (σ.2.1 12 (σ.1 30).toNatClampNeg).toInt)) := When.mo W100 mo111
      have W114 : When τ104 (k.toInt = 2 ∨ k.toInt = 3 ∨ k.toInt = 4 ∨ k.toInt = 6 ∨ k.toInt = 7 → 0 ≤ vb.toInt ∧ vb.toInt < (σ.2.1 12 (σ.1 30).toNatClampNeg).toInt) := When.mo W101 mo111
      have W115 : When τ104 (k.toInt = 5 → -99 ≤ vb.toInt ∧ vb.toInt ≤ 99 ∧ 1 ≤ vc.toInt ∧ vc.toInt ≤ 99) := When.mo W102 mo111
      have W116 : When τ104 (0 ≤ z74.toInt ∧ z74.toInt < ((σ.2.1 12) ((σ.1 30)).toNatClampNeg).toInt) := When.mo W103 mo111
      have W117 : When τ104 (0 ≤ z105.toInt ∧ z105.toInt < ((σ.2.1 12) ((σ.1 30)).toNatClampNeg).toInt) := When.cv f110 (((hx97 12 rg_110).2.1).trans ((congrArg (fun x9 : MS => x9.2.1 12) eτ86).trans ((tA rg_240).trans (((hx76 12 rg_110).2.1).trans (((hx67 12 rg_110).2.1).trans (hT 12 rg_173 rg_174 rg_229)))))) (show τ94.1 30 = (σ.1 30) from ((hx97 30 rg_94).1).trans (show τ86.1 30 = (σ.1 30) from (congrArg (fun x9 : MS => x9.1 30) eτ86).trans (show τ73.1 30 = (σ.1 30) from ((hx76 30 rg_94).1).trans (show τ64.1 30 = (σ.1 30) from ((hx67 30 rg_94).1).trans ((hxτ 30 rg_172).1)))))
      refine W.widen (k := 0) (n := 0) (Nat.le_of_ble_eq_true rfl) (Nat.le_of_ble_eq_true rfl) ?_
      refine va_iast hx hb hK hP hD hS 13 12 rfl rfl (ti_inx o33 o34) dX12_readStep_239 (fun H locs hP hD hS => ?_)
      rw [wS21] at hP hD
      obtain ⟨τ118, eτ118⟩ : ∃ x9 : MS, x9 = sA τ104 21 (upd (τ104.2.1 21) (Int32.toNatClampNeg sx) z105) := ⟨_, rfl⟩
      have hP : va_P (dC, dI) vwCl (mW h ad cl τ118) H := by rw [eτ118]; exact hP
      have hD : va_D A (mW h ad cl τ118) := by rw [eτ118]; exact hD
      have o37 : ((-1) : Int) ≤ (z105 : Int32).toInt := by omega
      have o38 : (z105 : Int32).toInt ≤ 11 := by omega
      have hIτ118 : Inv τ118 := by rw [eτ118]; exact (Inv_sA1 hI106 (rgu (hI106.2 21) (show ((-1) : Int) ≤ (z105 : Int32).toInt ∧ (z105 : Int32).toInt ≤ 11 from ⟨o37, o38⟩)))
      have Xτ118 : eqx [6, 7, 8, 9, 10, 4, 5, 17, 18, 19, 20, 21, 27, 28, 26, 12] τ118 σ := (eqx.eq eτ118 (eqx.sA Xτ104 rg_241))
      have Mτ118 : Mo τ118 σ := Mo.eq eτ118 (fun h9 => Mτ104 h9)
      have Lτ118 : Lx τ118 σ := Lx.eq eτ118 Lτ104
      have W119 : When τ118 ((k.toInt = 0 ∨ k.toInt = 1 ∨ k.toInt = 6 → 0 ≤ va.toInt ∧ va.toInt < (σ.2.1 11 (σ.1 30).toNatClampNeg).toInt) ∧ (k.toInt ≠ 0 ∧ k.toInt ≠ 1 ∧ k.toInt ≠ 6 → 0 ≤ va.toInt ∧ va.toInt < (σ.2.1 12 (σ.1 30).toNatClampNeg).toInt)) := When.mo W113 (Mo.eq eτ118 (fun h9 => h9))
      have W120 : When τ118 (k.toInt = 2 ∨ k.toInt = 3 ∨ k.toInt = 4 ∨ k.toInt = 6 ∨ k.toInt = 7 → 0 ≤ vb.toInt ∧ vb.toInt < (σ.2.1 12 (σ.1 30).toNatClampNeg).toInt) := When.mo W114 (Mo.eq eτ118 (fun h9 => h9))
      have W121 : When τ118 (k.toInt = 5 → -99 ≤ vb.toInt ∧ vb.toInt ≤ 99 ∧ 1 ≤ vc.toInt ∧ vc.toInt ≤ 99) := When.mo W115 (Mo.eq eτ118 (fun h9 => h9))
      have W122 : When τ118 (0 ≤ z74.toInt ∧ z74.toInt < ((σ.2.1 12) ((σ.1 30)).toNatClampNeg).toInt) := When.mo W116 (Mo.eq eτ118 (fun h9 => h9))
      have W123 : When τ118 (0 ≤ z105.toInt ∧ z105.toInt < ((σ.2.1 12) ((σ.1 30)).toNatClampNeg).toInt) := When.mo W117 (Mo.eq eτ118 (fun h9 => h9))
      have C11 : (τ118).2.1 11 = (σ.2.1 11) := ((congrArg (fun x9 : MS => x9.2.1 11) eτ118).trans ((tA rg_243).trans (((hx107 11 rg_104).2.1).trans (((hx97 11 rg_104).2.1).trans ((congrArg (fun x9 : MS => x9.2.1 11) eτ86).trans ((tA rg_242).trans (((hx76 11 rg_104).2.1).trans (((hx67 11 rg_104).2.1).trans (hT 11 rg_177 rg_178 rg_228)))))))))
      have C12 : (τ118).2.1 12 = (σ.2.1 12) := ((congrArg (fun x9 : MS => x9.2.1 12) eτ118).trans ((tA rg_244).trans (((hx107 12 rg_110).2.1).trans (((hx97 12 rg_110).2.1).trans ((congrArg (fun x9 : MS => x9.2.1 12) eτ86).trans ((tA rg_240).trans (((hx76 12 rg_110).2.1).trans (((hx67 12 rg_110).2.1).trans (hT 12 rg_173 rg_174 rg_229)))))))))
      have C13 : (τ118).2.1 13 = (σ.2.1 13) := ((congrArg (fun x9 : MS => x9.2.1 13) eτ118).trans ((tA rg_246).trans (((hx107 13 rg_116).2.1).trans (((hx97 13 rg_116).2.1).trans ((congrArg (fun x9 : MS => x9.2.1 13) eτ86).trans ((tA rg_245).trans (((hx76 13 rg_116).2.1).trans (((hx67 13 rg_116).2.1).trans (hT 13 rg_181 rg_182 rg_230)))))))))
      have C14 : (τ118).2.1 14 = (σ.2.1 14) := ((congrArg (fun x9 : MS => x9.2.1 14) eτ118).trans ((tA rg_248).trans (((hx107 14 rg_122).2.1).trans (((hx97 14 rg_122).2.1).trans ((congrArg (fun x9 : MS => x9.2.1 14) eτ86).trans ((tA rg_247).trans (((hx76 14 rg_122).2.1).trans (((hx67 14 rg_122).2.1).trans (hT 14 rg_185 rg_186 rg_231)))))))))
      have C15 : (τ118).2.1 15 = (σ.2.1 15) := ((congrArg (fun x9 : MS => x9.2.1 15) eτ118).trans ((tA rg_250).trans (((hx107 15 rg_100).2.1).trans (((hx97 15 rg_100).2.1).trans ((congrArg (fun x9 : MS => x9.2.1 15) eτ86).trans ((tA rg_249).trans (((hx76 15 rg_100).2.1).trans (((hx67 15 rg_100).2.1).trans (hT 15 rg_189 rg_190 rg_232)))))))))
      have C16 : (τ118).2.1 16 = (σ.2.1 16) := ((congrArg (fun x9 : MS => x9.2.1 16) eτ118).trans ((tA rg_252).trans (((hx107 16 rg_129).2.1).trans (((hx97 16 rg_129).2.1).trans ((congrArg (fun x9 : MS => x9.2.1 16) eτ86).trans ((tA rg_251).trans (((hx76 16 rg_129).2.1).trans (((hx67 16 rg_129).2.1).trans (hT 16 rg_193 rg_194 rg_233)))))))))
      have C17 : (τ118).2.1 17 = (upd (σ.2.1 17) (Int32.toNatClampNeg sx) k) := ((congrArg (fun x9 : MS => x9.2.1 17) eτ118).trans ((tA rg_254).trans (((hx107 17 rg_134).2.1).trans (((hx97 17 rg_134).2.1).trans ((congrArg (fun x9 : MS => x9.2.1 17) eτ86).trans ((tA rg_253).trans (((hx76 17 rg_134).2.1).trans (((hx67 17 rg_134).2.1).trans h17))))))))
      have C18 : (τ118).2.1 18 = (upd (σ.2.1 18) (Int32.toNatClampNeg sx) va) := ((congrArg (fun x9 : MS => x9.2.1 18) eτ118).trans ((tA rg_256).trans (((hx107 18 rg_140).2.1).trans (((hx97 18 rg_140).2.1).trans ((congrArg (fun x9 : MS => x9.2.1 18) eτ86).trans ((tA rg_255).trans (((hx76 18 rg_140).2.1).trans (((hx67 18 rg_140).2.1).trans h18))))))))
      have C19 : (τ118).2.1 19 = (upd (σ.2.1 19) (Int32.toNatClampNeg sx) vb) := ((congrArg (fun x9 : MS => x9.2.1 19) eτ118).trans ((tA rg_258).trans (((hx107 19 rg_146).2.1).trans (((hx97 19 rg_146).2.1).trans ((congrArg (fun x9 : MS => x9.2.1 19) eτ86).trans ((tA rg_257).trans (((hx76 19 rg_146).2.1).trans (((hx67 19 rg_146).2.1).trans h19))))))))
      have C20 : (τ118).2.1 20 = (upd (upd (σ.2.1 20) (Int32.toNatClampNeg sx) vc) (Int32.toNatClampNeg sx) z74) := ((congrArg (fun x9 : MS => x9.2.1 20) eτ118).trans ((tA rg_259).trans (((hx107 20 rg_152).2.1).trans (((hx97 20 rg_152).2.1).trans ((congrArg (fun x9 : MS => x9.2.1 20) eτ86).trans (tAe.trans (congrArg (fun f9 => (upd f9 (Int32.toNatClampNeg sx) z74)) (((hx76 20 rg_152).2.1).trans (((hx67 20 rg_152).2.1).trans h20)))))))))
      have C21 : (τ118).2.1 21 = (upd (σ.2.1 21) (Int32.toNatClampNeg sx) z105) := ((congrArg (fun x9 : MS => x9.2.1 21) eτ118).trans (tAe.trans (congrArg (fun f9 => (upd f9 (Int32.toNatClampNeg sx) z105)) (((hx107 21 rg_158).2.1).trans (((hx97 21 rg_158).2.1).trans ((congrArg (fun x9 : MS => x9.2.1 21) eτ86).trans ((tA rg_260).trans (((hx76 21 rg_158).2.1).trans (((hx67 21 rg_158).2.1).trans (hT 21 rg_234 rg_235 rg_236))))))))))
      have C22 : (τ118).2.1 22 = (σ.2.1 22) := ((congrArg (fun x9 : MS => x9.2.1 22) eτ118).trans ((tA rg_262).trans (((hx107 22 rg_164).2.1).trans (((hx97 22 rg_164).2.1).trans ((congrArg (fun x9 : MS => x9.2.1 22) eτ86).trans ((tA rg_261).trans (((hx76 22 rg_164).2.1).trans (((hx67 22 rg_164).2.1).trans (hT 22 rg_178 rg_202 rg_237)))))))))
      have N126 : When τ118 (k.toInt = 5 → -99 ≤ vb.toInt ∧ vb.toInt ≤ 99 ∧ 1 ≤ z74.toInt ∧ z74.toInt ≤ 99) := fun h9 => by have q0 := W119 h9; have q1 := W120 h9; have q2 := W121 h9; have q3 := W122 h9; have q4 := W123 h9; omega
      have N127 : When τ118 (k.toInt = 7 → 0 ≤ z74.toInt ∧ z74.toInt < (σ.2.1 12 (σ.1 30).toNatClampNeg).toInt ∧ 0 ≤ z105.toInt ∧ z105.toInt < (σ.2.1 12 (σ.1 30).toNatClampNeg).toInt) := fun h9 => by have q0 := W119 h9; have q1 := W120 h9; have q2 := W121 h9; have q3 := W122 h9; have q4 := W123 h9; omega
      have o39 : sx.toInt = 12 * (σ.1 30).toInt + (σ.2.1 12 (σ.1 30).toNatClampNeg).toInt := by omega
      exact pt_240 τ118 sx pl ow va vb z74 z105 _ _ _ hIτ118 Xτ118 Mτ118 Lτ118 (show sx.toInt = 12 * (σ.1 30).toInt + (σ.2.1 12 (σ.1 30).toNatClampNeg).toInt from o39) (tabL 5 C11 C12 C13 C14 C15 C16 (Or.inl rg_223) (Or.inl rg_224) (Or.inl rg_225) (Or.inl rg_226) (Or.inl rg_227) C22) C17 C18 C19 (C20.trans upd_upd) C21 W119 W120 N126 N127 hP hD hS (lv_sub hl [0, 1, 2, 3, 4] rfl)
  have pt_138 : ∀ (τ : MS) (sx : Int32) (pl : Int32) (ow : Int64) (va : Int32) (vb : Int32) (H : Heap) (locs : List Loc) (ls : Array Slot), (Inv τ) → (eqx [6, 7, 8, 9, 10, 4, 5, 17, 18, 19, 20, 21, 27, 28, 26, 12] τ σ) → (Mo τ σ) → (Lx τ σ) → (sx.toInt = 12 * (σ.1 30).toInt + (σ.2.1 12 (σ.1 30).toNatClampNeg).toInt) → (∀ p9, 11 ≤ p9 → p9 ≤ 22 → ¬ (17 ≤ p9 ∧ p9 ≤ 16 + 3) → τ.2.1 p9 = σ.2.1 p9) → (τ.2.1 17 = upd (σ.2.1 17) (Int32.toNatClampNeg sx) k) → (τ.2.1 18 = upd (σ.2.1 18) (Int32.toNatClampNeg sx) va) → (τ.2.1 19 = upd (σ.2.1 19) (Int32.toNatClampNeg sx) vb) → (When τ ((k.toInt = 0 ∨ k.toInt = 1 ∨ k.toInt = 6 → 0 ≤ va.toInt ∧ va.toInt < (σ.2.1 11 (σ.1 30).toNatClampNeg).toInt) ∧ (k.toInt ≠ 0 ∧ k.toInt ≠ 1 ∧ k.toInt ≠ 6 → 0 ≤ va.toInt ∧ va.toInt < (σ.2.1 12 (σ.1 30).toNatClampNeg).toInt))) → (When τ (k.toInt = 2 ∨ k.toInt = 3 ∨ k.toInt = 4 ∨ k.toInt = 6 ∨ k.toInt = 7 → 0 ≤ vb.toInt ∧ vb.toInt < (σ.2.1 12 (σ.1 30).toNatClampNeg).toInt)) → va_P (dC, dI) vwCl (mW h ad cl τ) H → va_D A (mW h ad cl τ) → va_S A s.heap H locs → lv_has ls 6 [(0, .ref h), (1, .int k), (2, .int sx), (3, .int pl), (4, .long ow)] → W p l e (headSpec vs_n_readStep rm_n_readStep).room s m #[Value.ref h, Value.int k] below meth c H locs 0 0 Q (F0 m 138 ls []) := by
    intro τ sx pl ow va vb H locs ls hIτ hxτ hmτ hgτ hR hT h17 h18 h19 hw0 hw1 hP hD hS hl
    refine lv_iload_n hx hb dX12_readStep_138 rfl (lv_at hl 1 rfl) ?_
    refine lv_iconst (v := 5) hx hb dX12_readStep_139 rg_14 ?_
    refine lv_icmp_ne (tgt := 192) hx hb dX12_readStep_140 rfl (fun c128 => ?_) (fun c128 => ?_)
    · have tc128 := (show k.toInt ≠ 5 from ti_ne rfl rg_15 c128)
      have C11 : (τ).2.1 11 = (σ.2.1 11) := (hT 11 rg_177 rg_178 rg_263)
      have C12 : (τ).2.1 12 = (σ.2.1 12) := (hT 12 rg_173 rg_174 rg_264)
      have C13 : (τ).2.1 13 = (σ.2.1 13) := (hT 13 rg_181 rg_182 rg_265)
      have C14 : (τ).2.1 14 = (σ.2.1 14) := (hT 14 rg_185 rg_186 rg_266)
      have C15 : (τ).2.1 15 = (σ.2.1 15) := (hT 15 rg_189 rg_190 rg_267)
      have C16 : (τ).2.1 16 = (σ.2.1 16) := (hT 16 rg_193 rg_194 rg_268)
      have C17 : (τ).2.1 17 = (upd (σ.2.1 17) (Int32.toNatClampNeg sx) k) := h17
      have C18 : (τ).2.1 18 = (upd (σ.2.1 18) (Int32.toNatClampNeg sx) va) := h18
      have C19 : (τ).2.1 19 = (upd (σ.2.1 19) (Int32.toNatClampNeg sx) vb) := h19
      have C20 : (τ).2.1 20 = (σ.2.1 20) := (hT 20 rg_269 rg_270 rg_271)
      have C21 : (τ).2.1 21 = (σ.2.1 21) := (hT 21 rg_234 rg_235 rg_272)
      have C22 : (τ).2.1 22 = (σ.2.1 22) := (hT 22 rg_178 rg_202 rg_273)
      have N131 : When τ (k.toInt = 5 → -99 ≤ vb.toInt ∧ vb.toInt ≤ 99 ∧ 1 ≤ ((σ.2.1 20) (Int32.toNatClampNeg sx)).toInt ∧ ((σ.2.1 20) (Int32.toNatClampNeg sx)).toInt ≤ 99) := fun h9 => by have q0 := hw0 h9; have q1 := hw1 h9; omega
      have o40 : sx.toInt = 12 * (σ.1 30).toInt + (σ.2.1 12 (σ.1 30).toNatClampNeg).toInt := by omega
      exact pt_192 τ sx pl ow va vb ((σ.2.1 20) (Int32.toNatClampNeg sx)) _ _ _ hIτ hxτ hmτ hgτ (show sx.toInt = 12 * (σ.1 30).toInt + (σ.2.1 12 (σ.1 30).toNatClampNeg).toInt from o40) (tabL 4 C11 C12 C13 C14 C15 C16 (Or.inl rg_274) (Or.inl rg_275) (Or.inl rg_276) (Or.inl rg_277) (Or.inr C21) C22) C17 C18 C19 (C20.trans upd_self) hw0 hw1 N131 hP hD hS (lv_sub hl [0, 1, 2, 3, 4] rfl)
    · have tc128 := (show k.toInt = 5 from ti_eq rfl rg_15 c128)
      refine lv_aload_n hx hb dX12_readStep_143 rfl (lv_at hl 0 rfl) ?_
      refine lv_aload_n hx hb dX12_readStep_144 rfl (lv_at hl 0 rfl) ?_
      refine lv_ldc2 (v := (25209)) hx hb hown (ho (.constantLong RX12 165 (25209)) (List.mem_of_getElem? (i := 11) rfl)) dX12_readStep_145 ?_
      refine zy_i (va_runV (As := [.long 25209]) (rest := [.ref h]) ⟨hx, hb, hml, hown, hts⟩ (n_isWord l dC dI h ad cl H.size τ 25209 hIτ) (cwV 1 hts gd_n_readStep_261_n_isWord rfl rfl rfl dd_n_isWord ⟨Nat.le_of_ble_eq_true rfl, Nat.le_of_ble_eq_true rfl⟩) (preV hP hK hD hE (ci := 12) (q0 := 0) rfl rfl) rfl rfl hl.1 rfl (lv_room (Nat.le_of_ble_eq_true rfl)) dX12_readStep_148 ⟨Nat.le_of_ble_eq_true rfl, Nat.le_of_ble_eq_true rfl⟩) hD hS hA (fun z133 τ132 H locs hq hP hD hS => ?_)
      obtain ⟨rfl, f134⟩ := hq
      refine W.widen (k := 0) (n := 0) (Nat.le_of_ble_eq_true rfl) (Nat.le_of_ble_eq_true rfl) ?_
      refine zy_v (va_runV (As := [.int z133]) (rest := []) ⟨hx, hb, hml, hown, hts⟩ (n_must l dC dI h ad cl H.size τ z133 hIτ (Lx.es hgτ)) (cwV 1 hts gd_n_readStep_278_n_must rfl rfl rfl dd_n_must ⟨Nat.le_of_ble_eq_true rfl, Nat.le_of_ble_eq_true rfl⟩) (preV hP hK hD hE (ci := 12) (q0 := 0) rfl rfl) rfl rfl hl.1 rfl (lv_room (Nat.le_of_ble_eq_true rfl)) dX12_readStep_151 ⟨Nat.le_of_ble_eq_true rfl, Nat.le_of_ble_eq_true rfl⟩) hD hS hA (fun τ135 H locs hq hP hD hS => ?_)
      obtain ⟨hI137, hx138, mo139, lx140⟩ := hq
      have Xτ135 : eqx [6, 7, 8, 9, 10, 4, 5, 17, 18, 19, 20, 21, 27, 28, 26, 12] τ135 σ := eqx.tr hx138 hxτ rg_238
      have Mτ135 : Mo τ135 σ := Mo.tr mo139 (fun h9 => hmτ h9)
      have Lτ135 : Lx τ135 σ := Lx.tr lx140 hgτ
      have W141 : When τ135 ((k.toInt = 0 ∨ k.toInt = 1 ∨ k.toInt = 6 → 0 ≤ va.toInt ∧ va.toInt < (σ.2.1 11 (σ.1 30).toNatClampNeg).toInt) ∧ (k.toInt ≠ 0 ∧ k.toInt ≠ 1 ∧ k.toInt ≠ 6 → 0 ≤ va.toInt ∧ va.toInt < (σ.2.1 12 (σ.1 30).toNatClampNeg).toInt)) := When.mo hw0 mo139
      have W142 : When τ135 (k.toInt = 2 ∨ k.toInt = 3 ∨ k.toInt = 4 ∨ k.toInt = 6 ∨ k.toInt = 7 → 0 ≤ vb.toInt ∧ vb.toInt < (σ.2.1 12 (σ.1 30).toNatClampNeg).toInt) := When.mo hw1 mo139
      refine W.widen (k := 0) (n := 0) (Nat.le_of_ble_eq_true rfl) (Nat.le_of_ble_eq_true rfl) ?_
      refine lv_aload_n hx hb dX12_readStep_154 rfl (lv_at hl 0 rfl) ?_
      refine va_get (D := (dC, dI)) (ci := 12) (v := .ref (ad 19)) (C := RX12) (T := TX12) (N := 59) hx hb hts hin12 hown hK hP 0 rfl rfl 19 (Nat.le_of_ble_eq_true rfl) (ho (.fieldLink RX12 45 "NearEnoughModel" "sB" "[I") (List.mem_of_getElem? (i := 12) rfl)) (fun _ h9 => h9) rfl dX12_readStep_155 ?_
      refine lv_iload_n hx hb dX12_readStep_158 rfl (lv_at hl 2 rfl) ?_
      refine lv_aload_n hx hb dX12_readStep_159 rfl (lv_at hl 0 rfl) ?_
      refine lv_bipush (v := (-99)) hx hb dX12_readStep_160 rg_278 ?_
      refine lv_bipush (v := 99) hx hb dX12_readStep_162 rg_78 ?_
      have kk143 : ((-99) : Int32).toInt = (-99) := rg_279
      have kk144 : (99 : Int32).toInt = 99 := rg_79
      refine zy_i (va_runV (As := [.int (-99), .int 99]) (rest := [.int sx, .ref (ad 19)]) ⟨hx, hb, hml, hown, hts⟩ (n_signed l dC dI h ad cl H.size τ135 (-99) 99 hI137 (by decide) (Lx.es Lτ135)) (cwV 2 hts gd_n_readStep_295_n_signed rfl rfl rfl dd_n_signed ⟨Nat.le_of_ble_eq_true rfl, Nat.le_of_ble_eq_true rfl⟩) (preV hP hK hD hE (ci := 12) (q0 := 0) rfl rfl) rfl rfl hl.1 rfl (lv_room (Nat.le_of_ble_eq_true rfl)) dX12_readStep_164 ⟨Nat.le_of_ble_eq_true rfl, Nat.le_of_ble_eq_true rfl⟩) hD hS hA (fun z146 τ145 H locs hq hP hD hS => ?_)
      obtain ⟨hI147, hx148, f149, f150, mo151, lx152⟩ := hq
      have Xτ145 : eqx [6, 7, 8, 9, 10, 4, 5, 17, 18, 19, 20, 21, 27, 28, 26, 12] τ145 σ := eqx.tr hx148 Xτ135 rg_238
      have Mτ145 : Mo τ145 σ := Mo.tr mo151 (fun h9 => Mτ135 h9)
      have Lτ145 : Lx τ145 σ := Lx.tr lx152 Lτ135
      have W153 : When τ145 ((k.toInt = 0 ∨ k.toInt = 1 ∨ k.toInt = 6 → 0 ≤ va.toInt ∧ va.toInt < (σ.2.1 11 (σ.1 30).toNatClampNeg).toInt) ∧ (k.toInt ≠ 0 ∧ k.toInt ≠ 1 ∧ k.toInt ≠ 6 → 0 ≤ va.toInt ∧ va.toInt < (σ.2.1 12 (σ.1 30).toNatClampNeg).toInt)) := When.mo W141 mo151
      have W154 : When τ145 (k.toInt = 2 ∨ k.toInt = 3 ∨ k.toInt = 4 ∨ k.toInt = 6 ∨ k.toInt = 7 → 0 ≤ vb.toInt ∧ vb.toInt < (σ.2.1 12 (σ.1 30).toNatClampNeg).toInt) := When.mo W142 mo151
      refine W.widen (k := 0) (n := 0) (Nat.le_of_ble_eq_true rfl) (Nat.le_of_ble_eq_true rfl) ?_
      have o41 : 0 ≤ sx.toInt := by omega
      have o42 : sx.toInt < ((24 : Nat) : Int) := by omega
      refine va_iast hx hb hK hP hD hS 11 10 rfl rfl (ti_inx o41 o42) dX12_readStep_167 (fun H locs hP hD hS => ?_)
      rw [wS19] at hP hD
      obtain ⟨τ155, eτ155⟩ : ∃ x9 : MS, x9 = sA τ145 19 (upd (τ145.2.1 19) (Int32.toNatClampNeg sx) z146) := ⟨_, rfl⟩
      have hP : va_P (dC, dI) vwCl (mW h ad cl τ155) H := by rw [eτ155]; exact hP
      have hD : va_D A (mW h ad cl τ155) := by rw [eτ155]; exact hD
      have o43 : ((-99) : Int) ≤ (z146 : Int32).toInt := by omega
      have o44 : (z146 : Int32).toInt ≤ 99 := by omega
      have hIτ155 : Inv τ155 := by rw [eτ155]; exact (Inv_sA1 hI147 (rgu (hI147.2 19) (show ((-99) : Int) ≤ (z146 : Int32).toInt ∧ (z146 : Int32).toInt ≤ 99 from ⟨o43, o44⟩)))
      have Xτ155 : eqx [6, 7, 8, 9, 10, 4, 5, 17, 18, 19, 20, 21, 27, 28, 26, 12] τ155 σ := (eqx.eq eτ155 (eqx.sA Xτ145 rg_280))
      have Mτ155 : Mo τ155 σ := Mo.eq eτ155 (fun h9 => Mτ145 h9)
      have Lτ155 : Lx τ155 σ := Lx.eq eτ155 Lτ145
      have W156 : When τ155 ((k.toInt = 0 ∨ k.toInt = 1 ∨ k.toInt = 6 → 0 ≤ va.toInt ∧ va.toInt < (σ.2.1 11 (σ.1 30).toNatClampNeg).toInt) ∧ (k.toInt ≠ 0 ∧ k.toInt ≠ 1 ∧ k.toInt ≠ 6 → 0 ≤ va.toInt ∧ va.toInt < (σ.2.1 12 (σ.1 30).toNatClampNeg).toInt)) := When.mo W153 (Mo.eq eτ155 (fun h9 => h9))
      have W157 : When τ155 (k.toInt = 2 ∨ k.toInt = 3 ∨ k.toInt = 4 ∨ k.toInt = 6 ∨ k.toInt = 7 → 0 ≤ vb.toInt ∧ vb.toInt < (σ.2.1 12 (σ.1 30).toNatClampNeg).toInt) := When.mo W154 (Mo.eq eτ155 (fun h9 => h9))
      refine lv_aload_n hx hb dX12_readStep_168 rfl (lv_at hl 0 rfl) ?_
      refine lv_aload_n hx hb dX12_readStep_169 rfl (lv_at hl 0 rfl) ?_
      refine lv_ldc2 (v := (1870030194)) hx hb hown (ho (.constantLong RX12 167 (1870030194)) (List.mem_of_getElem? (i := 13) rfl)) dX12_readStep_170 ?_
      refine zy_i (va_runV (As := [.long 1870030194]) (rest := [.ref h]) ⟨hx, hb, hml, hown, hts⟩ (n_isWord l dC dI h ad cl H.size τ155 1870030194 hIτ155) (cwV 1 hts gd_n_readStep_261_n_isWord rfl rfl rfl dd_n_isWord ⟨Nat.le_of_ble_eq_true rfl, Nat.le_of_ble_eq_true rfl⟩) (preV hP hK hD hE (ci := 12) (q0 := 0) rfl rfl) rfl rfl hl.1 rfl (lv_room (Nat.le_of_ble_eq_true rfl)) dX12_readStep_173 ⟨Nat.le_of_ble_eq_true rfl, Nat.le_of_ble_eq_true rfl⟩) hD hS hA (fun z159 τ158 H locs hq hP hD hS => ?_)
      obtain ⟨rfl, f160⟩ := hq
      refine W.widen (k := 0) (n := 0) (Nat.le_of_ble_eq_true rfl) (Nat.le_of_ble_eq_true rfl) ?_
      refine zy_v (va_runV (As := [.int z159]) (rest := []) ⟨hx, hb, hml, hown, hts⟩ (n_must l dC dI h ad cl H.size τ155 z159 hIτ155 (Lx.es Lτ155)) (cwV 1 hts gd_n_readStep_278_n_must rfl rfl rfl dd_n_must ⟨Nat.le_of_ble_eq_true rfl, Nat.le_of_ble_eq_true rfl⟩) (preV hP hK hD hE (ci := 12) (q0 := 0) rfl rfl) rfl rfl hl.1 rfl (lv_room (Nat.le_of_ble_eq_true rfl)) dX12_readStep_176 ⟨Nat.le_of_ble_eq_true rfl, Nat.le_of_ble_eq_true rfl⟩) hD hS hA (fun τ161 H locs hq hP hD hS => ?_)
      obtain ⟨hI163, hx164, mo165, lx166⟩ := hq
      have Xτ161 : eqx [6, 7, 8, 9, 10, 4, 5, 17, 18, 19, 20, 21, 27, 28, 26, 12] τ161 σ := eqx.tr hx164 Xτ155 rg_238
      have Mτ161 : Mo τ161 σ := Mo.tr mo165 (fun h9 => Mτ155 h9)
      have Lτ161 : Lx τ161 σ := Lx.tr lx166 Lτ155
      have W167 : When τ161 ((k.toInt = 0 ∨ k.toInt = 1 ∨ k.toInt = 6 → 0 ≤ va.toInt ∧ va.toInt < (σ.2.1 11 (σ.1 30).toNatClampNeg).toInt) ∧ (k.toInt ≠ 0 ∧ k.toInt ≠ 1 ∧ k.toInt ≠ 6 → 0 ≤ va.toInt ∧ va.toInt < (σ.2.1 12 (σ.1 30).toNatClampNeg).toInt)) := When.mo W156 mo165
      have W168 : When τ161 (k.toInt = 2 ∨ k.toInt = 3 ∨ k.toInt = 4 ∨ k.toInt = 6 ∨ k.toInt = 7 → 0 ≤ vb.toInt ∧ vb.toInt < (σ.2.1 12 (σ.1 30).toNatClampNeg).toInt) := When.mo W157 mo165
      refine W.widen (k := 0) (n := 0) (Nat.le_of_ble_eq_true rfl) (Nat.le_of_ble_eq_true rfl) ?_
      refine lv_aload_n hx hb dX12_readStep_179 rfl (lv_at hl 0 rfl) ?_
      refine va_get (D := (dC, dI)) (ci := 12) (v := .ref (ad 20)) (C := RX12) (T := TX12) (N := 59) hx hb hts hin12 hown hK hP 0 rfl rfl 20 (Nat.le_of_ble_eq_true rfl) (ho (.fieldLink RX12 48 "NearEnoughModel" "sC" "[I") (List.mem_of_getElem? (i := 8) rfl)) (fun _ h9 => h9) rfl dX12_readStep_180 ?_
      refine lv_iload_n hx hb dX12_readStep_183 rfl (lv_at hl 2 rfl) ?_
      refine lv_aload_n hx hb dX12_readStep_184 rfl (lv_at hl 0 rfl) ?_
      refine lv_iconst (v := 1) hx hb dX12_readStep_185 rg_6 ?_
      refine lv_bipush (v := 99) hx hb dX12_readStep_186 rg_78 ?_
      have kk169 : (1 : Int32).toInt = 1 := rg_18
      have kk170 : (99 : Int32).toInt = 99 := rg_79
      refine zy_i (va_runV (As := [.int 1, .int 99]) (rest := [.int sx, .ref (ad 20)]) ⟨hx, hb, hml, hown, hts⟩ (n_numeral l dC dI h ad cl H.size τ161 1 99 hI163 (by decide) (Lx.es Lτ161)) (cwV 2 hts gd_n_readStep_291_n_numeral rfl rfl rfl dd_n_numeral ⟨Nat.le_of_ble_eq_true rfl, Nat.le_of_ble_eq_true rfl⟩) (preV hP hK hD hE (ci := 12) (q0 := 0) rfl rfl) rfl rfl hl.1 rfl (lv_room (Nat.le_of_ble_eq_true rfl)) dX12_readStep_188 ⟨Nat.le_of_ble_eq_true rfl, Nat.le_of_ble_eq_true rfl⟩) hD hS hA (fun z172 τ171 H locs hq hP hD hS => ?_)
      obtain ⟨hI173, hx174, f175, f176, mo177, lx178⟩ := hq
      have Xτ171 : eqx [6, 7, 8, 9, 10, 4, 5, 17, 18, 19, 20, 21, 27, 28, 26, 12] τ171 σ := eqx.tr hx174 Xτ161 rg_238
      have Mτ171 : Mo τ171 σ := Mo.tr mo177 (fun h9 => Mτ161 h9)
      have Lτ171 : Lx τ171 σ := Lx.tr lx178 Lτ161
      have W179 : When τ171 ((k.toInt = 0 ∨ k.toInt = 1 ∨ k.toInt = 6 → 0 ≤ va.toInt ∧ va.toInt < (σ.2.1 11 (σ.1 30).toNatClampNeg).toInt) ∧ (k.toInt ≠ 0 ∧ k.toInt ≠ 1 ∧ k.toInt ≠ 6 → 0 ≤ va.toInt ∧ va.toInt < (σ.2.1 12 (σ.1 30).toNatClampNeg).toInt)) := When.mo W167 mo177
      have W180 : When τ171 (k.toInt = 2 ∨ k.toInt = 3 ∨ k.toInt = 4 ∨ k.toInt = 6 ∨ k.toInt = 7 → 0 ≤ vb.toInt ∧ vb.toInt < (σ.2.1 12 (σ.1 30).toNatClampNeg).toInt) := When.mo W168 mo177
      refine W.widen (k := 0) (n := 0) (Nat.le_of_ble_eq_true rfl) (Nat.le_of_ble_eq_true rfl) ?_
      refine va_iast hx hb hK hP hD hS 12 11 rfl rfl (ti_inx o41 o42) dX12_readStep_191 (fun H locs hP hD hS => ?_)
      rw [wS20] at hP hD
      obtain ⟨τ181, eτ181⟩ : ∃ x9 : MS, x9 = sA τ171 20 (upd (τ171.2.1 20) (Int32.toNatClampNeg sx) z172) := ⟨_, rfl⟩
      have hP : va_P (dC, dI) vwCl (mW h ad cl τ181) H := by rw [eτ181]; exact hP
      have hD : va_D A (mW h ad cl τ181) := by rw [eτ181]; exact hD
      have o45 : ((-1) : Int) ≤ (z172 : Int32).toInt := by omega
      have o46 : (z172 : Int32).toInt ≤ 99 := by omega
      have hIτ181 : Inv τ181 := by rw [eτ181]; exact (Inv_sA1 hI173 (rgu (hI173.2 20) (show ((-1) : Int) ≤ (z172 : Int32).toInt ∧ (z172 : Int32).toInt ≤ 99 from ⟨o45, o46⟩)))
      have Xτ181 : eqx [6, 7, 8, 9, 10, 4, 5, 17, 18, 19, 20, 21, 27, 28, 26, 12] τ181 σ := (eqx.eq eτ181 (eqx.sA Xτ171 rg_239))
      have Mτ181 : Mo τ181 σ := Mo.eq eτ181 (fun h9 => Mτ171 h9)
      have Lτ181 : Lx τ181 σ := Lx.eq eτ181 Lτ171
      have W182 : When τ181 ((k.toInt = 0 ∨ k.toInt = 1 ∨ k.toInt = 6 → 0 ≤ va.toInt ∧ va.toInt < (σ.2.1 11 (σ.1 30).toNatClampNeg).toInt) ∧ (k.toInt ≠ 0 ∧ k.toInt ≠ 1 ∧ k.toInt ≠ 6 → 0 ≤ va.toInt ∧ va.toInt < (σ.2.1 12 (σ.1 30).toNatClampNeg).toInt)) := When.mo W179 (Mo.eq eτ181 (fun h9 => h9))
      have W183 : When τ181 (k.toInt = 2 ∨ k.toInt = 3 ∨ k.toInt = 4 ∨ k.toInt = 6 ∨ k.toInt = 7 → 0 ≤ vb.toInt ∧ vb.toInt < (σ.2.1 12 (σ.1 30).toNatClampNeg).toInt) := When.mo W180 (Mo.eq eτ181 (fun h9 => h9))
      have C11 : (τ181).2.1 11 = (σ.2.1 11) := ((congrArg (fun x9 : MS => x9.2.1 11) eτ181).trans ((tA rg_242).trans (((hx174 11 rg_104).2.1).trans (((hx164 11 rg_104).2.1).trans ((congrArg (fun x9 : MS => x9.2.1 11) eτ155).trans ((tA rg_281).trans (((hx148 11 rg_104).2.1).trans (((hx138 11 rg_104).2.1).trans (hT 11 rg_177 rg_178 rg_263)))))))))
      have C12 : (τ181).2.1 12 = (σ.2.1 12) := ((congrArg (fun x9 : MS => x9.2.1 12) eτ181).trans ((tA rg_240).trans (((hx174 12 rg_110).2.1).trans (((hx164 12 rg_110).2.1).trans ((congrArg (fun x9 : MS => x9.2.1 12) eτ155).trans ((tA rg_282).trans (((hx148 12 rg_110).2.1).trans (((hx138 12 rg_110).2.1).trans (hT 12 rg_173 rg_174 rg_264)))))))))
      have C13 : (τ181).2.1 13 = (σ.2.1 13) := ((congrArg (fun x9 : MS => x9.2.1 13) eτ181).trans ((tA rg_245).trans (((hx174 13 rg_116).2.1).trans (((hx164 13 rg_116).2.1).trans ((congrArg (fun x9 : MS => x9.2.1 13) eτ155).trans ((tA rg_283).trans (((hx148 13 rg_116).2.1).trans (((hx138 13 rg_116).2.1).trans (hT 13 rg_181 rg_182 rg_265)))))))))
      have C14 : (τ181).2.1 14 = (σ.2.1 14) := ((congrArg (fun x9 : MS => x9.2.1 14) eτ181).trans ((tA rg_247).trans (((hx174 14 rg_122).2.1).trans (((hx164 14 rg_122).2.1).trans ((congrArg (fun x9 : MS => x9.2.1 14) eτ155).trans ((tA rg_284).trans (((hx148 14 rg_122).2.1).trans (((hx138 14 rg_122).2.1).trans (hT 14 rg_185 rg_186 rg_266)))))))))
      have C15 : (τ181).2.1 15 = (σ.2.1 15) := ((congrArg (fun x9 : MS => x9.2.1 15) eτ181).trans ((tA rg_249).trans (((hx174 15 rg_100).2.1).trans (((hx164 15 rg_100).2.1).trans ((congrArg (fun x9 : MS => x9.2.1 15) eτ155).trans ((tA rg_285).trans (((hx148 15 rg_100).2.1).trans (((hx138 15 rg_100).2.1).trans (hT 15 rg_189 rg_190 rg_267)))))))))
      have C16 : (τ181).2.1 16 = (σ.2.1 16) := ((congrArg (fun x9 : MS => x9.2.1 16) eτ181).trans ((tA rg_251).trans (((hx174 16 rg_129).2.1).trans (((hx164 16 rg_129).2.1).trans ((congrArg (fun x9 : MS => x9.2.1 16) eτ155).trans ((tA rg_286).trans (((hx148 16 rg_129).2.1).trans (((hx138 16 rg_129).2.1).trans (hT 16 rg_193 rg_194 rg_268)))))))))
      have C17 : (τ181).2.1 17 = (upd (σ.2.1 17) (Int32.toNatClampNeg sx) k) := ((congrArg (fun x9 : MS => x9.2.1 17) eτ181).trans ((tA rg_253).trans (((hx174 17 rg_134).2.1).trans (((hx164 17 rg_134).2.1).trans ((congrArg (fun x9 : MS => x9.2.1 17) eτ155).trans ((tA rg_287).trans (((hx148 17 rg_134).2.1).trans (((hx138 17 rg_134).2.1).trans h17))))))))
      have C18 : (τ181).2.1 18 = (upd (σ.2.1 18) (Int32.toNatClampNeg sx) va) := ((congrArg (fun x9 : MS => x9.2.1 18) eτ181).trans ((tA rg_255).trans (((hx174 18 rg_140).2.1).trans (((hx164 18 rg_140).2.1).trans ((congrArg (fun x9 : MS => x9.2.1 18) eτ155).trans ((tA rg_288).trans (((hx148 18 rg_140).2.1).trans (((hx138 18 rg_140).2.1).trans h18))))))))
      have C19 : (τ181).2.1 19 = (upd (upd (σ.2.1 19) (Int32.toNatClampNeg sx) vb) (Int32.toNatClampNeg sx) z146) := ((congrArg (fun x9 : MS => x9.2.1 19) eτ181).trans ((tA rg_257).trans (((hx174 19 rg_146).2.1).trans (((hx164 19 rg_146).2.1).trans ((congrArg (fun x9 : MS => x9.2.1 19) eτ155).trans (tAe.trans (congrArg (fun f9 => (upd f9 (Int32.toNatClampNeg sx) z146)) (((hx148 19 rg_146).2.1).trans (((hx138 19 rg_146).2.1).trans h19)))))))))
      have C20 : (τ181).2.1 20 = (upd (σ.2.1 20) (Int32.toNatClampNeg sx) z172) := ((congrArg (fun x9 : MS => x9.2.1 20) eτ181).trans (tAe.trans (congrArg (fun f9 => (upd f9 (Int32.toNatClampNeg sx) z172)) (((hx174 20 rg_152).2.1).trans (((hx164 20 rg_152).2.1).trans ((congrArg (fun x9 : MS => x9.2.1 20) eτ155).trans ((tA rg_289).trans (((hx148 20 rg_152).2.1).trans (((hx138 20 rg_152).2.1).trans (hT 20 rg_269 rg_270 rg_271))))))))))
      have C21 : (τ181).2.1 21 = (σ.2.1 21) := ((congrArg (fun x9 : MS => x9.2.1 21) eτ181).trans ((tA rg_260).trans (((hx174 21 rg_158).2.1).trans (((hx164 21 rg_158).2.1).trans ((congrArg (fun x9 : MS => x9.2.1 21) eτ155).trans ((tA rg_290).trans (((hx148 21 rg_158).2.1).trans (((hx138 21 rg_158).2.1).trans (hT 21 rg_234 rg_235 rg_272)))))))))
      have C22 : (τ181).2.1 22 = (σ.2.1 22) := ((congrArg (fun x9 : MS => x9.2.1 22) eτ181).trans ((tA rg_261).trans (((hx174 22 rg_164).2.1).trans (((hx164 22 rg_164).2.1).trans ((congrArg (fun x9 : MS => x9.2.1 22) eτ155).trans ((tA rg_291).trans (((hx148 22 rg_164).2.1).trans (((hx138 22 rg_164).2.1).trans (hT 22 rg_178 rg_202 rg_273)))))))))
      have N185 : When τ181 (k.toInt = 2 ∨ k.toInt = 3 ∨ k.toInt = 4 ∨ k.toInt = 6 ∨ k.toInt = 7 → 0 ≤ z146.toInt ∧ z146.toInt < (σ.2.1 12 (σ.1 30).toNatClampNeg).toInt) := fun h9 => by have q0 := W182 h9; have q1 := W183 h9; omega
      have N186 : When τ181 (k.toInt = 5 → -99 ≤ z146.toInt ∧ z146.toInt ≤ 99 ∧ 1 ≤ z172.toInt ∧ z172.toInt ≤ 99) := fun h9 => by have q0 := W182 h9; have q1 := W183 h9; omega
      have o47 : sx.toInt = 12 * (σ.1 30).toInt + (σ.2.1 12 (σ.1 30).toNatClampNeg).toInt := by omega
      exact pt_192 τ181 sx pl ow va z146 z172 _ _ _ hIτ181 Xτ181 Mτ181 Lτ181 (show sx.toInt = 12 * (σ.1 30).toInt + (σ.2.1 12 (σ.1 30).toNatClampNeg).toInt from o47) (tabL 4 C11 C12 C13 C14 C15 C16 (Or.inl rg_274) (Or.inl rg_275) (Or.inl rg_276) (Or.inl rg_277) (Or.inr C21) C22) C17 C18 (C19.trans upd_upd) C20 W182 N185 N186 hP hD hS (lv_sub hl [0, 1, 2, 3, 4] rfl)
  have pt_118 : ∀ (τ : MS) (sx : Int32) (pl : Int32) (ow : Int64) (va : Int32) (H : Heap) (locs : List Loc) (ls : Array Slot), (Inv τ) → (eqx [6, 7, 8, 9, 10, 4, 5, 17, 18, 19, 20, 21, 27, 28, 26, 12] τ σ) → (Mo τ σ) → (Lx τ σ) → (sx.toInt = 12 * (σ.1 30).toInt + (σ.2.1 12 (σ.1 30).toNatClampNeg).toInt) → (∀ p9, 11 ≤ p9 → p9 ≤ 22 → ¬ (17 ≤ p9 ∧ p9 ≤ 16 + 2) → τ.2.1 p9 = σ.2.1 p9) → (τ.2.1 17 = upd (σ.2.1 17) (Int32.toNatClampNeg sx) k) → (τ.2.1 18 = upd (σ.2.1 18) (Int32.toNatClampNeg sx) va) → (When τ ((k.toInt = 0 ∨ k.toInt = 1 ∨ k.toInt = 6 → 0 ≤ va.toInt ∧ va.toInt < (σ.2.1 11 (σ.1 30).toNatClampNeg).toInt) ∧ (k.toInt ≠ 0 ∧ k.toInt ≠ 1 ∧ k.toInt ≠ 6 → 0 ≤ va.toInt ∧ va.toInt < (σ.2.1 12 (σ.1 30).toNatClampNeg).toInt))) → va_P (dC, dI) vwCl (mW h ad cl τ) H → va_D A (mW h ad cl τ) → va_S A s.heap H locs → lv_has ls 6 [(0, .ref h), (1, .int k), (2, .int sx), (3, .int pl), (4, .long ow)] → W p l e (headSpec vs_n_readStep rm_n_readStep).room s m #[Value.ref h, Value.int k] below meth c H locs 0 0 Q (F0 m 118 ls []) := by
    intro τ sx pl ow va H locs ls hIτ hxτ hmτ hgτ hR hT h17 h18 hw0 hP hD hS hl
    refine lv_iload_n hx hb dX12_readStep_118 rfl (lv_at hl 1 rfl) ?_
    refine lv_iconst (v := 2) hx hb dX12_readStep_119 rg_19 ?_
    refine lv_icmp_lt (tgt := 138) hx hb dX12_readStep_120 rfl (fun c187 => ?_) (fun c187 => ?_)
    · have tc187 := (show k.toInt < 2 from ti_lt rfl rg_20 c187)
      have C11 : (τ).2.1 11 = (σ.2.1 11) := (hT 11 rg_177 rg_178 rg_292)
      have C12 : (τ).2.1 12 = (σ.2.1 12) := (hT 12 rg_173 rg_174 rg_293)
      have C13 : (τ).2.1 13 = (σ.2.1 13) := (hT 13 rg_181 rg_182 rg_294)
      have C14 : (τ).2.1 14 = (σ.2.1 14) := (hT 14 rg_185 rg_186 rg_295)
      have C15 : (τ).2.1 15 = (σ.2.1 15) := (hT 15 rg_189 rg_190 rg_296)
      have C16 : (τ).2.1 16 = (σ.2.1 16) := (hT 16 rg_193 rg_194 rg_297)
      have C17 : (τ).2.1 17 = (upd (σ.2.1 17) (Int32.toNatClampNeg sx) k) := h17
      have C18 : (τ).2.1 18 = (upd (σ.2.1 18) (Int32.toNatClampNeg sx) va) := h18
      have C19 : (τ).2.1 19 = (σ.2.1 19) := (hT 19 rg_298 rg_299 rg_300)
      have C20 : (τ).2.1 20 = (σ.2.1 20) := (hT 20 rg_269 rg_270 rg_301)
      have C21 : (τ).2.1 21 = (σ.2.1 21) := (hT 21 rg_234 rg_235 rg_302)
      have C22 : (τ).2.1 22 = (σ.2.1 22) := (hT 22 rg_178 rg_202 rg_303)
      have N189 : When τ (k.toInt = 2 ∨ k.toInt = 3 ∨ k.toInt = 4 ∨ k.toInt = 6 ∨ k.toInt = 7 → 0 ≤ ((σ.2.1 19) (Int32.toNatClampNeg sx)).toInt ∧ ((σ.2.1 19) (Int32.toNatClampNeg sx)).toInt < (σ.2.1 12 (σ.1 30).toNatClampNeg).toInt) := fun h9 => by have q0 := hw0 h9; omega
      have o48 : sx.toInt = 12 * (σ.1 30).toInt + (σ.2.1 12 (σ.1 30).toNatClampNeg).toInt := by omega
      exact pt_138 τ sx pl ow va ((σ.2.1 19) (Int32.toNatClampNeg sx)) _ _ _ hIτ hxτ hmτ hgτ (show sx.toInt = 12 * (σ.1 30).toInt + (σ.2.1 12 (σ.1 30).toNatClampNeg).toInt from o48) (tabL 3 C11 C12 C13 C14 C15 C16 (Or.inl rg_304) (Or.inl rg_305) (Or.inl rg_306) (Or.inr C20) (Or.inr C21) C22) C17 C18 (C19.trans upd_self) hw0 N189 hP hD hS (lv_sub hl [0, 1, 2, 3, 4] rfl)
    · have tc187 := (show 2 ≤ k.toInt from ti_nlt rfl rg_20 c187)
      refine lv_iload_n hx hb dX12_readStep_123 rfl (lv_at hl 1 rfl) ?_
      refine lv_iconst (v := 5) hx hb dX12_readStep_124 rg_14 ?_
      refine lv_icmp_eq (tgt := 138) hx hb dX12_readStep_125 rfl (fun c190 => ?_) (fun c190 => ?_)
      · have tc190 := (show k.toInt = 5 from ti_eq rfl rg_15 c190)
        have C11 : (τ).2.1 11 = (σ.2.1 11) := (hT 11 rg_177 rg_178 rg_292)
        have C12 : (τ).2.1 12 = (σ.2.1 12) := (hT 12 rg_173 rg_174 rg_293)
        have C13 : (τ).2.1 13 = (σ.2.1 13) := (hT 13 rg_181 rg_182 rg_294)
        have C14 : (τ).2.1 14 = (σ.2.1 14) := (hT 14 rg_185 rg_186 rg_295)
        have C15 : (τ).2.1 15 = (σ.2.1 15) := (hT 15 rg_189 rg_190 rg_296)
        have C16 : (τ).2.1 16 = (σ.2.1 16) := (hT 16 rg_193 rg_194 rg_297)
        have C17 : (τ).2.1 17 = (upd (σ.2.1 17) (Int32.toNatClampNeg sx) k) := h17
        have C18 : (τ).2.1 18 = (upd (σ.2.1 18) (Int32.toNatClampNeg sx) va) := h18
        have C19 : (τ).2.1 19 = (σ.2.1 19) := (hT 19 rg_298 rg_299 rg_300)
        have C20 : (τ).2.1 20 = (σ.2.1 20) := (hT 20 rg_269 rg_270 rg_301)
        have C21 : (τ).2.1 21 = (σ.2.1 21) := (hT 21 rg_234 rg_235 rg_302)
        have C22 : (τ).2.1 22 = (σ.2.1 22) := (hT 22 rg_178 rg_202 rg_303)
        have N192 : When τ (k.toInt = 2 ∨ k.toInt = 3 ∨ k.toInt = 4 ∨ k.toInt = 6 ∨ k.toInt = 7 → 0 ≤ ((σ.2.1 19) (Int32.toNatClampNeg sx)).toInt ∧ ((σ.2.1 19) (Int32.toNatClampNeg sx)).toInt < (σ.2.1 12 (σ.1 30).toNatClampNeg).toInt) := fun h9 => by have q0 := hw0 h9; omega
        have o49 : sx.toInt = 12 * (σ.1 30).toInt + (σ.2.1 12 (σ.1 30).toNatClampNeg).toInt := by omega
        exact pt_138 τ sx pl ow va ((σ.2.1 19) (Int32.toNatClampNeg sx)) _ _ _ hIτ hxτ hmτ hgτ (show sx.toInt = 12 * (σ.1 30).toInt + (σ.2.1 12 (σ.1 30).toNatClampNeg).toInt from o49) (tabL 3 C11 C12 C13 C14 C15 C16 (Or.inl rg_304) (Or.inl rg_305) (Or.inl rg_306) (Or.inr C20) (Or.inr C21) C22) C17 C18 (C19.trans upd_self) hw0 N192 hP hD hS (lv_sub hl [0, 1, 2, 3, 4] rfl)
      · have tc190 := (show k.toInt ≠ 5 from ti_ne rfl rg_15 c190)
        refine lv_aload_n hx hb dX12_readStep_128 rfl (lv_at hl 0 rfl) ?_
        refine va_get (D := (dC, dI)) (ci := 12) (v := .ref (ad 19)) (C := RX12) (T := TX12) (N := 59) hx hb hts hin12 hown hK hP 0 rfl rfl 19 (Nat.le_of_ble_eq_true rfl) (ho (.fieldLink RX12 45 "NearEnoughModel" "sB" "[I") (List.mem_of_getElem? (i := 12) rfl)) (fun _ h9 => h9) rfl dX12_readStep_129 ?_
        refine lv_iload_n hx hb dX12_readStep_132 rfl (lv_at hl 2 rfl) ?_
        refine lv_aload_n hx hb dX12_readStep_133 rfl (lv_at hl 0 rfl) ?_
        refine zy_i (va_runV (As := []) (rest := [.int sx, .ref (ad 19)]) ⟨hx, hb, hml, hown, hts⟩ (n_aStep l dC dI h ad cl H.size τ  hIτ (Lx.es hgτ)) (cwV 0 hts gd_n_readStep_304_n_aStep rfl rfl rfl dd_n_aStep ⟨Nat.le_of_ble_eq_true rfl, Nat.le_of_ble_eq_true rfl⟩) (preV hP hK hD hE (ci := 12) (q0 := 0) rfl rfl) rfl rfl hl.1 rfl (lv_room (Nat.le_of_ble_eq_true rfl)) dX12_readStep_134 ⟨Nat.le_of_ble_eq_true rfl, Nat.le_of_ble_eq_true rfl⟩) hD hS hA (fun z194 τ193 H locs hq hP hD hS => ?_)
        obtain ⟨hI195, hx196, f197, f198, f199, mo200, lx201⟩ := hq
        have Xτ193 : eqx [6, 7, 8, 9, 10, 4, 5, 17, 18, 19, 20, 21, 27, 28, 26, 12] τ193 σ := eqx.tr hx196 hxτ rg_238
        have Mτ193 : Mo τ193 σ := Mo.tr mo200 (fun h9 => hmτ h9)
        have Lτ193 : Lx τ193 σ := Lx.tr lx201 hgτ
        have W202 : When τ193 ((k.toInt = 0 ∨ k.toInt = 1 ∨ k.toInt = 6 → 0 ≤ va.toInt ∧ va.toInt < (σ.2.1 11 (σ.1 30).toNatClampNeg).toInt) ∧ (k.toInt ≠ 0 ∧ k.toInt ≠ 1 ∧ k.toInt ≠ 6 → 0 ≤ va.toInt ∧ va.toInt < (σ.2.1 12 (σ.1 30).toNatClampNeg).toInt)) := When.mo hw0 mo200
        have W203 : When τ193 (0 ≤ z194.toInt ∧ z194.toInt < ((σ.2.1 12) ((σ.1 30)).toNatClampNeg).toInt) := When.cv f199 (hT 12 rg_173 rg_174 rg_293) ((hxτ 30 rg_172).1)
        refine W.widen (k := 0) (n := 0) (Nat.le_of_ble_eq_true rfl) (Nat.le_of_ble_eq_true rfl) ?_
        have o50 : 0 ≤ sx.toInt := by omega
        have o51 : sx.toInt < ((24 : Nat) : Int) := by omega
        refine va_iast hx hb hK hP hD hS 11 10 rfl rfl (ti_inx o50 o51) dX12_readStep_137 (fun H locs hP hD hS => ?_)
        rw [wS19] at hP hD
        obtain ⟨τ204, eτ204⟩ : ∃ x9 : MS, x9 = sA τ193 19 (upd (τ193.2.1 19) (Int32.toNatClampNeg sx) z194) := ⟨_, rfl⟩
        have hP : va_P (dC, dI) vwCl (mW h ad cl τ204) H := by rw [eτ204]; exact hP
        have hD : va_D A (mW h ad cl τ204) := by rw [eτ204]; exact hD
        have o52 : ((-99) : Int) ≤ (z194 : Int32).toInt := by omega
        have o53 : (z194 : Int32).toInt ≤ 99 := by omega
        have hIτ204 : Inv τ204 := by rw [eτ204]; exact (Inv_sA1 hI195 (rgu (hI195.2 19) (show ((-99) : Int) ≤ (z194 : Int32).toInt ∧ (z194 : Int32).toInt ≤ 99 from ⟨o52, o53⟩)))
        have Xτ204 : eqx [6, 7, 8, 9, 10, 4, 5, 17, 18, 19, 20, 21, 27, 28, 26, 12] τ204 σ := (eqx.eq eτ204 (eqx.sA Xτ193 rg_280))
        have Mτ204 : Mo τ204 σ := Mo.eq eτ204 (fun h9 => Mτ193 h9)
        have Lτ204 : Lx τ204 σ := Lx.eq eτ204 Lτ193
        have W205 : When τ204 ((k.toInt = 0 ∨ k.toInt = 1 ∨ k.toInt = 6 → 0 ≤ va.toInt ∧ va.toInt < (σ.2.1 11 (σ.1 30).toNatClampNeg).toInt) ∧ (k.toInt ≠ 0 ∧ k.toInt ≠ 1 ∧ k.toInt ≠ 6 → 0 ≤ va.toInt ∧ va.toInt < (σ.2.1 12 (σ.1 30).toNatClampNeg).toInt)) := When.mo W202 (Mo.eq eτ204 (fun h9 => h9))
        have W206 : When τ204 (0 ≤ z194.toInt ∧ z194.toInt < ((σ.2.1 12) ((σ.1 30)).toNatClampNeg).toInt) := When.mo W203 (Mo.eq eτ204 (fun h9 => h9))
        have C11 : (τ204).2.1 11 = (σ.2.1 11) := ((congrArg (fun x9 : MS => x9.2.1 11) eτ204).trans ((tA rg_281).trans (((hx196 11 rg_104).2.1).trans (hT 11 rg_177 rg_178 rg_292))))
        have C12 : (τ204).2.1 12 = (σ.2.1 12) := ((congrArg (fun x9 : MS => x9.2.1 12) eτ204).trans ((tA rg_282).trans (((hx196 12 rg_110).2.1).trans (hT 12 rg_173 rg_174 rg_293))))
        have C13 : (τ204).2.1 13 = (σ.2.1 13) := ((congrArg (fun x9 : MS => x9.2.1 13) eτ204).trans ((tA rg_283).trans (((hx196 13 rg_116).2.1).trans (hT 13 rg_181 rg_182 rg_294))))
        have C14 : (τ204).2.1 14 = (σ.2.1 14) := ((congrArg (fun x9 : MS => x9.2.1 14) eτ204).trans ((tA rg_284).trans (((hx196 14 rg_122).2.1).trans (hT 14 rg_185 rg_186 rg_295))))
        have C15 : (τ204).2.1 15 = (σ.2.1 15) := ((congrArg (fun x9 : MS => x9.2.1 15) eτ204).trans ((tA rg_285).trans (((hx196 15 rg_100).2.1).trans (hT 15 rg_189 rg_190 rg_296))))
        have C16 : (τ204).2.1 16 = (σ.2.1 16) := ((congrArg (fun x9 : MS => x9.2.1 16) eτ204).trans ((tA rg_286).trans (((hx196 16 rg_129).2.1).trans (hT 16 rg_193 rg_194 rg_297))))
        have C17 : (τ204).2.1 17 = (upd (σ.2.1 17) (Int32.toNatClampNeg sx) k) := ((congrArg (fun x9 : MS => x9.2.1 17) eτ204).trans ((tA rg_287).trans (((hx196 17 rg_134).2.1).trans h17)))
        have C18 : (τ204).2.1 18 = (upd (σ.2.1 18) (Int32.toNatClampNeg sx) va) := ((congrArg (fun x9 : MS => x9.2.1 18) eτ204).trans ((tA rg_288).trans (((hx196 18 rg_140).2.1).trans h18)))
        have C19 : (τ204).2.1 19 = (upd (σ.2.1 19) (Int32.toNatClampNeg sx) z194) := ((congrArg (fun x9 : MS => x9.2.1 19) eτ204).trans (tAe.trans (congrArg (fun f9 => (upd f9 (Int32.toNatClampNeg sx) z194)) (((hx196 19 rg_146).2.1).trans (hT 19 rg_298 rg_299 rg_300)))))
        have C20 : (τ204).2.1 20 = (σ.2.1 20) := ((congrArg (fun x9 : MS => x9.2.1 20) eτ204).trans ((tA rg_289).trans (((hx196 20 rg_152).2.1).trans (hT 20 rg_269 rg_270 rg_301))))
        have C21 : (τ204).2.1 21 = (σ.2.1 21) := ((congrArg (fun x9 : MS => x9.2.1 21) eτ204).trans ((tA rg_290).trans (((hx196 21 rg_158).2.1).trans (hT 21 rg_234 rg_235 rg_302))))
        have C22 : (τ204).2.1 22 = (σ.2.1 22) := ((congrArg (fun x9 : MS => x9.2.1 22) eτ204).trans ((tA rg_291).trans (((hx196 22 rg_164).2.1).trans (hT 22 rg_178 rg_202 rg_303))))
        have N208 : When τ204 (k.toInt = 2 ∨ k.toInt = 3 ∨ k.toInt = 4 ∨ k.toInt = 6 ∨ k.toInt = 7 → 0 ≤ z194.toInt ∧ z194.toInt < (σ.2.1 12 (σ.1 30).toNatClampNeg).toInt) := fun h9 => by have q0 := W205 h9; have q1 := W206 h9; omega
        have o54 : sx.toInt = 12 * (σ.1 30).toInt + (σ.2.1 12 (σ.1 30).toNatClampNeg).toInt := by omega
        exact pt_138 τ204 sx pl ow va z194 _ _ _ hIτ204 Xτ204 Mτ204 Lτ204 (show sx.toInt = 12 * (σ.1 30).toInt + (σ.2.1 12 (σ.1 30).toNatClampNeg).toInt from o54) (tabL 3 C11 C12 C13 C14 C15 C16 (Or.inl rg_304) (Or.inl rg_305) (Or.inl rg_306) (Or.inr C20) (Or.inr C21) C22) C17 C18 C19 W205 N208 hP hD hS (lv_sub hl [0, 1, 2, 3, 4] rfl)
  have pt_101 : ∀ (τ : MS) (sx : Int32) (pl : Int32) (ow : Int64) (va : Int32) (H : Heap) (locs : List Loc) (ls : Array Slot), (Inv τ) → (eqx [6, 7, 8, 9, 10, 4, 5, 17, 18, 19, 20, 21, 27, 28, 26, 12] τ σ) → (Mo τ σ) → (Lx τ σ) → (sx.toInt = 12 * (σ.1 30).toInt + (σ.2.1 12 (σ.1 30).toNatClampNeg).toInt) → (∀ p9, 11 ≤ p9 → p9 ≤ 22 → ¬ (17 ≤ p9 ∧ p9 ≤ 16 + 2) → τ.2.1 p9 = σ.2.1 p9) → (τ.2.1 17 = upd (σ.2.1 17) (Int32.toNatClampNeg sx) k) → (τ.2.1 18 = upd (σ.2.1 18) (Int32.toNatClampNeg sx) va) → (When τ ((k.toInt = 0 ∨ k.toInt = 1 ∨ k.toInt = 6 → 0 ≤ va.toInt ∧ va.toInt < (σ.2.1 11 (σ.1 30).toNatClampNeg).toInt) ∧ (k.toInt ≠ 0 ∧ k.toInt ≠ 1 ∧ k.toInt ≠ 6 → 0 ≤ va.toInt ∧ va.toInt < (σ.2.1 12 (σ.1 30).toNatClampNeg).toInt))) → va_P (dC, dI) vwCl (mW h ad cl τ) H → va_D A (mW h ad cl τ) → va_S A s.heap H locs → lv_has ls 6 [(0, .ref h), (1, .int k), (2, .int sx), (3, .int pl), (4, .long ow)] → W p l e (headSpec vs_n_readStep rm_n_readStep).room s m #[Value.ref h, Value.int k] below meth c H locs 0 0 Q (F0 m 101 ls []) := by
    intro τ sx pl ow va H locs ls hIτ hxτ hmτ hgτ hR hT h17 h18 hw0 hP hD hS hl
    refine lv_iload_n hx hb dX12_readStep_101 rfl (lv_at hl 1 rfl) ?_
    refine lv_bipush (v := 6) hx hb dX12_readStep_102 rg_55 ?_
    refine lv_icmp_ne (tgt := 118) hx hb dX12_readStep_104 rfl (fun c209 => ?_) (fun c209 => ?_)
    · have tc209 := (show k.toInt ≠ 6 from ti_ne rfl rg_70 c209)
      have C11 : (τ).2.1 11 = (σ.2.1 11) := (hT 11 rg_177 rg_178 rg_292)
      have C12 : (τ).2.1 12 = (σ.2.1 12) := (hT 12 rg_173 rg_174 rg_293)
      have C13 : (τ).2.1 13 = (σ.2.1 13) := (hT 13 rg_181 rg_182 rg_294)
      have C14 : (τ).2.1 14 = (σ.2.1 14) := (hT 14 rg_185 rg_186 rg_295)
      have C15 : (τ).2.1 15 = (σ.2.1 15) := (hT 15 rg_189 rg_190 rg_296)
      have C16 : (τ).2.1 16 = (σ.2.1 16) := (hT 16 rg_193 rg_194 rg_297)
      have C17 : (τ).2.1 17 = (upd (σ.2.1 17) (Int32.toNatClampNeg sx) k) := h17
      have C18 : (τ).2.1 18 = (upd (σ.2.1 18) (Int32.toNatClampNeg sx) va) := h18
      have C19 : (τ).2.1 19 = (σ.2.1 19) := (hT 19 rg_298 rg_299 rg_300)
      have C20 : (τ).2.1 20 = (σ.2.1 20) := (hT 20 rg_269 rg_270 rg_301)
      have C21 : (τ).2.1 21 = (σ.2.1 21) := (hT 21 rg_234 rg_235 rg_302)
      have C22 : (τ).2.1 22 = (σ.2.1 22) := (hT 22 rg_178 rg_202 rg_303)
      have o55 : sx.toInt = 12 * (σ.1 30).toInt + (σ.2.1 12 (σ.1 30).toNatClampNeg).toInt := by omega
      exact pt_118 τ sx pl ow va _ _ _ hIτ hxτ hmτ hgτ (show sx.toInt = 12 * (σ.1 30).toInt + (σ.2.1 12 (σ.1 30).toNatClampNeg).toInt from o55) (tabL 2 C11 C12 C13 C14 C15 C16 (Or.inl rg_307) (Or.inl rg_308) (Or.inr C19) (Or.inr C20) (Or.inr C21) C22) C17 C18 hw0 hP hD hS (lv_sub hl [0, 1, 2, 3, 4] rfl)
    · have tc209 := (show k.toInt = 6 from ti_eq rfl rg_70 c209)
      refine lv_aload_n hx hb dX12_readStep_107 rfl (lv_at hl 0 rfl) ?_
      refine lv_aload_n hx hb dX12_readStep_108 rfl (lv_at hl 0 rfl) ?_
      refine lv_ldc2 (v := (482854658917)) hx hb hown (ho (.constantLong RX12 171 (482854658917)) (List.mem_of_getElem? (i := 14) rfl)) dX12_readStep_109 ?_
      refine zy_i (va_runV (As := [.long 482854658917]) (rest := [.ref h]) ⟨hx, hb, hml, hown, hts⟩ (n_isWord l dC dI h ad cl H.size τ 482854658917 hIτ) (cwV 1 hts gd_n_readStep_261_n_isWord rfl rfl rfl dd_n_isWord ⟨Nat.le_of_ble_eq_true rfl, Nat.le_of_ble_eq_true rfl⟩) (preV hP hK hD hE (ci := 12) (q0 := 0) rfl rfl) rfl rfl hl.1 rfl (lv_room (Nat.le_of_ble_eq_true rfl)) dX12_readStep_112 ⟨Nat.le_of_ble_eq_true rfl, Nat.le_of_ble_eq_true rfl⟩) hD hS hA (fun z212 τ211 H locs hq hP hD hS => ?_)
      obtain ⟨rfl, f213⟩ := hq
      refine W.widen (k := 0) (n := 0) (Nat.le_of_ble_eq_true rfl) (Nat.le_of_ble_eq_true rfl) ?_
      refine zy_v (va_runV (As := [.int z212]) (rest := []) ⟨hx, hb, hml, hown, hts⟩ (n_must l dC dI h ad cl H.size τ z212 hIτ (Lx.es hgτ)) (cwV 1 hts gd_n_readStep_278_n_must rfl rfl rfl dd_n_must ⟨Nat.le_of_ble_eq_true rfl, Nat.le_of_ble_eq_true rfl⟩) (preV hP hK hD hE (ci := 12) (q0 := 0) rfl rfl) rfl rfl hl.1 rfl (lv_room (Nat.le_of_ble_eq_true rfl)) dX12_readStep_115 ⟨Nat.le_of_ble_eq_true rfl, Nat.le_of_ble_eq_true rfl⟩) hD hS hA (fun τ214 H locs hq hP hD hS => ?_)
      obtain ⟨hI216, hx217, mo218, lx219⟩ := hq
      have Xτ214 : eqx [6, 7, 8, 9, 10, 4, 5, 17, 18, 19, 20, 21, 27, 28, 26, 12] τ214 σ := eqx.tr hx217 hxτ rg_238
      have Mτ214 : Mo τ214 σ := Mo.tr mo218 (fun h9 => hmτ h9)
      have Lτ214 : Lx τ214 σ := Lx.tr lx219 hgτ
      have W220 : When τ214 ((k.toInt = 0 ∨ k.toInt = 1 ∨ k.toInt = 6 → 0 ≤ va.toInt ∧ va.toInt < (σ.2.1 11 (σ.1 30).toNatClampNeg).toInt) ∧ (k.toInt ≠ 0 ∧ k.toInt ≠ 1 ∧ k.toInt ≠ 6 → 0 ≤ va.toInt ∧ va.toInt < (σ.2.1 12 (σ.1 30).toNatClampNeg).toInt)) := When.mo hw0 mo218
      refine W.widen (k := 0) (n := 0) (Nat.le_of_ble_eq_true rfl) (Nat.le_of_ble_eq_true rfl) ?_
      have C11 : (τ214).2.1 11 = (σ.2.1 11) := (((hx217 11 rg_104).2.1).trans (hT 11 rg_177 rg_178 rg_292))
      have C12 : (τ214).2.1 12 = (σ.2.1 12) := (((hx217 12 rg_110).2.1).trans (hT 12 rg_173 rg_174 rg_293))
      have C13 : (τ214).2.1 13 = (σ.2.1 13) := (((hx217 13 rg_116).2.1).trans (hT 13 rg_181 rg_182 rg_294))
      have C14 : (τ214).2.1 14 = (σ.2.1 14) := (((hx217 14 rg_122).2.1).trans (hT 14 rg_185 rg_186 rg_295))
      have C15 : (τ214).2.1 15 = (σ.2.1 15) := (((hx217 15 rg_100).2.1).trans (hT 15 rg_189 rg_190 rg_296))
      have C16 : (τ214).2.1 16 = (σ.2.1 16) := (((hx217 16 rg_129).2.1).trans (hT 16 rg_193 rg_194 rg_297))
      have C17 : (τ214).2.1 17 = (upd (σ.2.1 17) (Int32.toNatClampNeg sx) k) := (((hx217 17 rg_134).2.1).trans h17)
      have C18 : (τ214).2.1 18 = (upd (σ.2.1 18) (Int32.toNatClampNeg sx) va) := (((hx217 18 rg_140).2.1).trans h18)
      have C19 : (τ214).2.1 19 = (σ.2.1 19) := (((hx217 19 rg_146).2.1).trans (hT 19 rg_298 rg_299 rg_300))
      have C20 : (τ214).2.1 20 = (σ.2.1 20) := (((hx217 20 rg_152).2.1).trans (hT 20 rg_269 rg_270 rg_301))
      have C21 : (τ214).2.1 21 = (σ.2.1 21) := (((hx217 21 rg_158).2.1).trans (hT 21 rg_234 rg_235 rg_302))
      have C22 : (τ214).2.1 22 = (σ.2.1 22) := (((hx217 22 rg_164).2.1).trans (hT 22 rg_178 rg_202 rg_303))
      have o56 : sx.toInt = 12 * (σ.1 30).toInt + (σ.2.1 12 (σ.1 30).toNatClampNeg).toInt := by omega
      exact pt_118 τ214 sx pl ow va _ _ _ hI216 Xτ214 Mτ214 Lτ214 (show sx.toInt = 12 * (σ.1 30).toInt + (σ.2.1 12 (σ.1 30).toNatClampNeg).toInt from o56) (tabL 2 C11 C12 C13 C14 C15 C16 (Or.inl rg_307) (Or.inl rg_308) (Or.inr C19) (Or.inr C20) (Or.inr C21) C22) C17 C18 W220 hP hD hS (lv_sub hl [0, 1, 2, 3, 4] rfl)
  have pt_73 : ∀ (τ : MS) (sx : Int32) (pl : Int32) (ow : Int64) (H : Heap) (locs : List Loc) (ls : Array Slot), (Inv τ) → (eqx [6, 7, 8, 9, 10, 4, 5, 17, 18, 19, 20, 21, 27, 28, 26, 12] τ σ) → (Mo τ σ) → (Lx τ σ) → (sx.toInt = 12 * (σ.1 30).toInt + (σ.2.1 12 (σ.1 30).toNatClampNeg).toInt) → (∀ p9, 11 ≤ p9 → p9 ≤ 22 → ¬ (17 ≤ p9 ∧ p9 ≤ 16 + 1) → τ.2.1 p9 = σ.2.1 p9) → (τ.2.1 17 = upd (σ.2.1 17) (Int32.toNatClampNeg sx) k) → va_P (dC, dI) vwCl (mW h ad cl τ) H → va_D A (mW h ad cl τ) → va_S A s.heap H locs → lv_has ls 6 [(0, .ref h), (1, .int k), (2, .int sx), (3, .int pl), (4, .long ow)] → W p l e (headSpec vs_n_readStep rm_n_readStep).room s m #[Value.ref h, Value.int k] below meth c H locs 0 0 Q (F0 m 73 ls []) := by
    intro τ sx pl ow H locs ls hIτ hxτ hmτ hgτ hR hT h17 hP hD hS hl
    refine lv_aload_n hx hb dX12_readStep_73 rfl (lv_at hl 0 rfl) ?_
    refine va_get (D := (dC, dI)) (ci := 12) (v := .ref (ad 18)) (C := RX12) (T := TX12) (N := 59) hx hb hts hin12 hown hK hP 0 rfl rfl 18 (Nat.le_of_ble_eq_true rfl) (ho (.fieldLink RX12 42 "NearEnoughModel" "sA" "[I") (List.mem_of_getElem? (i := 15) rfl)) (fun _ h9 => h9) rfl dX12_readStep_74 ?_
    refine lv_iload_n hx hb dX12_readStep_77 rfl (lv_at hl 2 rfl) ?_
    refine lv_iload_n hx hb dX12_readStep_78 rfl (lv_at hl 1 rfl) ?_
    refine lv_iconst (v := 1) hx hb dX12_readStep_79 rg_6 ?_
    refine lv_icmp_le (tgt := 89) hx hb dX12_readStep_80 rfl (fun c222 => ?_) (fun c222 => ?_)
    · have tc222 := (show k.toInt ≤ 1 from ti_le rfl rg_18 c222)
      refine lv_aload_n hx hb dX12_readStep_89 rfl (lv_at hl 0 rfl) ?_
      refine zy_i (va_runV (As := []) (rest := [.int sx, .ref (ad 18)]) ⟨hx, hb, hml, hown, hts⟩ (n_aRow l dC dI h ad cl H.size τ  hIτ (Lx.es hgτ)) (cwV 0 hts gd_n_readStep_301_n_aRow rfl rfl rfl dd_n_aRow ⟨Nat.le_of_ble_eq_true rfl, Nat.le_of_ble_eq_true rfl⟩) (preV hP hK hD hE (ci := 12) (q0 := 0) rfl rfl) rfl rfl hl.1 rfl (lv_room (Nat.le_of_ble_eq_true rfl)) dX12_readStep_90 ⟨Nat.le_of_ble_eq_true rfl, Nat.le_of_ble_eq_true rfl⟩) hD hS hA (fun z224 τ223 H locs hq hP hD hS => ?_)
      obtain ⟨hI225, hx226, f227, f228, f229, mo230, lx231⟩ := hq
      have Xτ223 : eqx [6, 7, 8, 9, 10, 4, 5, 17, 18, 19, 20, 21, 27, 28, 26, 12] τ223 σ := eqx.tr hx226 hxτ rg_238
      have Mτ223 : Mo τ223 σ := Mo.tr mo230 (fun h9 => hmτ h9)
      have Lτ223 : Lx τ223 σ := Lx.tr lx231 hgτ
      have W232 : When τ223 (0 ≤ z224.toInt ∧ z224.toInt < ((σ.2.1 11) ((σ.1 30)).toNatClampNeg).toInt) := When.cv f229 (hT 11 rg_177 rg_178 rg_309) ((hxτ 30 rg_172).1)
      refine W.widen (k := 0) (n := 0) (Nat.le_of_ble_eq_true rfl) (Nat.le_of_ble_eq_true rfl) ?_
      refine lv_goto (tgt := 100) hx hb dX12_readStep_93 rfl ?_
      have o57 : 0 ≤ sx.toInt := by omega
      have o58 : sx.toInt < ((24 : Nat) : Int) := by omega
      refine va_iast hx hb hK hP hD hS 10 9 rfl rfl (ti_inx o57 o58) dX12_readStep_100 (fun H locs hP hD hS => ?_)
      rw [wS18] at hP hD
      obtain ⟨τ233, eτ233⟩ : ∃ x9 : MS, x9 = sA τ223 18 (upd (τ223.2.1 18) (Int32.toNatClampNeg sx) z224) := ⟨_, rfl⟩
      have hP : va_P (dC, dI) vwCl (mW h ad cl τ233) H := by rw [eτ233]; exact hP
      have hD : va_D A (mW h ad cl τ233) := by rw [eτ233]; exact hD
      have o59 : ((-1) : Int) ≤ (z224 : Int32).toInt := by omega
      have o60 : (z224 : Int32).toInt ≤ 11 := by omega
      have hIτ233 : Inv τ233 := by rw [eτ233]; exact (Inv_sA1 hI225 (rgu (hI225.2 18) (show ((-1) : Int) ≤ (z224 : Int32).toInt ∧ (z224 : Int32).toInt ≤ 11 from ⟨o59, o60⟩)))
      have Xτ233 : eqx [6, 7, 8, 9, 10, 4, 5, 17, 18, 19, 20, 21, 27, 28, 26, 12] τ233 σ := (eqx.eq eτ233 (eqx.sA Xτ223 rg_310))
      have Mτ233 : Mo τ233 σ := Mo.eq eτ233 (fun h9 => Mτ223 h9)
      have Lτ233 : Lx τ233 σ := Lx.eq eτ233 Lτ223
      have W234 : When τ233 (0 ≤ z224.toInt ∧ z224.toInt < ((σ.2.1 11) ((σ.1 30)).toNatClampNeg).toInt) := When.mo W232 (Mo.eq eτ233 (fun h9 => h9))
      have C11 : (τ233).2.1 11 = (σ.2.1 11) := ((congrArg (fun x9 : MS => x9.2.1 11) eτ233).trans ((tA rg_311).trans (((hx226 11 rg_104).2.1).trans (hT 11 rg_177 rg_178 rg_309))))
      have C12 : (τ233).2.1 12 = (σ.2.1 12) := ((congrArg (fun x9 : MS => x9.2.1 12) eτ233).trans ((tA rg_313).trans (((hx226 12 rg_110).2.1).trans (hT 12 rg_173 rg_174 rg_312))))
      have C13 : (τ233).2.1 13 = (σ.2.1 13) := ((congrArg (fun x9 : MS => x9.2.1 13) eτ233).trans ((tA rg_315).trans (((hx226 13 rg_116).2.1).trans (hT 13 rg_181 rg_182 rg_314))))
      have C14 : (τ233).2.1 14 = (σ.2.1 14) := ((congrArg (fun x9 : MS => x9.2.1 14) eτ233).trans ((tA rg_317).trans (((hx226 14 rg_122).2.1).trans (hT 14 rg_185 rg_186 rg_316))))
      have C15 : (τ233).2.1 15 = (σ.2.1 15) := ((congrArg (fun x9 : MS => x9.2.1 15) eτ233).trans ((tA rg_319).trans (((hx226 15 rg_100).2.1).trans (hT 15 rg_189 rg_190 rg_318))))
      have C16 : (τ233).2.1 16 = (σ.2.1 16) := ((congrArg (fun x9 : MS => x9.2.1 16) eτ233).trans ((tA rg_321).trans (((hx226 16 rg_129).2.1).trans (hT 16 rg_193 rg_194 rg_320))))
      have C17 : (τ233).2.1 17 = (upd (σ.2.1 17) (Int32.toNatClampNeg sx) k) := ((congrArg (fun x9 : MS => x9.2.1 17) eτ233).trans ((tA rg_322).trans (((hx226 17 rg_134).2.1).trans h17)))
      have C18 : (τ233).2.1 18 = (upd (σ.2.1 18) (Int32.toNatClampNeg sx) z224) := ((congrArg (fun x9 : MS => x9.2.1 18) eτ233).trans (tAe.trans (congrArg (fun f9 => (upd f9 (Int32.toNatClampNeg sx) z224)) (((hx226 18 rg_140).2.1).trans (hT 18 rg_323 rg_324 rg_325)))))
      have C19 : (τ233).2.1 19 = (σ.2.1 19) := ((congrArg (fun x9 : MS => x9.2.1 19) eτ233).trans ((tA rg_327).trans (((hx226 19 rg_146).2.1).trans (hT 19 rg_298 rg_299 rg_326))))
      have C20 : (τ233).2.1 20 = (σ.2.1 20) := ((congrArg (fun x9 : MS => x9.2.1 20) eτ233).trans ((tA rg_329).trans (((hx226 20 rg_152).2.1).trans (hT 20 rg_269 rg_270 rg_328))))
      have C21 : (τ233).2.1 21 = (σ.2.1 21) := ((congrArg (fun x9 : MS => x9.2.1 21) eτ233).trans ((tA rg_331).trans (((hx226 21 rg_158).2.1).trans (hT 21 rg_234 rg_235 rg_330))))
      have C22 : (τ233).2.1 22 = (σ.2.1 22) := ((congrArg (fun x9 : MS => x9.2.1 22) eτ233).trans ((tA rg_333).trans (((hx226 22 rg_164).2.1).trans (hT 22 rg_178 rg_202 rg_332))))
      have N235 : When τ233 ((k.toInt = 0 ∨ k.toInt = 1 ∨ k.toInt = 6 → 0 ≤ z224.toInt ∧ z224.toInt < (σ.2.1 11 (σ.1 30).toNatClampNeg).toInt) ∧ (k.toInt ≠ 0 ∧ k.toInt ≠ 1 ∧ k.toInt ≠ 6 → 0 ≤ z224.toInt ∧ z224.toInt < (σ.2.1 12 (σ.1 30).toNatClampNeg).toInt)) := fun h9 => by have q0 := W234 h9; omega
      have o61 : sx.toInt = 12 * (σ.1 30).toInt + (σ.2.1 12 (σ.1 30).toNatClampNeg).toInt := by omega
      exact pt_101 τ233 sx pl ow z224 _ _ _ hIτ233 Xτ233 Mτ233 Lτ233 (show sx.toInt = 12 * (σ.1 30).toInt + (σ.2.1 12 (σ.1 30).toNatClampNeg).toInt from o61) (tabL 2 C11 C12 C13 C14 C15 C16 (Or.inl rg_307) (Or.inl rg_308) (Or.inr C19) (Or.inr C20) (Or.inr C21) C22) C17 C18 N235 hP hD hS (lv_sub hl [0, 1, 2, 3, 4] rfl)
    · have tc222 := (show 1 < k.toInt from ti_nle rfl rg_18 c222)
      refine lv_iload_n hx hb dX12_readStep_83 rfl (lv_at hl 1 rfl) ?_
      refine lv_bipush (v := 6) hx hb dX12_readStep_84 rg_55 ?_
      refine lv_icmp_ne (tgt := 96) hx hb dX12_readStep_86 rfl (fun c236 => ?_) (fun c236 => ?_)
      · have tc236 := (show k.toInt ≠ 6 from ti_ne rfl rg_70 c236)
        refine lv_aload_n hx hb dX12_readStep_96 rfl (lv_at hl 0 rfl) ?_
        refine zy_i (va_runV (As := []) (rest := [.int sx, .ref (ad 18)]) ⟨hx, hb, hml, hown, hts⟩ (n_aStep l dC dI h ad cl H.size τ  hIτ (Lx.es hgτ)) (cwV 0 hts gd_n_readStep_304_n_aStep rfl rfl rfl dd_n_aStep ⟨Nat.le_of_ble_eq_true rfl, Nat.le_of_ble_eq_true rfl⟩) (preV hP hK hD hE (ci := 12) (q0 := 0) rfl rfl) rfl rfl hl.1 rfl (lv_room (Nat.le_of_ble_eq_true rfl)) dX12_readStep_97 ⟨Nat.le_of_ble_eq_true rfl, Nat.le_of_ble_eq_true rfl⟩) hD hS hA (fun z238 τ237 H locs hq hP hD hS => ?_)
        obtain ⟨hI239, hx240, f241, f242, f243, mo244, lx245⟩ := hq
        have Xτ237 : eqx [6, 7, 8, 9, 10, 4, 5, 17, 18, 19, 20, 21, 27, 28, 26, 12] τ237 σ := eqx.tr hx240 hxτ rg_238
        have Mτ237 : Mo τ237 σ := Mo.tr mo244 (fun h9 => hmτ h9)
        have Lτ237 : Lx τ237 σ := Lx.tr lx245 hgτ
        have W246 : When τ237 (0 ≤ z238.toInt ∧ z238.toInt < ((σ.2.1 12) ((σ.1 30)).toNatClampNeg).toInt) := When.cv f243 (hT 12 rg_173 rg_174 rg_312) ((hxτ 30 rg_172).1)
        refine W.widen (k := 0) (n := 0) (Nat.le_of_ble_eq_true rfl) (Nat.le_of_ble_eq_true rfl) ?_
        have o62 : 0 ≤ sx.toInt := by omega
        have o63 : sx.toInt < ((24 : Nat) : Int) := by omega
        refine va_iast hx hb hK hP hD hS 10 9 rfl rfl (ti_inx o62 o63) dX12_readStep_100 (fun H locs hP hD hS => ?_)
        rw [wS18] at hP hD
        obtain ⟨τ247, eτ247⟩ : ∃ x9 : MS, x9 = sA τ237 18 (upd (τ237.2.1 18) (Int32.toNatClampNeg sx) z238) := ⟨_, rfl⟩
        have hP : va_P (dC, dI) vwCl (mW h ad cl τ247) H := by rw [eτ247]; exact hP
        have hD : va_D A (mW h ad cl τ247) := by rw [eτ247]; exact hD
        have o64 : ((-1) : Int) ≤ (z238 : Int32).toInt := by omega
        have o65 : (z238 : Int32).toInt ≤ 11 := by omega
        have hIτ247 : Inv τ247 := by rw [eτ247]; exact (Inv_sA1 hI239 (rgu (hI239.2 18) (show ((-1) : Int) ≤ (z238 : Int32).toInt ∧ (z238 : Int32).toInt ≤ 11 from ⟨o64, o65⟩)))
        have Xτ247 : eqx [6, 7, 8, 9, 10, 4, 5, 17, 18, 19, 20, 21, 27, 28, 26, 12] τ247 σ := (eqx.eq eτ247 (eqx.sA Xτ237 rg_310))
        have Mτ247 : Mo τ247 σ := Mo.eq eτ247 (fun h9 => Mτ237 h9)
        have Lτ247 : Lx τ247 σ := Lx.eq eτ247 Lτ237
        have W248 : When τ247 (0 ≤ z238.toInt ∧ z238.toInt < ((σ.2.1 12) ((σ.1 30)).toNatClampNeg).toInt) := When.mo W246 (Mo.eq eτ247 (fun h9 => h9))
        have C11 : (τ247).2.1 11 = (σ.2.1 11) := ((congrArg (fun x9 : MS => x9.2.1 11) eτ247).trans ((tA rg_311).trans (((hx240 11 rg_104).2.1).trans (hT 11 rg_177 rg_178 rg_309))))
        have C12 : (τ247).2.1 12 = (σ.2.1 12) := ((congrArg (fun x9 : MS => x9.2.1 12) eτ247).trans ((tA rg_313).trans (((hx240 12 rg_110).2.1).trans (hT 12 rg_173 rg_174 rg_312))))
        have C13 : (τ247).2.1 13 = (σ.2.1 13) := ((congrArg (fun x9 : MS => x9.2.1 13) eτ247).trans ((tA rg_315).trans (((hx240 13 rg_116).2.1).trans (hT 13 rg_181 rg_182 rg_314))))
        have C14 : (τ247).2.1 14 = (σ.2.1 14) := ((congrArg (fun x9 : MS => x9.2.1 14) eτ247).trans ((tA rg_317).trans (((hx240 14 rg_122).2.1).trans (hT 14 rg_185 rg_186 rg_316))))
        have C15 : (τ247).2.1 15 = (σ.2.1 15) := ((congrArg (fun x9 : MS => x9.2.1 15) eτ247).trans ((tA rg_319).trans (((hx240 15 rg_100).2.1).trans (hT 15 rg_189 rg_190 rg_318))))
        have C16 : (τ247).2.1 16 = (σ.2.1 16) := ((congrArg (fun x9 : MS => x9.2.1 16) eτ247).trans ((tA rg_321).trans (((hx240 16 rg_129).2.1).trans (hT 16 rg_193 rg_194 rg_320))))
        have C17 : (τ247).2.1 17 = (upd (σ.2.1 17) (Int32.toNatClampNeg sx) k) := ((congrArg (fun x9 : MS => x9.2.1 17) eτ247).trans ((tA rg_322).trans (((hx240 17 rg_134).2.1).trans h17)))
        have C18 : (τ247).2.1 18 = (upd (σ.2.1 18) (Int32.toNatClampNeg sx) z238) := ((congrArg (fun x9 : MS => x9.2.1 18) eτ247).trans (tAe.trans (congrArg (fun f9 => (upd f9 (Int32.toNatClampNeg sx) z238)) (((hx240 18 rg_140).2.1).trans (hT 18 rg_323 rg_324 rg_325)))))
        have C19 : (τ247).2.1 19 = (σ.2.1 19) := ((congrArg (fun x9 : MS => x9.2.1 19) eτ247).trans ((tA rg_327).trans (((hx240 19 rg_146).2.1).trans (hT 19 rg_298 rg_299 rg_326))))
        have C20 : (τ247).2.1 20 = (σ.2.1 20) := ((congrArg (fun x9 : MS => x9.2.1 20) eτ247).trans ((tA rg_329).trans (((hx240 20 rg_152).2.1).trans (hT 20 rg_269 rg_270 rg_328))))
        have C21 : (τ247).2.1 21 = (σ.2.1 21) := ((congrArg (fun x9 : MS => x9.2.1 21) eτ247).trans ((tA rg_331).trans (((hx240 21 rg_158).2.1).trans (hT 21 rg_234 rg_235 rg_330))))
        have C22 : (τ247).2.1 22 = (σ.2.1 22) := ((congrArg (fun x9 : MS => x9.2.1 22) eτ247).trans ((tA rg_333).trans (((hx240 22 rg_164).2.1).trans (hT 22 rg_178 rg_202 rg_332))))
        have N249 : When τ247 ((k.toInt = 0 ∨ k.toInt = 1 ∨ k.toInt = 6 → 0 ≤ z238.toInt ∧ z238.toInt < (σ.2.1 11 (σ.1 30).toNatClampNeg).toInt) ∧ (k.toInt ≠ 0 ∧ k.toInt ≠ 1 ∧ k.toInt ≠ 6 → 0 ≤ z238.toInt ∧ z238.toInt < (σ.2.1 12 (σ.1 30).toNatClampNeg).toInt)) := fun h9 => by have q0 := W248 h9; omega
        have o66 : sx.toInt = 12 * (σ.1 30).toInt + (σ.2.1 12 (σ.1 30).toNatClampNeg).toInt := by omega
        exact pt_101 τ247 sx pl ow z238 _ _ _ hIτ247 Xτ247 Mτ247 Lτ247 (show sx.toInt = 12 * (σ.1 30).toInt + (σ.2.1 12 (σ.1 30).toNatClampNeg).toInt from o66) (tabL 2 C11 C12 C13 C14 C15 C16 (Or.inl rg_307) (Or.inl rg_308) (Or.inr C19) (Or.inr C20) (Or.inr C21) C22) C17 C18 N249 hP hD hS (lv_sub hl [0, 1, 2, 3, 4] rfl)
      · have tc236 := (show k.toInt = 6 from ti_eq rfl rg_70 c236)
        refine lv_aload_n hx hb dX12_readStep_89 rfl (lv_at hl 0 rfl) ?_
        refine zy_i (va_runV (As := []) (rest := [.int sx, .ref (ad 18)]) ⟨hx, hb, hml, hown, hts⟩ (n_aRow l dC dI h ad cl H.size τ  hIτ (Lx.es hgτ)) (cwV 0 hts gd_n_readStep_301_n_aRow rfl rfl rfl dd_n_aRow ⟨Nat.le_of_ble_eq_true rfl, Nat.le_of_ble_eq_true rfl⟩) (preV hP hK hD hE (ci := 12) (q0 := 0) rfl rfl) rfl rfl hl.1 rfl (lv_room (Nat.le_of_ble_eq_true rfl)) dX12_readStep_90 ⟨Nat.le_of_ble_eq_true rfl, Nat.le_of_ble_eq_true rfl⟩) hD hS hA (fun z251 τ250 H locs hq hP hD hS => ?_)
        obtain ⟨hI252, hx253, f254, f255, f256, mo257, lx258⟩ := hq
        have Xτ250 : eqx [6, 7, 8, 9, 10, 4, 5, 17, 18, 19, 20, 21, 27, 28, 26, 12] τ250 σ := eqx.tr hx253 hxτ rg_238
        have Mτ250 : Mo τ250 σ := Mo.tr mo257 (fun h9 => hmτ h9)
        have Lτ250 : Lx τ250 σ := Lx.tr lx258 hgτ
        have W259 : When τ250 (0 ≤ z251.toInt ∧ z251.toInt < ((σ.2.1 11) ((σ.1 30)).toNatClampNeg).toInt) := When.cv f256 (hT 11 rg_177 rg_178 rg_309) ((hxτ 30 rg_172).1)
        refine W.widen (k := 0) (n := 0) (Nat.le_of_ble_eq_true rfl) (Nat.le_of_ble_eq_true rfl) ?_
        refine lv_goto (tgt := 100) hx hb dX12_readStep_93 rfl ?_
        have o67 : 0 ≤ sx.toInt := by omega
        have o68 : sx.toInt < ((24 : Nat) : Int) := by omega
        refine va_iast hx hb hK hP hD hS 10 9 rfl rfl (ti_inx o67 o68) dX12_readStep_100 (fun H locs hP hD hS => ?_)
        rw [wS18] at hP hD
        obtain ⟨τ260, eτ260⟩ : ∃ x9 : MS, x9 = sA τ250 18 (upd (τ250.2.1 18) (Int32.toNatClampNeg sx) z251) := ⟨_, rfl⟩
        have hP : va_P (dC, dI) vwCl (mW h ad cl τ260) H := by rw [eτ260]; exact hP
        have hD : va_D A (mW h ad cl τ260) := by rw [eτ260]; exact hD
        have o69 : ((-1) : Int) ≤ (z251 : Int32).toInt := by omega
        have o70 : (z251 : Int32).toInt ≤ 11 := by omega
        have hIτ260 : Inv τ260 := by rw [eτ260]; exact (Inv_sA1 hI252 (rgu (hI252.2 18) (show ((-1) : Int) ≤ (z251 : Int32).toInt ∧ (z251 : Int32).toInt ≤ 11 from ⟨o69, o70⟩)))
        have Xτ260 : eqx [6, 7, 8, 9, 10, 4, 5, 17, 18, 19, 20, 21, 27, 28, 26, 12] τ260 σ := (eqx.eq eτ260 (eqx.sA Xτ250 rg_310))
        have Mτ260 : Mo τ260 σ := Mo.eq eτ260 (fun h9 => Mτ250 h9)
        have Lτ260 : Lx τ260 σ := Lx.eq eτ260 Lτ250
        have W261 : When τ260 (0 ≤ z251.toInt ∧ z251.toInt < ((σ.2.1 11) ((σ.1 30)).toNatClampNeg).toInt) := When.mo W259 (Mo.eq eτ260 (fun h9 => h9))
        have C11 : (τ260).2.1 11 = (σ.2.1 11) := ((congrArg (fun x9 : MS => x9.2.1 11) eτ260).trans ((tA rg_311).trans (((hx253 11 rg_104).2.1).trans (hT 11 rg_177 rg_178 rg_309))))
        have C12 : (τ260).2.1 12 = (σ.2.1 12) := ((congrArg (fun x9 : MS => x9.2.1 12) eτ260).trans ((tA rg_313).trans (((hx253 12 rg_110).2.1).trans (hT 12 rg_173 rg_174 rg_312))))
        have C13 : (τ260).2.1 13 = (σ.2.1 13) := ((congrArg (fun x9 : MS => x9.2.1 13) eτ260).trans ((tA rg_315).trans (((hx253 13 rg_116).2.1).trans (hT 13 rg_181 rg_182 rg_314))))
        have C14 : (τ260).2.1 14 = (σ.2.1 14) := ((congrArg (fun x9 : MS => x9.2.1 14) eτ260).trans ((tA rg_317).trans (((hx253 14 rg_122).2.1).trans (hT 14 rg_185 rg_186 rg_316))))
        have C15 : (τ260).2.1 15 = (σ.2.1 15) := ((congrArg (fun x9 : MS => x9.2.1 15) eτ260).trans ((tA rg_319).trans (((hx253 15 rg_100).2.1).trans (hT 15 rg_189 rg_190 rg_318))))
        have C16 : (τ260).2.1 16 = (σ.2.1 16) := ((congrArg (fun x9 : MS => x9.2.1 16) eτ260).trans ((tA rg_321).trans (((hx253 16 rg_129).2.1).trans (hT 16 rg_193 rg_194 rg_320))))
        have C17 : (τ260).2.1 17 = (upd (σ.2.1 17) (Int32.toNatClampNeg sx) k) := ((congrArg (fun x9 : MS => x9.2.1 17) eτ260).trans ((tA rg_322).trans (((hx253 17 rg_134).2.1).trans h17)))
        have C18 : (τ260).2.1 18 = (upd (σ.2.1 18) (Int32.toNatClampNeg sx) z251) := ((congrArg (fun x9 : MS => x9.2.1 18) eτ260).trans (tAe.trans (congrArg (fun f9 => (upd f9 (Int32.toNatClampNeg sx) z251)) (((hx253 18 rg_140).2.1).trans (hT 18 rg_323 rg_324 rg_325)))))
        have C19 : (τ260).2.1 19 = (σ.2.1 19) := ((congrArg (fun x9 : MS => x9.2.1 19) eτ260).trans ((tA rg_327).trans (((hx253 19 rg_146).2.1).trans (hT 19 rg_298 rg_299 rg_326))))
        have C20 : (τ260).2.1 20 = (σ.2.1 20) := ((congrArg (fun x9 : MS => x9.2.1 20) eτ260).trans ((tA rg_329).trans (((hx253 20 rg_152).2.1).trans (hT 20 rg_269 rg_270 rg_328))))
        have C21 : (τ260).2.1 21 = (σ.2.1 21) := ((congrArg (fun x9 : MS => x9.2.1 21) eτ260).trans ((tA rg_331).trans (((hx253 21 rg_158).2.1).trans (hT 21 rg_234 rg_235 rg_330))))
        have C22 : (τ260).2.1 22 = (σ.2.1 22) := ((congrArg (fun x9 : MS => x9.2.1 22) eτ260).trans ((tA rg_333).trans (((hx253 22 rg_164).2.1).trans (hT 22 rg_178 rg_202 rg_332))))
        have N262 : When τ260 ((k.toInt = 0 ∨ k.toInt = 1 ∨ k.toInt = 6 → 0 ≤ z251.toInt ∧ z251.toInt < (σ.2.1 11 (σ.1 30).toNatClampNeg).toInt) ∧ (k.toInt ≠ 0 ∧ k.toInt ≠ 1 ∧ k.toInt ≠ 6 → 0 ≤ z251.toInt ∧ z251.toInt < (σ.2.1 12 (σ.1 30).toNatClampNeg).toInt)) := fun h9 => by have q0 := W261 h9; omega
        have o71 : sx.toInt = 12 * (σ.1 30).toInt + (σ.2.1 12 (σ.1 30).toNatClampNeg).toInt := by omega
        exact pt_101 τ260 sx pl ow z251 _ _ _ hIτ260 Xτ260 Mτ260 Lτ260 (show sx.toInt = 12 * (σ.1 30).toInt + (σ.2.1 12 (σ.1 30).toNatClampNeg).toInt from o71) (tabL 2 C11 C12 C13 C14 C15 C16 (Or.inl rg_307) (Or.inl rg_308) (Or.inr C19) (Or.inr C20) (Or.inr C21) C22) C17 C18 N262 hP hD hS (lv_sub hl [0, 1, 2, 3, 4] rfl)
  have pt_50 : ∀ (τ : MS) (sx : Int32) (pl : Int32) (ow : Int64) (H : Heap) (locs : List Loc) (ls : Array Slot), (Inv τ) → (eqx [6, 7, 8, 9, 10, 4, 5, 17, 18, 19, 20, 21, 27, 28, 26, 12] τ σ) → (Mo τ σ) → (Lx τ σ) → (sx.toInt = 12 * (σ.1 30).toInt + (σ.2.1 12 (σ.1 30).toNatClampNeg).toInt) → (∀ p9, 11 ≤ p9 → p9 ≤ 22 → ¬ (17 ≤ p9 ∧ p9 ≤ 16 + 0) → τ.2.1 p9 = σ.2.1 p9) → va_P (dC, dI) vwCl (mW h ad cl τ) H → va_D A (mW h ad cl τ) → va_S A s.heap H locs → lv_has ls 6 [(0, .ref h), (1, .int k), (2, .int sx), (3, .int pl), (4, .long ow)] → W p l e (headSpec vs_n_readStep rm_n_readStep).room s m #[Value.ref h, Value.int k] below meth c H locs 0 0 Q (F0 m 50 ls []) := by
    intro τ sx pl ow H locs ls hIτ hxτ hmτ hgτ hR hT hP hD hS hl
    refine lv_aload_n hx hb dX12_readStep_50 rfl (lv_at hl 0 rfl) ?_
    refine va_get (D := (dC, dI)) (ci := 12) (v := .ref (ad 17)) (C := RX12) (T := TX12) (N := 59) hx hb hts hin12 hown hK hP 0 rfl rfl 17 (Nat.le_of_ble_eq_true rfl) (ho (.fieldLink RX12 39 "NearEnoughModel" "sKind" "[I") (List.mem_of_getElem? (i := 16) rfl)) (fun _ h9 => h9) rfl dX12_readStep_51 ?_
    refine lv_iload_n hx hb dX12_readStep_54 rfl (lv_at hl 2 rfl) ?_
    refine lv_iload_n hx hb dX12_readStep_55 rfl (lv_at hl 1 rfl) ?_
    have o72 : 0 ≤ sx.toInt := by omega
    have o73 : sx.toInt < ((24 : Nat) : Int) := by omega
    refine va_iast hx hb hK hP hD hS 9 8 rfl rfl (ti_inx o72 o73) dX12_readStep_56 (fun H locs hP hD hS => ?_)
    rw [wS17] at hP hD
    obtain ⟨τ263, eτ263⟩ : ∃ x9 : MS, x9 = sA τ 17 (upd (τ.2.1 17) (Int32.toNatClampNeg sx) k) := ⟨_, rfl⟩
    have hP : va_P (dC, dI) vwCl (mW h ad cl τ263) H := by rw [eτ263]; exact hP
    have hD : va_D A (mW h ad cl τ263) := by rw [eτ263]; exact hD
    have o74 : (0 : Int) ≤ (k : Int32).toInt := by omega
    have o75 : (k : Int32).toInt ≤ 7 := by omega
    have hIτ263 : Inv τ263 := by rw [eτ263]; exact (Inv_sA1 hIτ (rgu (hIτ.2 17) (show (0 : Int) ≤ (k : Int32).toInt ∧ (k : Int32).toInt ≤ 7 from ⟨o74, o75⟩)))
    have Xτ263 : eqx [6, 7, 8, 9, 10, 4, 5, 17, 18, 19, 20, 21, 27, 28, 26, 12] τ263 σ := (eqx.eq eτ263 (eqx.sA hxτ rg_334))
    have Mτ263 : Mo τ263 σ := Mo.eq eτ263 (fun h9 => hmτ h9)
    have Lτ263 : Lx τ263 σ := Lx.eq eτ263 hgτ
    refine lv_iload_n hx hb dX12_readStep_57 rfl (lv_at hl 1 rfl) ?_
    refine lv_iconst (v := 1) hx hb dX12_readStep_58 rg_6 ?_
    refine lv_icmp_gt (tgt := 73) hx hb dX12_readStep_59 rfl (fun c264 => ?_) (fun c264 => ?_)
    · have tc264 := (show 1 < k.toInt from ti_lt rg_18 rfl c264)
      have C11 : (τ263).2.1 11 = (σ.2.1 11) := ((congrArg (fun x9 : MS => x9.2.1 11) eτ263).trans ((tA rg_336).trans (hT 11 rg_177 rg_178 rg_335)))
      have C12 : (τ263).2.1 12 = (σ.2.1 12) := ((congrArg (fun x9 : MS => x9.2.1 12) eτ263).trans ((tA rg_338).trans (hT 12 rg_173 rg_174 rg_337)))
      have C13 : (τ263).2.1 13 = (σ.2.1 13) := ((congrArg (fun x9 : MS => x9.2.1 13) eτ263).trans ((tA rg_340).trans (hT 13 rg_181 rg_182 rg_339)))
      have C14 : (τ263).2.1 14 = (σ.2.1 14) := ((congrArg (fun x9 : MS => x9.2.1 14) eτ263).trans ((tA rg_342).trans (hT 14 rg_185 rg_186 rg_341)))
      have C15 : (τ263).2.1 15 = (σ.2.1 15) := ((congrArg (fun x9 : MS => x9.2.1 15) eτ263).trans ((tA rg_344).trans (hT 15 rg_189 rg_190 rg_343)))
      have C16 : (τ263).2.1 16 = (σ.2.1 16) := ((congrArg (fun x9 : MS => x9.2.1 16) eτ263).trans ((tA rg_346).trans (hT 16 rg_193 rg_194 rg_345)))
      have C17 : (τ263).2.1 17 = (upd (σ.2.1 17) (Int32.toNatClampNeg sx) k) := ((congrArg (fun x9 : MS => x9.2.1 17) eτ263).trans (tAe.trans (congrArg (fun f9 => (upd f9 (Int32.toNatClampNeg sx) k)) (hT 17 rg_347 rg_348 rg_349))))
      have C18 : (τ263).2.1 18 = (σ.2.1 18) := ((congrArg (fun x9 : MS => x9.2.1 18) eτ263).trans ((tA rg_351).trans (hT 18 rg_323 rg_324 rg_350)))
      have C19 : (τ263).2.1 19 = (σ.2.1 19) := ((congrArg (fun x9 : MS => x9.2.1 19) eτ263).trans ((tA rg_353).trans (hT 19 rg_298 rg_299 rg_352)))
      have C20 : (τ263).2.1 20 = (σ.2.1 20) := ((congrArg (fun x9 : MS => x9.2.1 20) eτ263).trans ((tA rg_355).trans (hT 20 rg_269 rg_270 rg_354)))
      have C21 : (τ263).2.1 21 = (σ.2.1 21) := ((congrArg (fun x9 : MS => x9.2.1 21) eτ263).trans ((tA rg_357).trans (hT 21 rg_234 rg_235 rg_356)))
      have C22 : (τ263).2.1 22 = (σ.2.1 22) := ((congrArg (fun x9 : MS => x9.2.1 22) eτ263).trans ((tA rg_359).trans (hT 22 rg_178 rg_202 rg_358)))
      have o76 : sx.toInt = 12 * (σ.1 30).toInt + (σ.2.1 12 (σ.1 30).toNatClampNeg).toInt := by omega
      exact pt_73 τ263 sx pl ow _ _ _ hIτ263 Xτ263 Mτ263 Lτ263 (show sx.toInt = 12 * (σ.1 30).toInt + (σ.2.1 12 (σ.1 30).toNatClampNeg).toInt from o76) (tabL 1 C11 C12 C13 C14 C15 C16 (Or.inl rg_360) (Or.inr C18) (Or.inr C19) (Or.inr C20) (Or.inr C21) C22) C17 hP hD hS (lv_sub hl [0, 1, 2, 3, 4] rfl)
    · have tc264 := (show k.toInt ≤ 1 from ti_nlt rg_18 rfl c264)
      refine lv_aload_n hx hb dX12_readStep_62 rfl (lv_at hl 0 rfl) ?_
      refine lv_aload_n hx hb dX12_readStep_63 rfl (lv_at hl 0 rfl) ?_
      refine lv_ldc2 (v := (28518)) hx hb hown (ho (.constantLong RX12 153 (28518)) (List.mem_of_getElem? (i := 17) rfl)) dX12_readStep_64 ?_
      refine zy_i (va_runV (As := [.long 28518]) (rest := [.ref h]) ⟨hx, hb, hml, hown, hts⟩ (n_isWord l dC dI h ad cl H.size τ263 28518 hIτ263) (cwV 1 hts gd_n_readStep_261_n_isWord rfl rfl rfl dd_n_isWord ⟨Nat.le_of_ble_eq_true rfl, Nat.le_of_ble_eq_true rfl⟩) (preV hP hK hD hE (ci := 12) (q0 := 0) rfl rfl) rfl rfl hl.1 rfl (lv_room (Nat.le_of_ble_eq_true rfl)) dX12_readStep_67 ⟨Nat.le_of_ble_eq_true rfl, Nat.le_of_ble_eq_true rfl⟩) hD hS hA (fun z266 τ265 H locs hq hP hD hS => ?_)
      obtain ⟨rfl, f267⟩ := hq
      refine W.widen (k := 0) (n := 0) (Nat.le_of_ble_eq_true rfl) (Nat.le_of_ble_eq_true rfl) ?_
      refine zy_v (va_runV (As := [.int z266]) (rest := []) ⟨hx, hb, hml, hown, hts⟩ (n_must l dC dI h ad cl H.size τ263 z266 hIτ263 (Lx.es Lτ263)) (cwV 1 hts gd_n_readStep_278_n_must rfl rfl rfl dd_n_must ⟨Nat.le_of_ble_eq_true rfl, Nat.le_of_ble_eq_true rfl⟩) (preV hP hK hD hE (ci := 12) (q0 := 0) rfl rfl) rfl rfl hl.1 rfl (lv_room (Nat.le_of_ble_eq_true rfl)) dX12_readStep_70 ⟨Nat.le_of_ble_eq_true rfl, Nat.le_of_ble_eq_true rfl⟩) hD hS hA (fun τ268 H locs hq hP hD hS => ?_)
      obtain ⟨hI270, hx271, mo272, lx273⟩ := hq
      have Xτ268 : eqx [6, 7, 8, 9, 10, 4, 5, 17, 18, 19, 20, 21, 27, 28, 26, 12] τ268 σ := eqx.tr hx271 Xτ263 rg_238
      have Mτ268 : Mo τ268 σ := Mo.tr mo272 (fun h9 => Mτ263 h9)
      have Lτ268 : Lx τ268 σ := Lx.tr lx273 Lτ263
      refine W.widen (k := 0) (n := 0) (Nat.le_of_ble_eq_true rfl) (Nat.le_of_ble_eq_true rfl) ?_
      have C11 : (τ268).2.1 11 = (σ.2.1 11) := (((hx271 11 rg_104).2.1).trans ((congrArg (fun x9 : MS => x9.2.1 11) eτ263).trans ((tA rg_336).trans (hT 11 rg_177 rg_178 rg_335))))
      have C12 : (τ268).2.1 12 = (σ.2.1 12) := (((hx271 12 rg_110).2.1).trans ((congrArg (fun x9 : MS => x9.2.1 12) eτ263).trans ((tA rg_338).trans (hT 12 rg_173 rg_174 rg_337))))
      have C13 : (τ268).2.1 13 = (σ.2.1 13) := (((hx271 13 rg_116).2.1).trans ((congrArg (fun x9 : MS => x9.2.1 13) eτ263).trans ((tA rg_340).trans (hT 13 rg_181 rg_182 rg_339))))
      have C14 : (τ268).2.1 14 = (σ.2.1 14) := (((hx271 14 rg_122).2.1).trans ((congrArg (fun x9 : MS => x9.2.1 14) eτ263).trans ((tA rg_342).trans (hT 14 rg_185 rg_186 rg_341))))
      have C15 : (τ268).2.1 15 = (σ.2.1 15) := (((hx271 15 rg_100).2.1).trans ((congrArg (fun x9 : MS => x9.2.1 15) eτ263).trans ((tA rg_344).trans (hT 15 rg_189 rg_190 rg_343))))
      have C16 : (τ268).2.1 16 = (σ.2.1 16) := (((hx271 16 rg_129).2.1).trans ((congrArg (fun x9 : MS => x9.2.1 16) eτ263).trans ((tA rg_346).trans (hT 16 rg_193 rg_194 rg_345))))
      have C17 : (τ268).2.1 17 = (upd (σ.2.1 17) (Int32.toNatClampNeg sx) k) := (((hx271 17 rg_134).2.1).trans ((congrArg (fun x9 : MS => x9.2.1 17) eτ263).trans (tAe.trans (congrArg (fun f9 => (upd f9 (Int32.toNatClampNeg sx) k)) (hT 17 rg_347 rg_348 rg_349)))))
      have C18 : (τ268).2.1 18 = (σ.2.1 18) := (((hx271 18 rg_140).2.1).trans ((congrArg (fun x9 : MS => x9.2.1 18) eτ263).trans ((tA rg_351).trans (hT 18 rg_323 rg_324 rg_350))))
      have C19 : (τ268).2.1 19 = (σ.2.1 19) := (((hx271 19 rg_146).2.1).trans ((congrArg (fun x9 : MS => x9.2.1 19) eτ263).trans ((tA rg_353).trans (hT 19 rg_298 rg_299 rg_352))))
      have C20 : (τ268).2.1 20 = (σ.2.1 20) := (((hx271 20 rg_152).2.1).trans ((congrArg (fun x9 : MS => x9.2.1 20) eτ263).trans ((tA rg_355).trans (hT 20 rg_269 rg_270 rg_354))))
      have C21 : (τ268).2.1 21 = (σ.2.1 21) := (((hx271 21 rg_158).2.1).trans ((congrArg (fun x9 : MS => x9.2.1 21) eτ263).trans ((tA rg_357).trans (hT 21 rg_234 rg_235 rg_356))))
      have C22 : (τ268).2.1 22 = (σ.2.1 22) := (((hx271 22 rg_164).2.1).trans ((congrArg (fun x9 : MS => x9.2.1 22) eτ263).trans ((tA rg_359).trans (hT 22 rg_178 rg_202 rg_358))))
      have o77 : sx.toInt = 12 * (σ.1 30).toInt + (σ.2.1 12 (σ.1 30).toNatClampNeg).toInt := by omega
      exact pt_73 τ268 sx pl ow _ _ _ hI270 Xτ268 Mτ268 Lτ268 (show sx.toInt = 12 * (σ.1 30).toInt + (σ.2.1 12 (σ.1 30).toNatClampNeg).toInt from o77) (tabL 1 C11 C12 C13 C14 C15 C16 (Or.inl rg_360) (Or.inr C18) (Or.inr C19) (Or.inr C20) (Or.inr C21) C22) C17 hP hD hS (lv_sub hl [0, 1, 2, 3, 4] rfl)
  refine zH (A := A) (ws := mW h ad cl σ) (fun H hP hS => ?_) hP
  refine lv_bipush (v := 12) hx hb dX12_readStep_0 rg_57 ?_
  refine lv_aload_n hx hb dX12_readStep_2 rfl (lv_at hl 0 rfl) ?_
  refine va_get (D := (dC, dI)) (ci := 12) (v := .int (σ.1 30)) (C := RX12) (T := TX12) (N := 59) hx hb hts hin12 hown hK hP 0 rfl rfl 30 (Nat.le_of_ble_eq_true rfl) (ho (.fieldLink RX12 243 "NearEnoughModel" "rb" "I") (List.mem_of_getElem? (i := 2) rfl)) (fun _ h9 => h9) rfl dX12_readStep_3 ?_
  have bσ_30 : 0 ≤ (σ.1 30).toInt ∧ (σ.1 30).toInt ≤ 1 := hI.1 30
  refine lv_imul hx hb dX12_readStep_6 ?_
  refine lv_topi (fun z274 ez274 => ?_)
  have o78 : -2147483648 ≤ 12 * (σ.1 30).toInt := by omega
  have o79 : 12 * (σ.1 30).toInt ≤ 2147483647 := by omega
  have tz274 : z274.toInt = 12 * (σ.1 30).toInt := ti_mul ez274 rg_58 rfl o78 o79
  refine lv_aload_n hx hb dX12_readStep_7 rfl (lv_at hl 0 rfl) ?_
  refine va_get (D := (dC, dI)) (ci := 12) (v := .ref (ad 12)) (C := RX12) (T := TX12) (N := 59) hx hb hts hin12 hown hK hP 0 rfl rfl 12 (Nat.le_of_ble_eq_true rfl) (ho (.fieldLink RX12 24 "NearEnoughModel" "stepMany" "[I") (List.mem_of_getElem? (i := 1) rfl)) (fun _ h9 => h9) rfl dX12_readStep_8 ?_
  refine lv_aload_n hx hb dX12_readStep_11 rfl (lv_at hl 0 rfl) ?_
  refine va_get (D := (dC, dI)) (ci := 12) (v := .int (σ.1 30)) (C := RX12) (T := TX12) (N := 59) hx hb hts hin12 hown hK hP 0 rfl rfl 30 (Nat.le_of_ble_eq_true rfl) (ho (.fieldLink RX12 243 "NearEnoughModel" "rb" "I") (List.mem_of_getElem? (i := 2) rfl)) (fun _ h9 => h9) rfl dX12_readStep_12 ?_
  have bσ_30 : 0 ≤ (σ.1 30).toInt ∧ (σ.1 30).toInt ≤ 1 := hI.1 30
  have o80 : 0 ≤ (σ.1 30).toInt := by omega
  have o81 : (σ.1 30).toInt < ((2 : Nat) : Int) := by omega
  refine va_iald hx hb hK hP 4 3 rfl rfl (ti_inx o80 o81) dX12_readStep_15 ?_
  refine lv_topi (fun z275 ez275 => ?_)
  have gz275 : z275.toInt = ((σ.2.1 12) (Int32.toNatClampNeg (σ.1 30))).toInt := congrArg Int32.toInt (ez275.trans (congrFun rfl (Int32.toNatClampNeg (σ.1 30))))
  have bz275 : 0 ≤ z275.toInt ∧ z275.toInt ≤ 12 := by rw [ez275]; exact (hI.2 12) _ (cl_lt (n := 2) o80 o81)
  refine lv_iadd hx hb dX12_readStep_16 ?_
  refine lv_topi (fun z276 ez276 => ?_)
  have o82 : -2147483648 ≤ z274.toInt + z275.toInt := by omega
  have o83 : z274.toInt + z275.toInt ≤ 2147483647 := by omega
  have tz276 : z276.toInt = z274.toInt + z275.toInt := ti_add ez276 rfl rfl o82 o83
  refine lv_istore_n (lv' := [(2, .int z276), (0, .ref h), (1, .int k)]) hx hb dX12_readStep_17 rfl hl (Nat.le_of_ble_eq_true rfl) rfl (fun ls hl => ?_)
  refine lv_aload_n hx hb dX12_readStep_18 rfl (lv_at hl 1 rfl) ?_
  refine va_get (D := (dC, dI)) (ci := 12) (v := .int (σ.1 6)) (C := RX12) (T := TX12) (N := 59) hx hb hts hin12 hown hK hP 0 rfl rfl 6 (Nat.le_of_ble_eq_true rfl) (ho (.fieldLink RX12 192 "NearEnoughModel" "at" "I") (List.mem_of_getElem? (i := 18) rfl)) (fun _ h9 => h9) rfl dX12_readStep_19 ?_
  have bσ_6 : 0 ≤ (σ.1 6).toInt ∧ (σ.1 6).toInt ≤ 1000 := hI.1 6
  refine lv_istore_n (lv' := [(3, .int (σ.1 6)), (2, .int z276), (0, .ref h), (1, .int k)]) hx hb dX12_readStep_22 rfl hl (Nat.le_of_ble_eq_true rfl) rfl (fun ls hl => ?_)
  refine lv_aload_n hx hb dX12_readStep_23 rfl (lv_at hl 2 rfl) ?_
  refine zy_v (va_runV (As := []) (rest := []) ⟨hx, hb, hml, hown, hts⟩ (n_fresh l dC dI h ad cl H.size σ  hI) (cwV 0 hts gd_n_readStep_288_n_fresh rfl rfl rfl dd_n_fresh ⟨Nat.le_of_ble_eq_true rfl, Nat.le_of_ble_eq_true rfl⟩) (preV hP hK hD hE (ci := 12) (q0 := 0) rfl rfl) rfl rfl hl.1 rfl (lv_room (Nat.le_of_ble_eq_true rfl)) dX12_readStep_24 ⟨Nat.le_of_ble_eq_true rfl, Nat.le_of_ble_eq_true rfl⟩) hD hS hA (fun τ277 H locs hq hP hD hS => ?_)
  obtain ⟨hI279, hx280, mo281⟩ := hq
  have Xτ277 : eqx [6, 7, 8, 9, 10, 4, 5, 17, 18, 19, 20, 21, 27, 28, 26, 12] τ277 σ := eqx.tr hx280 eqx.rf rg_210
  have Mτ277 : Mo τ277 σ := Mo.tr mo281 (fun h9 => Mo.rf h9)
  have Lτ277 : Lx τ277 σ := Lx.tr (Lx.of hx280 (Lx.es (Lx.rf hes)) rg_47 rg_48 rg_49) (Lx.rf hes)
  refine W.widen (k := 0) (n := 0) (Nat.le_of_ble_eq_true rfl) (Nat.le_of_ble_eq_true rfl) ?_
  refine lv_aload_n hx hb dX12_readStep_27 rfl (lv_at hl 2 rfl) ?_
  refine va_get (D := (dC, dI)) (ci := 12) (v := .long (τ277.2.2.2 10)) (C := RX12) (T := TX12) (N := 59) hx hb hts hin12 hown hK hP 0 rfl rfl 10 (Nat.le_of_ble_eq_true rfl) (ho (.fieldLink RX12 206 "NearEnoughModel" "name" "J") (List.mem_of_getElem? (i := 19) rfl)) (fun _ h9 => h9) rfl dX12_readStep_28 ?_
  refine lv_lstore (lv' := [(4, .long (τ277.2.2.2 10)), (3, .int (σ.1 6)), (2, .int z276), (0, .ref h), (1, .int k)]) hx hb dX12_readStep_31 hl (Nat.le_of_ble_eq_true rfl) rfl (fun ls hl => ?_)
  refine lv_aload_n hx hb dX12_readStep_33 rfl (lv_at hl 3 rfl) ?_
  refine lv_aload_n hx hb dX12_readStep_34 rfl (lv_at hl 3 rfl) ?_
  refine va_get (D := (dC, dI)) (ci := 12) (v := .int (τ277.1 8)) (C := RX12) (T := TX12) (N := 59) hx hb hts hin12 hown hK hP 0 rfl rfl 8 (Nat.le_of_ble_eq_true rfl) (ho (.fieldLink RX12 199 "NearEnoughModel" "token" "I") (List.mem_of_getElem? (i := 20) rfl)) (fun _ h9 => h9) rfl dX12_readStep_35 ?_
  refine zi (v := (σ.1 8)) (show τ277.1 8 = (σ.1 8) from ((hx280 8 rg_49).1).trans rfl) ?_
  have bb282 : 0 ≤ (σ.1 8).toInt ∧ (σ.1 8).toInt ≤ 5 := by have h9 := hI279.1 8; rw [show (τ277.1 8) = (σ.1 8) from (show τ277.1 8 = (σ.1 8) from ((hx280 8 rg_49).1).trans rfl)] at h9; exact h9
  refine lv_iconst (v := 2) hx hb dX12_readStep_38 rg_19 ?_
  refine lv_icmp_ne (tgt := 46) hx hb dX12_readStep_39 rfl (fun c283 => ?_) (fun c283 => ?_)
  · have tc283 := (show (σ.1 8).toInt ≠ 2 from ti_ne rfl rg_20 c283)
    refine lv_iconst (v := 0) hx hb dX12_readStep_46 rg_0 ?_
    have kk284 : (0 : Int32).toInt = 0 := rg_11
    refine zy_v (va_runV (As := [.int 0]) (rest := []) ⟨hx, hb, hml, hown, hts⟩ (n_must l dC dI h ad cl H.size τ277 0 hI279 (Lx.es Lτ277)) (cwV 1 hts gd_n_readStep_278_n_must rfl rfl rfl dd_n_must ⟨Nat.le_of_ble_eq_true rfl, Nat.le_of_ble_eq_true rfl⟩) (preV hP hK hD hE (ci := 12) (q0 := 0) rfl rfl) rfl rfl hl.1 rfl (lv_room (Nat.le_of_ble_eq_true rfl)) dX12_readStep_47 ⟨Nat.le_of_ble_eq_true rfl, Nat.le_of_ble_eq_true rfl⟩) hD hS hA (fun τ285 H locs hq hP hD hS => ?_)
    obtain ⟨hI287, hx288, mo289, lx290⟩ := hq
    have Xτ285 : eqx [6, 7, 8, 9, 10, 4, 5, 17, 18, 19, 20, 21, 27, 28, 26, 12] τ285 σ := eqx.tr hx288 Xτ277 rg_238
    have Mτ285 : Mo τ285 σ := Mo.tr mo289 (fun h9 => Mτ277 h9)
    have Lτ285 : Lx τ285 σ := Lx.tr lx290 Lτ277
    refine W.widen (k := 0) (n := 0) (Nat.le_of_ble_eq_true rfl) (Nat.le_of_ble_eq_true rfl) ?_
    have C11 : (τ285).2.1 11 = (σ.2.1 11) := (((hx288 11 rg_104).2.1).trans (((hx280 11 rg_103).2.1).trans rfl))
    have C12 : (τ285).2.1 12 = (σ.2.1 12) := (((hx288 12 rg_110).2.1).trans (((hx280 12 rg_109).2.1).trans rfl))
    have C13 : (τ285).2.1 13 = (σ.2.1 13) := (((hx288 13 rg_116).2.1).trans (((hx280 13 rg_115).2.1).trans rfl))
    have C14 : (τ285).2.1 14 = (σ.2.1 14) := (((hx288 14 rg_122).2.1).trans (((hx280 14 rg_121).2.1).trans rfl))
    have C15 : (τ285).2.1 15 = (σ.2.1 15) := (((hx288 15 rg_100).2.1).trans (((hx280 15 rg_99).2.1).trans rfl))
    have C16 : (τ285).2.1 16 = (σ.2.1 16) := (((hx288 16 rg_129).2.1).trans (((hx280 16 rg_128).2.1).trans rfl))
    have C17 : (τ285).2.1 17 = (σ.2.1 17) := (((hx288 17 rg_134).2.1).trans (((hx280 17 rg_133).2.1).trans rfl))
    have C18 : (τ285).2.1 18 = (σ.2.1 18) := (((hx288 18 rg_140).2.1).trans (((hx280 18 rg_139).2.1).trans rfl))
    have C19 : (τ285).2.1 19 = (σ.2.1 19) := (((hx288 19 rg_146).2.1).trans (((hx280 19 rg_145).2.1).trans rfl))
    have C20 : (τ285).2.1 20 = (σ.2.1 20) := (((hx288 20 rg_152).2.1).trans (((hx280 20 rg_151).2.1).trans rfl))
    have C21 : (τ285).2.1 21 = (σ.2.1 21) := (((hx288 21 rg_158).2.1).trans (((hx280 21 rg_157).2.1).trans rfl))
    have C22 : (τ285).2.1 22 = (σ.2.1 22) := (((hx288 22 rg_164).2.1).trans (((hx280 22 rg_163).2.1).trans rfl))
    have o84 : z276.toInt = 12 * (σ.1 30).toInt + (σ.2.1 12 (σ.1 30).toNatClampNeg).toInt := by omega
    exact pt_50 τ285 z276 (σ.1 6) (τ277.2.2.2 10) _ _ _ hI287 Xτ285 Mτ285 Lτ285 (show z276.toInt = 12 * (σ.1 30).toInt + (σ.2.1 12 (σ.1 30).toNatClampNeg).toInt from o84) (tabL 0 C11 C12 C13 C14 C15 C16 (Or.inr C17) (Or.inr C18) (Or.inr C19) (Or.inr C20) (Or.inr C21) C22) hP hD hS (lv_sub hl [3, 4, 2, 1, 0] rfl)
  · have tc283 := (show (σ.1 8).toInt = 2 from ti_eq rfl rg_20 c283)
    refine lv_iconst (v := 1) hx hb dX12_readStep_42 rg_6 ?_
    refine lv_goto (tgt := 47) hx hb dX12_readStep_43 rfl ?_
    have kk291 : (1 : Int32).toInt = 1 := rg_18
    refine zy_v (va_runV (As := [.int 1]) (rest := []) ⟨hx, hb, hml, hown, hts⟩ (n_must l dC dI h ad cl H.size τ277 1 hI279 (Lx.es Lτ277)) (cwV 1 hts gd_n_readStep_278_n_must rfl rfl rfl dd_n_must ⟨Nat.le_of_ble_eq_true rfl, Nat.le_of_ble_eq_true rfl⟩) (preV hP hK hD hE (ci := 12) (q0 := 0) rfl rfl) rfl rfl hl.1 rfl (lv_room (Nat.le_of_ble_eq_true rfl)) dX12_readStep_47 ⟨Nat.le_of_ble_eq_true rfl, Nat.le_of_ble_eq_true rfl⟩) hD hS hA (fun τ292 H locs hq hP hD hS => ?_)
    obtain ⟨hI294, hx295, mo296, lx297⟩ := hq
    have Xτ292 : eqx [6, 7, 8, 9, 10, 4, 5, 17, 18, 19, 20, 21, 27, 28, 26, 12] τ292 σ := eqx.tr hx295 Xτ277 rg_238
    have Mτ292 : Mo τ292 σ := Mo.tr mo296 (fun h9 => Mτ277 h9)
    have Lτ292 : Lx τ292 σ := Lx.tr lx297 Lτ277
    refine W.widen (k := 0) (n := 0) (Nat.le_of_ble_eq_true rfl) (Nat.le_of_ble_eq_true rfl) ?_
    have C11 : (τ292).2.1 11 = (σ.2.1 11) := (((hx295 11 rg_104).2.1).trans (((hx280 11 rg_103).2.1).trans rfl))
    have C12 : (τ292).2.1 12 = (σ.2.1 12) := (((hx295 12 rg_110).2.1).trans (((hx280 12 rg_109).2.1).trans rfl))
    have C13 : (τ292).2.1 13 = (σ.2.1 13) := (((hx295 13 rg_116).2.1).trans (((hx280 13 rg_115).2.1).trans rfl))
    have C14 : (τ292).2.1 14 = (σ.2.1 14) := (((hx295 14 rg_122).2.1).trans (((hx280 14 rg_121).2.1).trans rfl))
    have C15 : (τ292).2.1 15 = (σ.2.1 15) := (((hx295 15 rg_100).2.1).trans (((hx280 15 rg_99).2.1).trans rfl))
    have C16 : (τ292).2.1 16 = (σ.2.1 16) := (((hx295 16 rg_129).2.1).trans (((hx280 16 rg_128).2.1).trans rfl))
    have C17 : (τ292).2.1 17 = (σ.2.1 17) := (((hx295 17 rg_134).2.1).trans (((hx280 17 rg_133).2.1).trans rfl))
    have C18 : (τ292).2.1 18 = (σ.2.1 18) := (((hx295 18 rg_140).2.1).trans (((hx280 18 rg_139).2.1).trans rfl))
    have C19 : (τ292).2.1 19 = (σ.2.1 19) := (((hx295 19 rg_146).2.1).trans (((hx280 19 rg_145).2.1).trans rfl))
    have C20 : (τ292).2.1 20 = (σ.2.1 20) := (((hx295 20 rg_152).2.1).trans (((hx280 20 rg_151).2.1).trans rfl))
    have C21 : (τ292).2.1 21 = (σ.2.1 21) := (((hx295 21 rg_158).2.1).trans (((hx280 21 rg_157).2.1).trans rfl))
    have C22 : (τ292).2.1 22 = (σ.2.1 22) := (((hx295 22 rg_164).2.1).trans (((hx280 22 rg_163).2.1).trans rfl))
    have o85 : z276.toInt = 12 * (σ.1 30).toInt + (σ.2.1 12 (σ.1 30).toNatClampNeg).toInt := by omega
    exact pt_50 τ292 z276 (σ.1 6) (τ277.2.2.2 10) _ _ _ hI294 Xτ292 Mτ292 Lτ292 (show z276.toInt = 12 * (σ.1 30).toInt + (σ.2.1 12 (σ.1 30).toNatClampNeg).toInt from o85) (tabL 0 C11 C12 C13 C14 C15 C16 (Or.inr C17) (Or.inr C18) (Or.inr C19) (Or.inr C20) (Or.inr C21) C22) hP hD hS (lv_sub hl [3, 4, 2, 1, 0] rfl)
