theorem dX4_readParts_0 : decode cX4_readParts 0 = .ok (.aload_n 1, 1) := by decide +kernel
theorem dX4_readParts_1 : decode cX4_readParts 1 = .ok (.getfield 193, 3) := by decide +kernel
theorem dX4_readParts_4 : decode cX4_readParts 4 = .ok (.tableswitch 185 0 7 #[48, 48, 185, 185, 185, 65, 113, 138], 48) := by decide +kernel
theorem dX4_readParts_189 : decode cX4_readParts 189 = .ok (.aload_n 1, 1) := by decide +kernel
theorem dX4_readParts_190 : decode cX4_readParts 190 = .ok (.aload_n 0, 1) := by decide +kernel
theorem dX4_readParts_191 : decode cX4_readParts 191 = .ok (.invokevirtual 124, 3) := by decide +kernel
theorem dX4_readParts_194 : decode cX4_readParts 194 = .ok (.putfield 204, 3) := by decide +kernel
theorem dX4_readParts_197 : decode cX4_readParts 197 = .ok (.aload_n 1, 1) := by decide +kernel
theorem dX4_readParts_198 : decode cX4_readParts 198 = .ok (.aload_n 0, 1) := by decide +kernel
theorem dX4_readParts_199 : decode cX4_readParts 199 = .ok (.invokevirtual 124, 3) := by decide +kernel
theorem dX4_readParts_202 : decode cX4_readParts 202 = .ok (.putfield 219, 3) := by decide +kernel
theorem dX4_readParts_205 : decode cX4_readParts 205 = .ok (.return_, 1) := by decide +kernel
theorem dX4_readParts_52 : decode cX4_readParts 52 = .ok (.aload_n 0, 1) := by decide +kernel
theorem dX4_readParts_53 : decode cX4_readParts 53 = .ok (.ldc 194, 2) := by decide +kernel
theorem dX4_readParts_55 : decode cX4_readParts 55 = .ok (.invokevirtual 102, 3) := by decide +kernel
theorem dX4_readParts_58 : decode cX4_readParts 58 = .ok (.aload_n 1, 1) := by decide +kernel
theorem dX4_readParts_59 : decode cX4_readParts 59 = .ok (.aload_n 0, 1) := by decide +kernel
theorem dX4_readParts_60 : decode cX4_readParts 60 = .ok (.invokevirtual 196, 3) := by decide +kernel
theorem dX4_readParts_63 : decode cX4_readParts 63 = .ok (.putfield 200, 3) := by decide +kernel
theorem dX4_readParts_66 : decode cX4_readParts 66 = .ok (.goto 139, 3) := by decide +kernel
theorem dX4_readParts_69 : decode cX4_readParts 69 = .ok (.aload_n 1, 1) := by decide +kernel
theorem dX4_readParts_70 : decode cX4_readParts 70 = .ok (.aload_n 0, 1) := by decide +kernel
theorem dX4_readParts_71 : decode cX4_readParts 71 = .ok (.invokevirtual 124, 3) := by decide +kernel
theorem dX4_readParts_74 : decode cX4_readParts 74 = .ok (.putfield 204, 3) := by decide +kernel
theorem dX4_readParts_77 : decode cX4_readParts 77 = .ok (.aload_n 0, 1) := by decide +kernel
theorem dX4_readParts_78 : decode cX4_readParts 78 = .ok (.ldc 207, 2) := by decide +kernel
theorem dX4_readParts_80 : decode cX4_readParts 80 = .ok (.invokevirtual 102, 3) := by decide +kernel
theorem dX4_readParts_83 : decode cX4_readParts 83 = .ok (.aload_n 1, 1) := by decide +kernel
theorem dX4_readParts_84 : decode cX4_readParts 84 = .ok (.aload_n 0, 1) := by decide +kernel
theorem dX4_readParts_85 : decode cX4_readParts 85 = .ok (.bipush (-99), 2) := by decide +kernel
theorem dX4_readParts_87 : decode cX4_readParts 87 = .ok (.bipush 99, 2) := by decide +kernel
theorem dX4_readParts_89 : decode cX4_readParts 89 = .ok (.iconst 1, 1) := by decide +kernel
theorem dX4_readParts_90 : decode cX4_readParts 90 = .ok (.invokevirtual 106, 3) := by decide +kernel
theorem dX4_readParts_93 : decode cX4_readParts 93 = .ok (.putfield 209, 3) := by decide +kernel
theorem dX4_readParts_96 : decode cX4_readParts 96 = .ok (.aload_n 0, 1) := by decide +kernel
theorem dX4_readParts_97 : decode cX4_readParts 97 = .ok (.ldc 212, 2) := by decide +kernel
theorem dX4_readParts_99 : decode cX4_readParts 99 = .ok (.invokevirtual 102, 3) := by decide +kernel
theorem dX4_readParts_102 : decode cX4_readParts 102 = .ok (.aload_n 1, 1) := by decide +kernel
theorem dX4_readParts_103 : decode cX4_readParts 103 = .ok (.aload_n 0, 1) := by decide +kernel
theorem dX4_readParts_104 : decode cX4_readParts 104 = .ok (.iconst 1, 1) := by decide +kernel
theorem dX4_readParts_105 : decode cX4_readParts 105 = .ok (.bipush 99, 2) := by decide +kernel
theorem dX4_readParts_107 : decode cX4_readParts 107 = .ok (.iconst 0, 1) := by decide +kernel
theorem dX4_readParts_108 : decode cX4_readParts 108 = .ok (.invokevirtual 106, 3) := by decide +kernel
theorem dX4_readParts_111 : decode cX4_readParts 111 = .ok (.putfield 214, 3) := by decide +kernel
theorem dX4_readParts_114 : decode cX4_readParts 114 = .ok (.goto 91, 3) := by decide +kernel
theorem dX4_readParts_117 : decode cX4_readParts 117 = .ok (.aload_n 1, 1) := by decide +kernel
theorem dX4_readParts_118 : decode cX4_readParts 118 = .ok (.aload_n 0, 1) := by decide +kernel
theorem dX4_readParts_119 : decode cX4_readParts 119 = .ok (.invokevirtual 196, 3) := by decide +kernel
theorem dX4_readParts_122 : decode cX4_readParts 122 = .ok (.putfield 200, 3) := by decide +kernel
theorem dX4_readParts_125 : decode cX4_readParts 125 = .ok (.aload_n 0, 1) := by decide +kernel
theorem dX4_readParts_126 : decode cX4_readParts 126 = .ok (.ldc 217, 2) := by decide +kernel
theorem dX4_readParts_128 : decode cX4_readParts 128 = .ok (.invokevirtual 102, 3) := by decide +kernel
theorem dX4_readParts_131 : decode cX4_readParts 131 = .ok (.aload_n 1, 1) := by decide +kernel
theorem dX4_readParts_132 : decode cX4_readParts 132 = .ok (.aload_n 0, 1) := by decide +kernel
theorem dX4_readParts_133 : decode cX4_readParts 133 = .ok (.invokevirtual 124, 3) := by decide +kernel
theorem dX4_readParts_136 : decode cX4_readParts 136 = .ok (.putfield 204, 3) := by decide +kernel
theorem dX4_readParts_139 : decode cX4_readParts 139 = .ok (.goto 66, 3) := by decide +kernel
theorem dX4_readParts_142 : decode cX4_readParts 142 = .ok (.aload_n 1, 1) := by decide +kernel
theorem dX4_readParts_143 : decode cX4_readParts 143 = .ok (.aload_n 0, 1) := by decide +kernel
theorem dX4_readParts_144 : decode cX4_readParts 144 = .ok (.invokevirtual 124, 3) := by decide +kernel
theorem dX4_readParts_147 : decode cX4_readParts 147 = .ok (.putfield 204, 3) := by decide +kernel
theorem dX4_readParts_150 : decode cX4_readParts 150 = .ok (.aload_n 1, 1) := by decide +kernel
theorem dX4_readParts_151 : decode cX4_readParts 151 = .ok (.aload_n 0, 1) := by decide +kernel
theorem dX4_readParts_152 : decode cX4_readParts 152 = .ok (.invokevirtual 124, 3) := by decide +kernel
theorem dX4_readParts_155 : decode cX4_readParts 155 = .ok (.putfield 219, 3) := by decide +kernel
theorem dX4_readParts_158 : decode cX4_readParts 158 = .ok (.aload_n 0, 1) := by decide +kernel
theorem dX4_readParts_159 : decode cX4_readParts 159 = .ok (.ldc 222, 2) := by decide +kernel
theorem dX4_readParts_161 : decode cX4_readParts 161 = .ok (.invokevirtual 102, 3) := by decide +kernel
theorem dX4_readParts_164 : decode cX4_readParts 164 = .ok (.aload_n 1, 1) := by decide +kernel
theorem dX4_readParts_165 : decode cX4_readParts 165 = .ok (.aload_n 0, 1) := by decide +kernel
theorem dX4_readParts_166 : decode cX4_readParts 166 = .ok (.invokevirtual 124, 3) := by decide +kernel
theorem dX4_readParts_169 : decode cX4_readParts 169 = .ok (.putfield 224, 3) := by decide +kernel
theorem dX4_readParts_172 : decode cX4_readParts 172 = .ok (.aload_n 0, 1) := by decide +kernel
theorem dX4_readParts_173 : decode cX4_readParts 173 = .ok (.ldc 227, 2) := by decide +kernel
theorem dX4_readParts_175 : decode cX4_readParts 175 = .ok (.invokevirtual 102, 3) := by decide +kernel
theorem dX4_readParts_178 : decode cX4_readParts 178 = .ok (.aload_n 1, 1) := by decide +kernel
theorem dX4_readParts_179 : decode cX4_readParts 179 = .ok (.aload_n 0, 1) := by decide +kernel
theorem dX4_readParts_180 : decode cX4_readParts 180 = .ok (.invokevirtual 124, 3) := by decide +kernel
theorem dX4_readParts_183 : decode cX4_readParts 183 = .ok (.putfield 229, 3) := by decide +kernel
theorem dX4_readParts_186 : decode cX4_readParts 186 = .ok (.goto 19, 3) := by decide +kernel
theorem dX4_makeSpan_0 : decode cX4_makeSpan 0 = .ok (.aload_n 1, 1) := by decide +kernel
theorem dX4_makeSpan_1 : decode cX4_makeSpan 1 = .ok (.getfield 200, 3) := by decide +kernel
theorem dX4_makeSpan_4 : decode cX4_makeSpan 4 = .ok (.astore_n 2, 1) := by decide +kernel
theorem dX4_makeSpan_5 : decode cX4_makeSpan 5 = .ok (.aload_n 2, 1) := by decide +kernel
theorem dX4_makeSpan_6 : decode cX4_makeSpan 6 = .ok (.ifnull 40, 3) := by decide +kernel
theorem dX4_makeSpan_46 : decode cX4_makeSpan 46 = .ok (.aload_n 0, 1) := by decide +kernel
theorem dX4_makeSpan_47 : decode cX4_makeSpan 47 = .ok (.getfield 12, 3) := by decide +kernel
theorem dX4_makeSpan_50 : decode cX4_makeSpan 50 = .ok (.getfield 245, 3) := by decide +kernel
theorem dX4_makeSpan_53 : decode cX4_makeSpan 53 = .ok (.aload_n 1, 1) := by decide +kernel
theorem dX4_makeSpan_54 : decode cX4_makeSpan 54 = .ok (.getfield 204, 3) := by decide +kernel
theorem dX4_makeSpan_57 : decode cX4_makeSpan 57 = .ok (.aaload, 1) := by decide +kernel
theorem dX4_makeSpan_58 : decode cX4_makeSpan 58 = .ok (.astore_n 3, 1) := by decide +kernel
theorem dX4_makeSpan_59 : decode cX4_makeSpan 59 = .ok (.aload_n 0, 1) := by decide +kernel
theorem dX4_makeSpan_60 : decode cX4_makeSpan 60 = .ok (.getfield 12, 3) := by decide +kernel
theorem dX4_makeSpan_63 : decode cX4_makeSpan 63 = .ok (.getfield 245, 3) := by decide +kernel
theorem dX4_makeSpan_66 : decode cX4_makeSpan 66 = .ok (.aload_n 1, 1) := by decide +kernel
theorem dX4_makeSpan_67 : decode cX4_makeSpan 67 = .ok (.getfield 219, 3) := by decide +kernel
theorem dX4_makeSpan_70 : decode cX4_makeSpan 70 = .ok (.aaload, 1) := by decide +kernel
theorem dX4_makeSpan_71 : decode cX4_makeSpan 71 = .ok (.astore 4, 2) := by decide +kernel
theorem dX4_makeSpan_73 : decode cX4_makeSpan 73 = .ok (.aload_n 1, 1) := by decide +kernel
theorem dX4_makeSpan_74 : decode cX4_makeSpan 74 = .ok (.getfield 193, 3) := by decide +kernel
theorem dX4_makeSpan_77 : decode cX4_makeSpan 77 = .ok (.tableswitch 157 2 5 #[31, 58, 85, 134], 31) := by decide +kernel
theorem dX4_makeSpan_234 : decode cX4_makeSpan 234 = .ok (.aload_n 1, 1) := by decide +kernel
theorem dX4_makeSpan_235 : decode cX4_makeSpan 235 = .ok (.aload_n 3, 1) := by decide +kernel
theorem dX4_makeSpan_236 : decode cX4_makeSpan 236 = .ok (.getfield 164, 3) := by decide +kernel
theorem dX4_makeSpan_239 : decode cX4_makeSpan 239 = .ok (.aload 4, 2) := by decide +kernel
theorem dX4_makeSpan_241 : decode cX4_makeSpan 241 = .ok (.getfield 164, 3) := by decide +kernel
theorem dX4_makeSpan_244 : decode cX4_makeSpan 244 = .ok (.invokestatic 262, 3) := by decide +kernel
theorem dX4_makeSpan_247 : decode cX4_makeSpan 247 = .ok (.aload_n 3, 1) := by decide +kernel
theorem dX4_makeSpan_248 : decode cX4_makeSpan 248 = .ok (.getfield 169, 3) := by decide +kernel
theorem dX4_makeSpan_251 : decode cX4_makeSpan 251 = .ok (.aload 4, 2) := by decide +kernel
theorem dX4_makeSpan_253 : decode cX4_makeSpan 253 = .ok (.getfield 169, 3) := by decide +kernel
theorem dX4_makeSpan_256 : decode cX4_makeSpan 256 = .ok (.invokestatic 268, 3) := by decide +kernel
theorem dX4_makeSpan_259 : decode cX4_makeSpan 259 = .ok (.invokevirtual 241, 3) := by decide +kernel
theorem dX4_makeSpan_262 : decode cX4_makeSpan 262 = .ok (.return_, 1) := by decide +kernel
theorem dX4_makeSpan_108 : decode cX4_makeSpan 108 = .ok (.aload_n 1, 1) := by decide +kernel
theorem dX4_makeSpan_109 : decode cX4_makeSpan 109 = .ok (.aload_n 3, 1) := by decide +kernel
theorem dX4_makeSpan_110 : decode cX4_makeSpan 110 = .ok (.getfield 164, 3) := by decide +kernel
theorem dX4_makeSpan_113 : decode cX4_makeSpan 113 = .ok (.aload 4, 2) := by decide +kernel
theorem dX4_makeSpan_115 : decode cX4_makeSpan 115 = .ok (.getfield 164, 3) := by decide +kernel
theorem dX4_makeSpan_118 : decode cX4_makeSpan 118 = .ok (.ladd, 1) := by decide +kernel
theorem dX4_makeSpan_119 : decode cX4_makeSpan 119 = .ok (.aload_n 3, 1) := by decide +kernel
theorem dX4_makeSpan_120 : decode cX4_makeSpan 120 = .ok (.getfield 169, 3) := by decide +kernel
theorem dX4_makeSpan_123 : decode cX4_makeSpan 123 = .ok (.aload 4, 2) := by decide +kernel
theorem dX4_makeSpan_125 : decode cX4_makeSpan 125 = .ok (.getfield 169, 3) := by decide +kernel
theorem dX4_makeSpan_128 : decode cX4_makeSpan 128 = .ok (.ladd, 1) := by decide +kernel
theorem dX4_makeSpan_129 : decode cX4_makeSpan 129 = .ok (.invokevirtual 241, 3) := by decide +kernel
theorem dX4_makeSpan_132 : decode cX4_makeSpan 132 = .ok (.goto 130, 3) := by decide +kernel
theorem dX4_makeSpan_135 : decode cX4_makeSpan 135 = .ok (.aload_n 1, 1) := by decide +kernel
theorem dX4_makeSpan_136 : decode cX4_makeSpan 136 = .ok (.aload_n 3, 1) := by decide +kernel
theorem dX4_makeSpan_137 : decode cX4_makeSpan 137 = .ok (.getfield 164, 3) := by decide +kernel
theorem dX4_makeSpan_140 : decode cX4_makeSpan 140 = .ok (.aload 4, 2) := by decide +kernel
theorem dX4_makeSpan_142 : decode cX4_makeSpan 142 = .ok (.getfield 169, 3) := by decide +kernel
theorem dX4_makeSpan_145 : decode cX4_makeSpan 145 = .ok (.lsub, 1) := by decide +kernel
theorem dX4_makeSpan_146 : decode cX4_makeSpan 146 = .ok (.aload_n 3, 1) := by decide +kernel
theorem dX4_makeSpan_147 : decode cX4_makeSpan 147 = .ok (.getfield 169, 3) := by decide +kernel
theorem dX4_makeSpan_150 : decode cX4_makeSpan 150 = .ok (.aload 4, 2) := by decide +kernel
theorem dX4_makeSpan_152 : decode cX4_makeSpan 152 = .ok (.getfield 164, 3) := by decide +kernel
theorem dX4_makeSpan_155 : decode cX4_makeSpan 155 = .ok (.lsub, 1) := by decide +kernel
theorem dX4_makeSpan_156 : decode cX4_makeSpan 156 = .ok (.invokevirtual 241, 3) := by decide +kernel
theorem dX4_makeSpan_159 : decode cX4_makeSpan 159 = .ok (.goto 103, 3) := by decide +kernel
theorem dX4_makeSpan_162 : decode cX4_makeSpan 162 = .ok (.aload_n 1, 1) := by decide +kernel
theorem dX4_makeSpan_163 : decode cX4_makeSpan 163 = .ok (.aload_n 3, 1) := by decide +kernel
theorem dX4_makeSpan_164 : decode cX4_makeSpan 164 = .ok (.getfield 164, 3) := by decide +kernel
theorem dX4_makeSpan_167 : decode cX4_makeSpan 167 = .ok (.aload_n 3, 1) := by decide +kernel
theorem dX4_makeSpan_168 : decode cX4_makeSpan 168 = .ok (.getfield 169, 3) := by decide +kernel
theorem dX4_makeSpan_171 : decode cX4_makeSpan 171 = .ok (.aload 4, 2) := by decide +kernel
theorem dX4_makeSpan_173 : decode cX4_makeSpan 173 = .ok (.getfield 164, 3) := by decide +kernel
theorem dX4_makeSpan_176 : decode cX4_makeSpan 176 = .ok (.aload 4, 2) := by decide +kernel
theorem dX4_makeSpan_178 : decode cX4_makeSpan 178 = .ok (.getfield 169, 3) := by decide +kernel
theorem dX4_makeSpan_181 : decode cX4_makeSpan 181 = .ok (.invokestatic 249, 3) := by decide +kernel
theorem dX4_makeSpan_184 : decode cX4_makeSpan 184 = .ok (.aload_n 3, 1) := by decide +kernel
theorem dX4_makeSpan_185 : decode cX4_makeSpan 185 = .ok (.getfield 164, 3) := by decide +kernel
theorem dX4_makeSpan_188 : decode cX4_makeSpan 188 = .ok (.aload_n 3, 1) := by decide +kernel
theorem dX4_makeSpan_189 : decode cX4_makeSpan 189 = .ok (.getfield 169, 3) := by decide +kernel
theorem dX4_makeSpan_192 : decode cX4_makeSpan 192 = .ok (.aload 4, 2) := by decide +kernel
theorem dX4_makeSpan_194 : decode cX4_makeSpan 194 = .ok (.getfield 164, 3) := by decide +kernel
theorem dX4_makeSpan_197 : decode cX4_makeSpan 197 = .ok (.aload 4, 2) := by decide +kernel
theorem dX4_makeSpan_199 : decode cX4_makeSpan 199 = .ok (.getfield 169, 3) := by decide +kernel
theorem dX4_makeSpan_202 : decode cX4_makeSpan 202 = .ok (.invokestatic 255, 3) := by decide +kernel
theorem dX4_makeSpan_205 : decode cX4_makeSpan 205 = .ok (.invokevirtual 241, 3) := by decide +kernel
theorem dX4_makeSpan_208 : decode cX4_makeSpan 208 = .ok (.goto 54, 3) := by decide +kernel
theorem dX4_makeSpan_211 : decode cX4_makeSpan 211 = .ok (.aload_n 1, 1) := by decide +kernel
theorem dX4_makeSpan_212 : decode cX4_makeSpan 212 = .ok (.aload_n 1, 1) := by decide +kernel
theorem dX4_makeSpan_213 : decode cX4_makeSpan 213 = .ok (.aload_n 3, 1) := by decide +kernel
theorem dX4_makeSpan_214 : decode cX4_makeSpan 214 = .ok (.getfield 164, 3) := by decide +kernel
theorem dX4_makeSpan_217 : decode cX4_makeSpan 217 = .ok (.invokevirtual 258, 3) := by decide +kernel
theorem dX4_makeSpan_220 : decode cX4_makeSpan 220 = .ok (.aload_n 1, 1) := by decide +kernel
theorem dX4_makeSpan_221 : decode cX4_makeSpan 221 = .ok (.aload_n 3, 1) := by decide +kernel
theorem dX4_makeSpan_222 : decode cX4_makeSpan 222 = .ok (.getfield 169, 3) := by decide +kernel
theorem dX4_makeSpan_225 : decode cX4_makeSpan 225 = .ok (.invokevirtual 258, 3) := by decide +kernel
theorem dX4_makeSpan_228 : decode cX4_makeSpan 228 = .ok (.invokevirtual 241, 3) := by decide +kernel
theorem dX4_makeSpan_231 : decode cX4_makeSpan 231 = .ok (.goto 31, 3) := by decide +kernel
theorem dX4_makeSpan_9 : decode cX4_makeSpan 9 = .ok (.aload_n 1, 1) := by decide +kernel
theorem dX4_makeSpan_10 : decode cX4_makeSpan 10 = .ok (.getfield 193, 3) := by decide +kernel
theorem dX4_makeSpan_13 : decode cX4_makeSpan 13 = .ok (.ifCond .ne 10, 3) := by decide +kernel
theorem dX4_makeSpan_23 : decode cX4_makeSpan 23 = .ok (.iconst 1, 1) := by decide +kernel
theorem dX4_makeSpan_24 : decode cX4_makeSpan 24 = .ok (.istore_n 3, 1) := by decide +kernel
theorem dX4_makeSpan_25 : decode cX4_makeSpan 25 = .ok (.aload_n 1, 1) := by decide +kernel
theorem dX4_makeSpan_26 : decode cX4_makeSpan 26 = .ok (.iload_n 3, 1) := by decide +kernel
theorem dX4_makeSpan_27 : decode cX4_makeSpan 27 = .ok (.i2l, 1) := by decide +kernel
theorem dX4_makeSpan_28 : decode cX4_makeSpan 28 = .ok (.aload_n 2, 1) := by decide +kernel
theorem dX4_makeSpan_29 : decode cX4_makeSpan 29 = .ok (.getfield 237, 3) := by decide +kernel
theorem dX4_makeSpan_32 : decode cX4_makeSpan 32 = .ok (.i2l, 1) := by decide +kernel
theorem dX4_makeSpan_33 : decode cX4_makeSpan 33 = .ok (.lmul, 1) := by decide +kernel
theorem dX4_makeSpan_34 : decode cX4_makeSpan 34 = .ok (.iload_n 3, 1) := by decide +kernel
theorem dX4_makeSpan_35 : decode cX4_makeSpan 35 = .ok (.i2l, 1) := by decide +kernel
theorem dX4_makeSpan_36 : decode cX4_makeSpan 36 = .ok (.aload_n 2, 1) := by decide +kernel
theorem dX4_makeSpan_37 : decode cX4_makeSpan 37 = .ok (.getfield 239, 3) := by decide +kernel
theorem dX4_makeSpan_40 : decode cX4_makeSpan 40 = .ok (.i2l, 1) := by decide +kernel
theorem dX4_makeSpan_41 : decode cX4_makeSpan 41 = .ok (.lmul, 1) := by decide +kernel
theorem dX4_makeSpan_42 : decode cX4_makeSpan 42 = .ok (.invokevirtual 241, 3) := by decide +kernel
theorem dX4_makeSpan_45 : decode cX4_makeSpan 45 = .ok (.return_, 1) := by decide +kernel
theorem dX4_makeSpan_16 : decode cX4_makeSpan 16 = .ok (.aload_n 2, 1) := by decide +kernel
theorem dX4_makeSpan_17 : decode cX4_makeSpan 17 = .ok (.getfield 232, 3) := by decide +kernel
theorem dX4_makeSpan_20 : decode cX4_makeSpan 20 = .ok (.goto 4, 3) := by decide +kernel

def ow_g_readParts : List Cond := [.fieldLink RX4 193 "NearEnough$Step" "kind" "I", .fieldLink RX4 204 "NearEnough$Step" "a" "I", .fieldLink RX4 219 "NearEnough$Step" "b" "I", .fieldLink RX4 200 "NearEnough$Step" "row" "LNearEnough$Row;", .fieldLink RX4 209 "NearEnough$Step" "by" "I", .fieldLink RX4 214 "NearEnough$Step" "over" "I", .fieldLink RX4 224 "NearEnough$Step" "under" "I", .fieldLink RX4 229 "NearEnough$Step" "other" "I"]
def vs_g_readParts : List Cond := .code yX4_readParts cX4_readParts 2 none :: (ow_g_readParts ++ (([.methodLink RX4 124 yX4_needStep, .instanceMethod yX4_needStep, .selects RX4 yX4_needStep yX4_needStep, .initialized RX4] : List Cond) ++ (vs_r_needStep ++ (([.methodLink RX4 102 yX4_needWord, .instanceMethod yX4_needWord, .selects RX4 yX4_needWord yX4_needWord, .initialized RX4] : List Cond) ++ (vs_r_needWord ++ (([.methodLink RX4 196 yX4_needRow, .instanceMethod yX4_needRow, .selects RX4 yX4_needRow yX4_needRow, .initialized RX4] : List Cond) ++ (vs_r_needRow ++ (([.methodLink RX4 106 yX4_needNumber, .instanceMethod yX4_needNumber, .selects RX4 yX4_needNumber yX4_needNumber, .initialized RX4] : List Cond) ++ (vs_r_needNumber ++ (wsX90))))))))))
theorem vg_g_readParts : vs_g_readParts.all goodWord = true := by decide +kernel
theorem dd_g_readParts : yX4_readParts.cls = RX4 ∧ yX4_readParts.cls ≠ "java/lang/invoke/MethodHandle" ∧ yX4_readParts.cls ≠ "java/lang/invoke/VarHandle" ∧ (parseMethodDescriptor yX4_readParts.desc).map (fun d => d.parameters.length) = some 1 := by decide +kernel
def rm_g_readParts : Room := { frames := 7, cells := 0, slots := 0, locals := 151 }
theorem gd_g_readParts_124_r_needStep : GoodIn vs_g_readParts (wsV RX4 124 RX4 yX4_needStep vs_r_needStep) := goodIn_app (goodIn_sub (fun w h => (List.mem_cons_of_mem _ (List.mem_append_right _ (List.mem_append_left _ h)))) (by decide +kernel)) (goodIn_sub (fun w h => (List.mem_cons_of_mem _ (List.mem_append_right _ (List.mem_append_right _ (List.mem_append_left _ h))))) vg_r_needStep)
theorem gd_g_readParts_102_r_needWord : GoodIn vs_g_readParts (wsV RX4 102 RX4 yX4_needWord vs_r_needWord) := goodIn_app (goodIn_sub (fun w h => (List.mem_cons_of_mem _ (List.mem_append_right _ (List.mem_append_right _ (List.mem_append_right _ (List.mem_append_left _ h)))))) (by decide +kernel)) (goodIn_sub (fun w h => (List.mem_cons_of_mem _ (List.mem_append_right _ (List.mem_append_right _ (List.mem_append_right _ (List.mem_append_right _ (List.mem_append_left _ h))))))) vg_r_needWord)
theorem gd_g_readParts_196_r_needRow : GoodIn vs_g_readParts (wsV RX4 196 RX4 yX4_needRow vs_r_needRow) := goodIn_app (goodIn_sub (fun w h => (List.mem_cons_of_mem _ (List.mem_append_right _ (List.mem_append_right _ (List.mem_append_right _ (List.mem_append_right _ (List.mem_append_right _ (List.mem_append_left _ h)))))))) (by decide +kernel)) (goodIn_sub (fun w h => (List.mem_cons_of_mem _ (List.mem_append_right _ (List.mem_append_right _ (List.mem_append_right _ (List.mem_append_right _ (List.mem_append_right _ (List.mem_append_right _ (List.mem_append_left _ h))))))))) vg_r_needRow)
theorem gd_g_readParts_106_r_needNumber : GoodIn vs_g_readParts (wsV RX4 106 RX4 yX4_needNumber vs_r_needNumber) := goodIn_app (goodIn_sub (fun w h => (List.mem_cons_of_mem _ (List.mem_append_right _ (List.mem_append_right _ (List.mem_append_right _ (List.mem_append_right _ (List.mem_append_right _ (List.mem_append_right _ (List.mem_append_right _ (List.mem_append_left _ h)))))))))) (by decide +kernel)) (goodIn_sub (fun w h => (List.mem_cons_of_mem _ (List.mem_append_right _ (List.mem_append_right _ (List.mem_append_right _ (List.mem_append_right _ (List.mem_append_right _ (List.mem_append_right _ (List.mem_append_right _ (List.mem_append_right _ (List.mem_append_left _ h))))))))))) vg_r_needNumber)
set_option maxHeartbeats 4000000 in
set_option maxRecDepth 100000 in
theorem g_readParts (l : Launch) (dC : Nat → ClassId) (dI : Nat → Nat → Nat) (adK adV : Nat → Nat) (κ : CE) (sz : Nat) (σ : MS) (a : Nat) (t_a : TT) (ha : a ∈ kL κ) (hk : ∀ t : TT, PInv (ku κ a t)) (hI : RInv σ) (hz : ∀ j, 1 ≤ j → j ≤ 4 → t_a.1 j = 0) (hrn : t_a.2.2 = none) : Met l yX4_readParts vs_g_readParts rm_g_readParts (va_Pc [.ref (kA κ 0), .ref a] (wSr dC dI adK adV (rW (ku κ a t_a) σ) (rT κ) sz)) (va_Qv (fun (u : TT × MS) => RInv u.2 ∧ (((σ.1 1).toInt = 0 ∨ (u.2.1 1).toInt ≠ 0) ∧ PrOk κ a u.1 (u.2.1 1).toInt)) (fun (u : TT × MS) => wEn dC dI (va_A (rW (ku κ a t_a) σ) sz) (rW (ku κ a u.1) u.2) []) (va_A (rW (ku κ a t_a) σ) sz)) 0 0 (va_A (rW (ku κ a t_a) σ) sz) := by
  refine Met.ofW (cc := cX4_readParts) (maxL := 2) (ret := none) (by decide +kernel) rfl ?_
  intro p e s m args below meth c s₁ B hml hv
  obtain ⟨rfl, ⟨hsz, hP, hK, hD0, hE⟩, hZ, hR⟩ := hv
  have hx := B.exec
  have hb := B.bytes
  have hr := B.returns
  have hts := atoms_spec (ws := vs_g_readParts) B.pre
  have hown : s.vm.findClass RX4 = some m.cls := findClass_of_methodNamed B.named
  have hlocks := B.notSynchronized
  subst hsz
  have hD := hD0.self (sz := s.heap.size)
  generalize hAe : va_A (rW (ku κ a t_a) σ) s.heap.size = A at hD hZ ⊢
  have hA : ∀ q : Nat, s.heap.size ≤ q → A q := fun q h => by rw [← hAe]; exact Or.inr h
  have hl := lv_entry ([.ref (kA κ 0), .ref a]) (n := 2) (Nat.le_of_ble_eq_true rfl)
  rw [lg_entry_eq]
  generalize (lg_sl ([.ref (kA κ 0), .ref a]) ++ List.replicate (2 - (lg_sl ([.ref (kA κ 0), .ref a])).length) Slot.unset).toArray = ls at hl ⊢
  have hl : lv_has ls 2 [(0, .ref (kA κ 0)), (1, .ref a)] := hl
  have ho := fun w (h : w ∈ ow_g_readParts) => hts w (List.mem_cons_of_mem _ (List.mem_append_left _ h))
  have hin9 : ∀ w ∈ u_ws RX9 TX9 11, w ∈ vs_g_readParts := fun w h => (List.mem_cons_of_mem _ (List.mem_append_right _ (List.mem_append_right _ (List.mem_append_right _ (List.mem_append_right _ (List.mem_append_right _ (List.mem_append_right _ (List.mem_append_right _ (List.mem_append_right _ (List.mem_append_right _ h))))))))))
  refine zQ (fun Q hQ => ?_)
  refine zH (A := A) (ws := (rW (ku κ a t_a) σ)) (fun H hP hS => ?_) hP
  have hk0 : 0 ≤ (pI κ 0).toInt ∧ (pI κ 0).toInt ≤ 2 := (hk t_a).1
  have hk1 : 0 ≤ (pI κ 1).toInt ∧ (pI κ 1).toInt ≤ 12 := (hk t_a).2.1
  have hk2 : 0 ≤ (pI κ 2).toInt ∧ (pI κ 2).toInt ≤ 4 := (hk t_a).2.2.1
  have z1_ : (t_a.1 1).toInt = 0 := by rw [hz 1 rx_cd17d5a19c rx_be9bb8ec2b]; decide
  have z2_ : (t_a.1 2).toInt = 0 := by rw [hz 2 rx_c20517e8ed rx_16813831c6]; decide
  have z3_ : (t_a.1 3).toInt = 0 := by rw [hz 3 rx_0bd1d6dfed rx_7960e1f0c9]; decide
  have z4_ : (t_a.1 4).toInt = 0 := by rw [hz 4 rx_be9bb8ec2b rx_e6c5051dfc]; decide
  refine lv_aload_n hx hb dX4_readParts_0 rfl (lv_at hl 1 rfl) ?_
  obtain ⟨kn1_, hkn1_⟩ := rpl (κ := (ku κ a t_a)) (σ := σ) (a := a) ha kf_self
  refine va_get (D := (dC, dI)) (ci := 9) (v := .int (t_a.1 0)) (C := RX9) (T := TX9) (N := 11) hx hb hts hin9 hown hK hP kn1_ hkn1_ rfl 0 (Nat.le_of_ble_eq_true rfl) (ho (.fieldLink RX4 193 "NearEnough$Step" "kind" "I") (List.mem_of_getElem? (i := 0) rfl)) (fun _ h9 => h9) rfl dX4_readParts_1 ?_
  by_cases c_lo : (t_a.1 0).toInt < 0
  · refine lv_tableOut (tgt := 189) hx hb dX4_readParts_4 (Or.inl c_lo) rfl ?_
    refine lv_aload_n hx hb dX4_readParts_189 rfl (lv_at hl 1 rfl) ?_
    refine lv_aload_n hx hb dX4_readParts_190 rfl (lv_at hl 0 rfl) ?_
    refine zy_i (va_runV (As := []) (rest := [.ref a]) ⟨hx, hb, hml, hown, hts⟩ (r_needStep l dC dI adK adV (ku κ a t_a) H.size σ  (hk t_a) hI ) (cwV 0 hts gd_g_readParts_124_r_needStep rfl rfl rfl dd_r_needStep ⟨Nat.le_of_ble_eq_true rfl, Nat.le_of_ble_eq_true rfl⟩) (preVr hP hK hD hE hZ hR hS hA (ci := 4) (q0 := 0) rfl rfl) rfl rfl hl.1 rfl (lv_room (Nat.le_of_ble_eq_true rfl)) dX4_readParts_191 ⟨Nat.le_of_ble_eq_true rfl, Nat.le_of_ble_eq_true rfl⟩) hD hS hA (fun z2_ τ3_ H locs hq hP hD hS => ?_)
    obtain ⟨hτ3_, q4_⟩ := hq
    have q4_ : ((σ.1 1).toInt = 0 ∨ (τ3_.1 1).toInt ≠ 0) ∧ 0 ≤ z2_.toInt ∧ z2_.toInt ≤ 11 ∧ ((τ3_.1 1).toInt ≠ 0 ∨ z2_.toInt < (pI κ 1).toInt) := q4_
    refine W.widen (k := 0) (n := 0) (Nat.le_of_ble_eq_true rfl) (Nat.le_of_ble_eq_true rfl) ?_
    obtain ⟨kn5_, hkn5_⟩ := rpl (κ := (ku κ a t_a)) (σ := τ3_) (a := a) ha kf_self
    have hD6_ := hD
    refine va_put (D := (dC, dI)) (ci := 9) (v := .int z2_) (ty := tyX9 3) (C := RX9) (T := TX9) (N := 11) hx hb hts hin9 tyX9 tyX9_ok nmX9 hown hK hP hD hS kn5_ hkn5_ rfl 3 (Nat.le_of_ble_eq_true rfl) (ho (.fieldLink RX4 204 "NearEnough$Step" "a" "I") (List.mem_of_getElem? (i := 1) rfl)) (fun _ h9 => h9) rfl (tyX9_ok 3 (Nat.le_of_ble_eq_true rfl)) rfl rfl (Nat.le_of_ble_eq_true rfl) dX4_readParts_194 (fun H locs hP hD hS => ?_)
    obtain ⟨T7_, eT7_⟩ : ∃ x9 : TT, x9 = (upd t_a.1 1 z2_, t_a.2.1, t_a.2.2) := ⟨_, rfl⟩
    have hP : va_P (dC, dI) vwCl (rW (ku κ a T7_) τ3_) H := by rw [show (rW (ku κ a T7_) τ3_) = _ from (rW_kw (e' := .inr (9, stV T7_)) hD6_ ha hkn5_).symm, eT7_]; exact hP
    have hD : va_D A (rW (ku κ a T7_) τ3_) := by rw [show (rW (ku κ a T7_) τ3_) = _ from (rW_kw (e' := .inr (9, stV T7_)) hD6_ ha hkn5_).symm, eT7_]; exact hD
    have i8_ : T7_.1 0 = (t_a.1 0) := (congrArg (fun z9 : TT => z9.1 0) eT7_).trans rfl
    have i9_ : T7_.1 1 = z2_ := congrArg (fun z9 : TT => z9.1 1) eT7_
    have i10_ : T7_.1 2 = (t_a.1 2) := (congrArg (fun z9 : TT => z9.1 2) eT7_).trans rfl
    have i11_ : T7_.1 3 = (t_a.1 3) := (congrArg (fun z9 : TT => z9.1 3) eT7_).trans rfl
    have i12_ : T7_.1 4 = (t_a.1 4) := (congrArg (fun z9 : TT => z9.1 4) eT7_).trans rfl
    have i13_ : T7_.2.2 = none := (congrArg (fun z9 : TT => z9.2.2) eT7_).trans hrn
    refine lv_aload_n hx hb dX4_readParts_197 rfl (lv_at hl 1 rfl) ?_
    refine lv_aload_n hx hb dX4_readParts_198 rfl (lv_at hl 0 rfl) ?_
    refine zy_i (va_runV (As := []) (rest := [.ref a]) ⟨hx, hb, hml, hown, hts⟩ (r_needStep l dC dI adK adV (ku κ a T7_) H.size τ3_  (hk T7_) hτ3_ ) (cwV 0 hts gd_g_readParts_124_r_needStep rfl rfl rfl dd_r_needStep ⟨Nat.le_of_ble_eq_true rfl, Nat.le_of_ble_eq_true rfl⟩) (preVr hP hK hD hE hZ hR hS hA (ci := 4) (q0 := 0) rfl rfl) rfl rfl hl.1 rfl (lv_room (Nat.le_of_ble_eq_true rfl)) dX4_readParts_199 ⟨Nat.le_of_ble_eq_true rfl, Nat.le_of_ble_eq_true rfl⟩) hD hS hA (fun z14_ τ15_ H locs hq hP hD hS => ?_)
    obtain ⟨hτ15_, q16_⟩ := hq
    have q16_ : ((τ3_.1 1).toInt = 0 ∨ (τ15_.1 1).toInt ≠ 0) ∧ 0 ≤ z14_.toInt ∧ z14_.toInt ≤ 11 ∧ ((τ15_.1 1).toInt ≠ 0 ∨ z14_.toInt < (pI κ 1).toInt) := q16_
    refine W.widen (k := 0) (n := 0) (Nat.le_of_ble_eq_true rfl) (Nat.le_of_ble_eq_true rfl) ?_
    obtain ⟨kn17_, hkn17_⟩ := rpl (κ := (ku κ a T7_)) (σ := τ15_) (a := a) ha kf_self
    have hD18_ := hD
    refine va_put (D := (dC, dI)) (ci := 9) (v := .int z14_) (ty := tyX9 4) (C := RX9) (T := TX9) (N := 11) hx hb hts hin9 tyX9 tyX9_ok nmX9 hown hK hP hD hS kn17_ hkn17_ rfl 4 (Nat.le_of_ble_eq_true rfl) (ho (.fieldLink RX4 219 "NearEnough$Step" "b" "I") (List.mem_of_getElem? (i := 2) rfl)) (fun _ h9 => h9) rfl (tyX9_ok 4 (Nat.le_of_ble_eq_true rfl)) rfl rfl (Nat.le_of_ble_eq_true rfl) dX4_readParts_202 (fun H locs hP hD hS => ?_)
    obtain ⟨T19_, eT19_⟩ : ∃ x9 : TT, x9 = (upd T7_.1 2 z14_, T7_.2.1, T7_.2.2) := ⟨_, rfl⟩
    have hP : va_P (dC, dI) vwCl (rW (ku κ a T19_) τ15_) H := by rw [show (rW (ku κ a T19_) τ15_) = _ from (rW_kw (e' := .inr (9, stV T19_)) hD18_ ha hkn17_).symm, eT19_]; exact hP
    have hD : va_D A (rW (ku κ a T19_) τ15_) := by rw [show (rW (ku κ a T19_) τ15_) = _ from (rW_kw (e' := .inr (9, stV T19_)) hD18_ ha hkn17_).symm, eT19_]; exact hD
    have i20_ : T19_.1 0 = (t_a.1 0) := (congrArg (fun z9 : TT => z9.1 0) eT19_).trans i8_
    have i21_ : T19_.1 1 = z2_ := (congrArg (fun z9 : TT => z9.1 1) eT19_).trans i9_
    have i22_ : T19_.1 2 = z14_ := congrArg (fun z9 : TT => z9.1 2) eT19_
    have i23_ : T19_.1 3 = (t_a.1 3) := (congrArg (fun z9 : TT => z9.1 3) eT19_).trans i11_
    have i24_ : T19_.1 4 = (t_a.1 4) := (congrArg (fun z9 : TT => z9.1 4) eT19_).trans i12_
    have i25_ : T19_.2.2 = none := (congrArg (fun z9 : TT => z9.2.2) eT19_).trans i13_
    have yy26_ : (T19_.1 1).toInt = z2_.toInt := congrArg Int32.toInt i21_
    have yy27_ : (T19_.1 2).toInt = z14_.toInt := congrArg Int32.toInt i22_
    have yy28_ : (T19_.1 3).toInt = (t_a.1 3).toInt := congrArg Int32.toInt i23_
    have yy29_ : (T19_.1 4).toInt = (t_a.1 4).toInt := congrArg Int32.toInt i24_
    have o1 : ((σ.1 1).toInt = 0 ∨ (τ15_.1 1).toInt ≠ 0) := by omega
    have pr_ : PrOk κ a T19_ (τ15_.1 1).toInt := PrOk.none i25_ (by by_cases h9 : (τ15_.1 1).toInt = 0; exact Or.inr ⟨four (P := fun j => 0 ≤ (T19_.1 j).toInt ∧ (T19_.1 j).toInt ≤ (pI κ 1).toInt) ⟨by omega, by omega⟩ ⟨by omega, by omega⟩ ⟨by omega, by omega⟩ ⟨by omega, by omega⟩, by omega, by omega⟩; exact Or.inl h9)
    rw [hQ]
    exact W.vret hx hb hr (fun t ht hW => ⟨⟨(T19_, τ15_), rfl, ⟨hτ15_, ⟨o1, pr_⟩⟩, wEn_of hP (hK.sub [] rfl) hD ht hW⟩, hS.F ht⟩) hS.2.2 dX4_readParts_205
  · by_cases c_hi : 7 < (t_a.1 0).toInt
    · refine lv_tableOut (tgt := 189) hx hb dX4_readParts_4 (Or.inr c_hi) rfl ?_
      refine lv_aload_n hx hb dX4_readParts_189 rfl (lv_at hl 1 rfl) ?_
      refine lv_aload_n hx hb dX4_readParts_190 rfl (lv_at hl 0 rfl) ?_
      refine zy_i (va_runV (As := []) (rest := [.ref a]) ⟨hx, hb, hml, hown, hts⟩ (r_needStep l dC dI adK adV (ku κ a t_a) H.size σ  (hk t_a) hI ) (cwV 0 hts gd_g_readParts_124_r_needStep rfl rfl rfl dd_r_needStep ⟨Nat.le_of_ble_eq_true rfl, Nat.le_of_ble_eq_true rfl⟩) (preVr hP hK hD hE hZ hR hS hA (ci := 4) (q0 := 0) rfl rfl) rfl rfl hl.1 rfl (lv_room (Nat.le_of_ble_eq_true rfl)) dX4_readParts_191 ⟨Nat.le_of_ble_eq_true rfl, Nat.le_of_ble_eq_true rfl⟩) hD hS hA (fun z30_ τ31_ H locs hq hP hD hS => ?_)
      obtain ⟨hτ31_, q32_⟩ := hq
      have q32_ : ((σ.1 1).toInt = 0 ∨ (τ31_.1 1).toInt ≠ 0) ∧ 0 ≤ z30_.toInt ∧ z30_.toInt ≤ 11 ∧ ((τ31_.1 1).toInt ≠ 0 ∨ z30_.toInt < (pI κ 1).toInt) := q32_
      refine W.widen (k := 0) (n := 0) (Nat.le_of_ble_eq_true rfl) (Nat.le_of_ble_eq_true rfl) ?_
      obtain ⟨kn33_, hkn33_⟩ := rpl (κ := (ku κ a t_a)) (σ := τ31_) (a := a) ha kf_self
      have hD34_ := hD
      refine va_put (D := (dC, dI)) (ci := 9) (v := .int z30_) (ty := tyX9 3) (C := RX9) (T := TX9) (N := 11) hx hb hts hin9 tyX9 tyX9_ok nmX9 hown hK hP hD hS kn33_ hkn33_ rfl 3 (Nat.le_of_ble_eq_true rfl) (ho (.fieldLink RX4 204 "NearEnough$Step" "a" "I") (List.mem_of_getElem? (i := 1) rfl)) (fun _ h9 => h9) rfl (tyX9_ok 3 (Nat.le_of_ble_eq_true rfl)) rfl rfl (Nat.le_of_ble_eq_true rfl) dX4_readParts_194 (fun H locs hP hD hS => ?_)
      obtain ⟨T35_, eT35_⟩ : ∃ x9 : TT, x9 = (upd t_a.1 1 z30_, t_a.2.1, t_a.2.2) := ⟨_, rfl⟩
      have hP : va_P (dC, dI) vwCl (rW (ku κ a T35_) τ31_) H := by rw [show (rW (ku κ a T35_) τ31_) = _ from (rW_kw (e' := .inr (9, stV T35_)) hD34_ ha hkn33_).symm, eT35_]; exact hP
      have hD : va_D A (rW (ku κ a T35_) τ31_) := by rw [show (rW (ku κ a T35_) τ31_) = _ from (rW_kw (e' := .inr (9, stV T35_)) hD34_ ha hkn33_).symm, eT35_]; exact hD
      have i36_ : T35_.1 0 = (t_a.1 0) := (congrArg (fun z9 : TT => z9.1 0) eT35_).trans rfl
      have i37_ : T35_.1 1 = z30_ := congrArg (fun z9 : TT => z9.1 1) eT35_
      have i38_ : T35_.1 2 = (t_a.1 2) := (congrArg (fun z9 : TT => z9.1 2) eT35_).trans rfl
      have i39_ : T35_.1 3 = (t_a.1 3) := (congrArg (fun z9 : TT => z9.1 3) eT35_).trans rfl
      have i40_ : T35_.1 4 = (t_a.1 4) := (congrArg (fun z9 : TT => z9.1 4) eT35_).trans rfl
      have i41_ : T35_.2.2 = none := (congrArg (fun z9 : TT => z9.2.2) eT35_).trans hrn
      refine lv_aload_n hx hb dX4_readParts_197 rfl (lv_at hl 1 rfl) ?_
      refine lv_aload_n hx hb dX4_readParts_198 rfl (lv_at hl 0 rfl) ?_
      refine zy_i (va_runV (As := []) (rest := [.ref a]) ⟨hx, hb, hml, hown, hts⟩ (r_needStep l dC dI adK adV (ku κ a T35_) H.size τ31_  (hk T35_) hτ31_ ) (cwV 0 hts gd_g_readParts_124_r_needStep rfl rfl rfl dd_r_needStep ⟨Nat.le_of_ble_eq_true rfl, Nat.le_of_ble_eq_true rfl⟩) (preVr hP hK hD hE hZ hR hS hA (ci := 4) (q0 := 0) rfl rfl) rfl rfl hl.1 rfl (lv_room (Nat.le_of_ble_eq_true rfl)) dX4_readParts_199 ⟨Nat.le_of_ble_eq_true rfl, Nat.le_of_ble_eq_true rfl⟩) hD hS hA (fun z42_ τ43_ H locs hq hP hD hS => ?_)
      obtain ⟨hτ43_, q44_⟩ := hq
      have q44_ : ((τ31_.1 1).toInt = 0 ∨ (τ43_.1 1).toInt ≠ 0) ∧ 0 ≤ z42_.toInt ∧ z42_.toInt ≤ 11 ∧ ((τ43_.1 1).toInt ≠ 0 ∨ z42_.toInt < (pI κ 1).toInt) := q44_
      refine W.widen (k := 0) (n := 0) (Nat.le_of_ble_eq_true rfl) (Nat.le_of_ble_eq_true rfl) ?_
      obtain ⟨kn45_, hkn45_⟩ := rpl (κ := (ku κ a T35_)) (σ := τ43_) (a := a) ha kf_self
      have hD46_ := hD
      refine va_put (D := (dC, dI)) (ci := 9) (v := .int z42_) (ty := tyX9 4) (C := RX9) (T := TX9) (N := 11) hx hb hts hin9 tyX9 tyX9_ok nmX9 hown hK hP hD hS kn45_ hkn45_ rfl 4 (Nat.le_of_ble_eq_true rfl) (ho (.fieldLink RX4 219 "NearEnough$Step" "b" "I") (List.mem_of_getElem? (i := 2) rfl)) (fun _ h9 => h9) rfl (tyX9_ok 4 (Nat.le_of_ble_eq_true rfl)) rfl rfl (Nat.le_of_ble_eq_true rfl) dX4_readParts_202 (fun H locs hP hD hS => ?_)
      obtain ⟨T47_, eT47_⟩ : ∃ x9 : TT, x9 = (upd T35_.1 2 z42_, T35_.2.1, T35_.2.2) := ⟨_, rfl⟩
      have hP : va_P (dC, dI) vwCl (rW (ku κ a T47_) τ43_) H := by rw [show (rW (ku κ a T47_) τ43_) = _ from (rW_kw (e' := .inr (9, stV T47_)) hD46_ ha hkn45_).symm, eT47_]; exact hP
      have hD : va_D A (rW (ku κ a T47_) τ43_) := by rw [show (rW (ku κ a T47_) τ43_) = _ from (rW_kw (e' := .inr (9, stV T47_)) hD46_ ha hkn45_).symm, eT47_]; exact hD
      have i48_ : T47_.1 0 = (t_a.1 0) := (congrArg (fun z9 : TT => z9.1 0) eT47_).trans i36_
      have i49_ : T47_.1 1 = z30_ := (congrArg (fun z9 : TT => z9.1 1) eT47_).trans i37_
      have i50_ : T47_.1 2 = z42_ := congrArg (fun z9 : TT => z9.1 2) eT47_
      have i51_ : T47_.1 3 = (t_a.1 3) := (congrArg (fun z9 : TT => z9.1 3) eT47_).trans i39_
      have i52_ : T47_.1 4 = (t_a.1 4) := (congrArg (fun z9 : TT => z9.1 4) eT47_).trans i40_
      have i53_ : T47_.2.2 = none := (congrArg (fun z9 : TT => z9.2.2) eT47_).trans i41_
      have yy54_ : (T47_.1 1).toInt = z30_.toInt := congrArg Int32.toInt i49_
      have yy55_ : (T47_.1 2).toInt = z42_.toInt := congrArg Int32.toInt i50_
      have yy56_ : (T47_.1 3).toInt = (t_a.1 3).toInt := congrArg Int32.toInt i51_
      have yy57_ : (T47_.1 4).toInt = (t_a.1 4).toInt := congrArg Int32.toInt i52_
      have o2 : ((σ.1 1).toInt = 0 ∨ (τ43_.1 1).toInt ≠ 0) := by omega
      have pr_ : PrOk κ a T47_ (τ43_.1 1).toInt := PrOk.none i53_ (by by_cases h9 : (τ43_.1 1).toInt = 0; exact Or.inr ⟨four (P := fun j => 0 ≤ (T47_.1 j).toInt ∧ (T47_.1 j).toInt ≤ (pI κ 1).toInt) ⟨by omega, by omega⟩ ⟨by omega, by omega⟩ ⟨by omega, by omega⟩ ⟨by omega, by omega⟩, by omega, by omega⟩; exact Or.inl h9)
      rw [hQ]
      exact W.vret hx hb hr (fun t ht hW => ⟨⟨(T47_, τ43_), rfl, ⟨hτ43_, ⟨o2, pr_⟩⟩, wEn_of hP (hK.sub [] rfl) hD ht hW⟩, hS.F ht⟩) hS.2.2 dX4_readParts_205
    · rcases (show (t_a.1 0).toInt = 0 ∨ (t_a.1 0).toInt = 1 ∨ (t_a.1 0).toInt = 2 ∨ (t_a.1 0).toInt = 3 ∨ (t_a.1 0).toInt = 4 ∨ (t_a.1 0).toInt = 5 ∨ (t_a.1 0).toInt = 6 ∨ (t_a.1 0).toInt = 7 by omega) with t_sw | t_sw | t_sw | t_sw | t_sw | t_sw | t_sw | t_sw
      · refine lv_tableIn (tgt := 52) (off := 48) hx hb dX4_readParts_4 (by rw [t_sw]; decide) (by rw [t_sw]; decide) (by rw [t_sw]; decide) (by decide) ?_
        refine lv_aload_n hx hb dX4_readParts_52 rfl (lv_at hl 0 rfl) ?_
        refine va_ldcS (tx := "of ") (q := adK 18) hx hb hown (hR (194, "of ", 18) (List.mem_of_getElem? (i := 18) rfl)) dX4_readParts_53 ?_
        refine zy_v (va_runV (As := [.ref (adK 18)]) (rest := []) ⟨hx, hb, hml, hown, hts⟩ (r_needWord l dC dI adK adV (ku κ a t_a) H.size σ 18 (by decide) (hk t_a) hI ) (cwV 1 hts gd_g_readParts_102_r_needWord rfl rfl rfl dd_r_needWord ⟨Nat.le_of_ble_eq_true rfl, Nat.le_of_ble_eq_true rfl⟩) (preVr hP hK hD hE hZ hR hS hA (ci := 4) (q0 := 0) rfl rfl) rfl rfl hl.1 rfl (lv_room (Nat.le_of_ble_eq_true rfl)) dX4_readParts_55 ⟨Nat.le_of_ble_eq_true rfl, Nat.le_of_ble_eq_true rfl⟩) hD hS hA (fun τ59_ H locs hq hP hD hS => ?_)
        obtain ⟨hτ59_, q60_⟩ := hq
        have q60_ : ((σ.1 1).toInt = 0 ∨ (τ59_.1 1).toInt ≠ 0) := q60_
        refine W.widen (k := 0) (n := 0) (Nat.le_of_ble_eq_true rfl) (Nat.le_of_ble_eq_true rfl) ?_
        refine lv_aload_n hx hb dX4_readParts_58 rfl (lv_at hl 1 rfl) ?_
        refine lv_aload_n hx hb dX4_readParts_59 rfl (lv_at hl 0 rfl) ?_
        refine zy_q (va_runV (As := []) (rest := [.ref a]) ⟨hx, hb, hml, hown, hts⟩ (r_needRow l dC dI adK adV (ku κ a t_a) H.size τ59_  (hk t_a) hτ59_ ) (cwV 0 hts gd_g_readParts_196_r_needRow rfl rfl rfl dd_r_needRow ⟨Nat.le_of_ble_eq_true rfl, Nat.le_of_ble_eq_true rfl⟩) (preVr hP hK hD hE hZ hR hS hA (ci := 4) (q0 := 0) rfl rfl) rfl rfl hl.1 rfl (lv_room (Nat.le_of_ble_eq_true rfl)) dX4_readParts_60 ⟨Nat.le_of_ble_eq_true rfl, Nat.le_of_ble_eq_true rfl⟩) hD hS hA (fun z61_ τ62_ H locs hq hP hD hS => ?_)
        obtain ⟨hτ62_, q63_⟩ := hq
        have mq63_ : ((τ59_.1 1).toInt = 0 ∨ (τ62_.1 1).toInt ≠ 0) := q63_.1
        refine W.widen (k := 0) (n := 0) (Nat.le_of_ble_eq_true rfl) (Nat.le_of_ble_eq_true rfl) ?_
        rcases z61_ with _ | r64_
        · refine zv (v := .null) rfl ?_
          have nz_ : (τ62_.1 1).toInt ≠ 0 := by rcases q63_.2.1 with h9 | h9; exact h9; exact absurd rfl h9
          obtain ⟨kn65_, hkn65_⟩ := rpl (κ := (ku κ a t_a)) (σ := τ62_) (a := a) ha kf_self
          have hD66_ := hD
          refine va_put (D := (dC, dI)) (ci := 9) (v := .null) (ty := tyX9 2) (C := RX9) (T := TX9) (N := 11) hx hb hts hin9 tyX9 tyX9_ok nmX9 hown hK hP hD hS kn65_ hkn65_ rfl 2 (Nat.le_of_ble_eq_true rfl) (ho (.fieldLink RX4 200 "NearEnough$Step" "row" "LNearEnough$Row;") (List.mem_of_getElem? (i := 3) rfl)) (fun _ h9 => h9) rfl (tyX9_ok 2 (Nat.le_of_ble_eq_true rfl)) rfl rfl (Nat.le_of_ble_eq_true rfl) dX4_readParts_63 (fun H locs hP hD hS => ?_)
          obtain ⟨T67_, eT67_⟩ : ∃ x9 : TT, x9 = (t_a.1, t_a.2.1, none) := ⟨_, rfl⟩
          have hP : va_P (dC, dI) vwCl (rW (ku κ a T67_) τ62_) H := by rw [show (rW (ku κ a T67_) τ62_) = _ from (rW_kw (e' := .inr (9, stV T67_)) hD66_ ha hkn65_).symm, eT67_]; exact hP
          have hD : va_D A (rW (ku κ a T67_) τ62_) := by rw [show (rW (ku κ a T67_) τ62_) = _ from (rW_kw (e' := .inr (9, stV T67_)) hD66_ ha hkn65_).symm, eT67_]; exact hD
          have i68_ : T67_.1 0 = (t_a.1 0) := (congrArg (fun z9 : TT => z9.1 0) eT67_).trans rfl
          have i69_ : T67_.1 1 = (t_a.1 1) := (congrArg (fun z9 : TT => z9.1 1) eT67_).trans rfl
          have i70_ : T67_.1 2 = (t_a.1 2) := (congrArg (fun z9 : TT => z9.1 2) eT67_).trans rfl
          have i71_ : T67_.1 3 = (t_a.1 3) := (congrArg (fun z9 : TT => z9.1 3) eT67_).trans rfl
          have i72_ : T67_.1 4 = (t_a.1 4) := (congrArg (fun z9 : TT => z9.1 4) eT67_).trans rfl
          have i73_ : T67_.2.2 = none := congrArg (fun z9 : TT => z9.2.2) eT67_
          refine lv_goto (tgt := 205) hx hb dX4_readParts_66 rfl ?_
          have yy74_ : (T67_.1 1).toInt = (t_a.1 1).toInt := congrArg Int32.toInt i69_
          have yy75_ : (T67_.1 2).toInt = (t_a.1 2).toInt := congrArg Int32.toInt i70_
          have yy76_ : (T67_.1 3).toInt = (t_a.1 3).toInt := congrArg Int32.toInt i71_
          have yy77_ : (T67_.1 4).toInt = (t_a.1 4).toInt := congrArg Int32.toInt i72_
          have o3 : ((σ.1 1).toInt = 0 ∨ (τ62_.1 1).toInt ≠ 0) := by omega
          have o4 : (τ62_.1 1).toInt ≠ 0 := by omega
          have pr_ : PrOk κ a T67_ (τ62_.1 1).toInt := PrOk.f i73_ o4
          rw [hQ]
          exact W.vret hx hb hr (fun t ht hW => ⟨⟨(T67_, τ62_), rfl, ⟨hτ62_, ⟨o3, pr_⟩⟩, wEn_of hP (hK.sub [] rfl) hD ht hW⟩, hS.F ht⟩) hS.2.2 dX4_readParts_205
        · refine zv (v := .ref r64_) rfl ?_
          obtain ⟨u78_, gu78_⟩ := q63_.2.2 r64_ rfl
          obtain ⟨kn79_, hkn79_⟩ := rpl (κ := (ku κ a t_a)) (σ := τ62_) (a := a) ha kf_self
          have hD80_ := hD
          refine va_put (D := (dC, dI)) (ci := 9) (v := .ref r64_) (ty := tyX9 2) (C := RX9) (T := TX9) (N := 11) hx hb hts hin9 tyX9 tyX9_ok nmX9 hown hK hP hD hS kn79_ hkn79_ rfl 2 (Nat.le_of_ble_eq_true rfl) (ho (.fieldLink RX4 200 "NearEnough$Step" "row" "LNearEnough$Row;") (List.mem_of_getElem? (i := 3) rfl)) (fun _ h9 => h9) rfl (tyX9_ok 2 (Nat.le_of_ble_eq_true rfl)) rfl rfl (Nat.le_of_ble_eq_true rfl) dX4_readParts_63 (fun H locs hP hD hS => ?_)
          obtain ⟨T81_, eT81_⟩ : ∃ x9 : TT, x9 = (t_a.1, t_a.2.1, (some r64_)) := ⟨_, rfl⟩
          have hP : va_P (dC, dI) vwCl (rW (ku κ a T81_) τ62_) H := by rw [show (rW (ku κ a T81_) τ62_) = _ from (rW_kw (e' := .inr (9, stV T81_)) hD80_ ha hkn79_).symm, eT81_]; exact hP
          have hD : va_D A (rW (ku κ a T81_) τ62_) := by rw [show (rW (ku κ a T81_) τ62_) = _ from (rW_kw (e' := .inr (9, stV T81_)) hD80_ ha hkn79_).symm, eT81_]; exact hD
          have i82_ : T81_.1 0 = (t_a.1 0) := (congrArg (fun z9 : TT => z9.1 0) eT81_).trans rfl
          have i83_ : T81_.1 1 = (t_a.1 1) := (congrArg (fun z9 : TT => z9.1 1) eT81_).trans rfl
          have i84_ : T81_.1 2 = (t_a.1 2) := (congrArg (fun z9 : TT => z9.1 2) eT81_).trans rfl
          have i85_ : T81_.1 3 = (t_a.1 3) := (congrArg (fun z9 : TT => z9.1 3) eT81_).trans rfl
          have i86_ : T81_.1 4 = (t_a.1 4) := (congrArg (fun z9 : TT => z9.1 4) eT81_).trans rfl
          have i87_ : T81_.2.2 = some r64_ := congrArg (fun z9 : TT => z9.2.2) eT81_
          refine lv_goto (tgt := 205) hx hb dX4_readParts_66 rfl ?_
          have yy88_ : (T81_.1 1).toInt = (t_a.1 1).toInt := congrArg Int32.toInt i83_
          have yy89_ : (T81_.1 2).toInt = (t_a.1 2).toInt := congrArg Int32.toInt i84_
          have yy90_ : (T81_.1 3).toInt = (t_a.1 3).toInt := congrArg Int32.toInt i85_
          have yy91_ : (T81_.1 4).toInt = (t_a.1 4).toInt := congrArg Int32.toInt i86_
          have o5 : ((σ.1 1).toInt = 0 ∨ (τ62_.1 1).toInt ≠ 0) := by omega
          have pr_ : PrOk κ a T81_ (τ62_.1 1).toInt := PrOk.some i87_ gu78_ (by by_cases h9 : (τ62_.1 1).toInt = 0; exact Or.inr (four (P := fun j => 0 ≤ (T81_.1 j).toInt ∧ (T81_.1 j).toInt ≤ (pI κ 1).toInt) ⟨by omega, by omega⟩ ⟨by omega, by omega⟩ ⟨by omega, by omega⟩ ⟨by omega, by omega⟩); exact Or.inl h9)
          rw [hQ]
          exact W.vret hx hb hr (fun t ht hW => ⟨⟨(T81_, τ62_), rfl, ⟨hτ62_, ⟨o5, pr_⟩⟩, wEn_of hP (hK.sub [] rfl) hD ht hW⟩, hS.F ht⟩) hS.2.2 dX4_readParts_205
      · refine lv_tableIn (tgt := 52) (off := 48) hx hb dX4_readParts_4 (by rw [t_sw]; decide) (by rw [t_sw]; decide) (by rw [t_sw]; decide) (by decide) ?_
        refine lv_aload_n hx hb dX4_readParts_52 rfl (lv_at hl 0 rfl) ?_
        refine va_ldcS (tx := "of ") (q := adK 18) hx hb hown (hR (194, "of ", 18) (List.mem_of_getElem? (i := 18) rfl)) dX4_readParts_53 ?_
        refine zy_v (va_runV (As := [.ref (adK 18)]) (rest := []) ⟨hx, hb, hml, hown, hts⟩ (r_needWord l dC dI adK adV (ku κ a t_a) H.size σ 18 (by decide) (hk t_a) hI ) (cwV 1 hts gd_g_readParts_102_r_needWord rfl rfl rfl dd_r_needWord ⟨Nat.le_of_ble_eq_true rfl, Nat.le_of_ble_eq_true rfl⟩) (preVr hP hK hD hE hZ hR hS hA (ci := 4) (q0 := 0) rfl rfl) rfl rfl hl.1 rfl (lv_room (Nat.le_of_ble_eq_true rfl)) dX4_readParts_55 ⟨Nat.le_of_ble_eq_true rfl, Nat.le_of_ble_eq_true rfl⟩) hD hS hA (fun τ93_ H locs hq hP hD hS => ?_)
        obtain ⟨hτ93_, q94_⟩ := hq
        have q94_ : ((σ.1 1).toInt = 0 ∨ (τ93_.1 1).toInt ≠ 0) := q94_
        refine W.widen (k := 0) (n := 0) (Nat.le_of_ble_eq_true rfl) (Nat.le_of_ble_eq_true rfl) ?_
        refine lv_aload_n hx hb dX4_readParts_58 rfl (lv_at hl 1 rfl) ?_
        refine lv_aload_n hx hb dX4_readParts_59 rfl (lv_at hl 0 rfl) ?_
        refine zy_q (va_runV (As := []) (rest := [.ref a]) ⟨hx, hb, hml, hown, hts⟩ (r_needRow l dC dI adK adV (ku κ a t_a) H.size τ93_  (hk t_a) hτ93_ ) (cwV 0 hts gd_g_readParts_196_r_needRow rfl rfl rfl dd_r_needRow ⟨Nat.le_of_ble_eq_true rfl, Nat.le_of_ble_eq_true rfl⟩) (preVr hP hK hD hE hZ hR hS hA (ci := 4) (q0 := 0) rfl rfl) rfl rfl hl.1 rfl (lv_room (Nat.le_of_ble_eq_true rfl)) dX4_readParts_60 ⟨Nat.le_of_ble_eq_true rfl, Nat.le_of_ble_eq_true rfl⟩) hD hS hA (fun z95_ τ96_ H locs hq hP hD hS => ?_)
        obtain ⟨hτ96_, q97_⟩ := hq
        have mq97_ : ((τ93_.1 1).toInt = 0 ∨ (τ96_.1 1).toInt ≠ 0) := q97_.1
        refine W.widen (k := 0) (n := 0) (Nat.le_of_ble_eq_true rfl) (Nat.le_of_ble_eq_true rfl) ?_
        rcases z95_ with _ | r98_
        · refine zv (v := .null) rfl ?_
          have nz_ : (τ96_.1 1).toInt ≠ 0 := by rcases q97_.2.1 with h9 | h9; exact h9; exact absurd rfl h9
          obtain ⟨kn99_, hkn99_⟩ := rpl (κ := (ku κ a t_a)) (σ := τ96_) (a := a) ha kf_self
          have hD100_ := hD
          refine va_put (D := (dC, dI)) (ci := 9) (v := .null) (ty := tyX9 2) (C := RX9) (T := TX9) (N := 11) hx hb hts hin9 tyX9 tyX9_ok nmX9 hown hK hP hD hS kn99_ hkn99_ rfl 2 (Nat.le_of_ble_eq_true rfl) (ho (.fieldLink RX4 200 "NearEnough$Step" "row" "LNearEnough$Row;") (List.mem_of_getElem? (i := 3) rfl)) (fun _ h9 => h9) rfl (tyX9_ok 2 (Nat.le_of_ble_eq_true rfl)) rfl rfl (Nat.le_of_ble_eq_true rfl) dX4_readParts_63 (fun H locs hP hD hS => ?_)
          obtain ⟨T101_, eT101_⟩ : ∃ x9 : TT, x9 = (t_a.1, t_a.2.1, none) := ⟨_, rfl⟩
          have hP : va_P (dC, dI) vwCl (rW (ku κ a T101_) τ96_) H := by rw [show (rW (ku κ a T101_) τ96_) = _ from (rW_kw (e' := .inr (9, stV T101_)) hD100_ ha hkn99_).symm, eT101_]; exact hP
          have hD : va_D A (rW (ku κ a T101_) τ96_) := by rw [show (rW (ku κ a T101_) τ96_) = _ from (rW_kw (e' := .inr (9, stV T101_)) hD100_ ha hkn99_).symm, eT101_]; exact hD
          have i102_ : T101_.1 0 = (t_a.1 0) := (congrArg (fun z9 : TT => z9.1 0) eT101_).trans rfl
          have i103_ : T101_.1 1 = (t_a.1 1) := (congrArg (fun z9 : TT => z9.1 1) eT101_).trans rfl
          have i104_ : T101_.1 2 = (t_a.1 2) := (congrArg (fun z9 : TT => z9.1 2) eT101_).trans rfl
          have i105_ : T101_.1 3 = (t_a.1 3) := (congrArg (fun z9 : TT => z9.1 3) eT101_).trans rfl
          have i106_ : T101_.1 4 = (t_a.1 4) := (congrArg (fun z9 : TT => z9.1 4) eT101_).trans rfl
          have i107_ : T101_.2.2 = none := congrArg (fun z9 : TT => z9.2.2) eT101_
          refine lv_goto (tgt := 205) hx hb dX4_readParts_66 rfl ?_
          have yy108_ : (T101_.1 1).toInt = (t_a.1 1).toInt := congrArg Int32.toInt i103_
          have yy109_ : (T101_.1 2).toInt = (t_a.1 2).toInt := congrArg Int32.toInt i104_
          have yy110_ : (T101_.1 3).toInt = (t_a.1 3).toInt := congrArg Int32.toInt i105_
          have yy111_ : (T101_.1 4).toInt = (t_a.1 4).toInt := congrArg Int32.toInt i106_
          have o6 : ((σ.1 1).toInt = 0 ∨ (τ96_.1 1).toInt ≠ 0) := by omega
          have o7 : (τ96_.1 1).toInt ≠ 0 := by omega
          have pr_ : PrOk κ a T101_ (τ96_.1 1).toInt := PrOk.f i107_ o7
          rw [hQ]
          exact W.vret hx hb hr (fun t ht hW => ⟨⟨(T101_, τ96_), rfl, ⟨hτ96_, ⟨o6, pr_⟩⟩, wEn_of hP (hK.sub [] rfl) hD ht hW⟩, hS.F ht⟩) hS.2.2 dX4_readParts_205
        · refine zv (v := .ref r98_) rfl ?_
          obtain ⟨u112_, gu112_⟩ := q97_.2.2 r98_ rfl
          obtain ⟨kn113_, hkn113_⟩ := rpl (κ := (ku κ a t_a)) (σ := τ96_) (a := a) ha kf_self
          have hD114_ := hD
          refine va_put (D := (dC, dI)) (ci := 9) (v := .ref r98_) (ty := tyX9 2) (C := RX9) (T := TX9) (N := 11) hx hb hts hin9 tyX9 tyX9_ok nmX9 hown hK hP hD hS kn113_ hkn113_ rfl 2 (Nat.le_of_ble_eq_true rfl) (ho (.fieldLink RX4 200 "NearEnough$Step" "row" "LNearEnough$Row;") (List.mem_of_getElem? (i := 3) rfl)) (fun _ h9 => h9) rfl (tyX9_ok 2 (Nat.le_of_ble_eq_true rfl)) rfl rfl (Nat.le_of_ble_eq_true rfl) dX4_readParts_63 (fun H locs hP hD hS => ?_)
          obtain ⟨T115_, eT115_⟩ : ∃ x9 : TT, x9 = (t_a.1, t_a.2.1, (some r98_)) := ⟨_, rfl⟩
          have hP : va_P (dC, dI) vwCl (rW (ku κ a T115_) τ96_) H := by rw [show (rW (ku κ a T115_) τ96_) = _ from (rW_kw (e' := .inr (9, stV T115_)) hD114_ ha hkn113_).symm, eT115_]; exact hP
          have hD : va_D A (rW (ku κ a T115_) τ96_) := by rw [show (rW (ku κ a T115_) τ96_) = _ from (rW_kw (e' := .inr (9, stV T115_)) hD114_ ha hkn113_).symm, eT115_]; exact hD
          have i116_ : T115_.1 0 = (t_a.1 0) := (congrArg (fun z9 : TT => z9.1 0) eT115_).trans rfl
          have i117_ : T115_.1 1 = (t_a.1 1) := (congrArg (fun z9 : TT => z9.1 1) eT115_).trans rfl
          have i118_ : T115_.1 2 = (t_a.1 2) := (congrArg (fun z9 : TT => z9.1 2) eT115_).trans rfl
          have i119_ : T115_.1 3 = (t_a.1 3) := (congrArg (fun z9 : TT => z9.1 3) eT115_).trans rfl
          have i120_ : T115_.1 4 = (t_a.1 4) := (congrArg (fun z9 : TT => z9.1 4) eT115_).trans rfl
          have i121_ : T115_.2.2 = some r98_ := congrArg (fun z9 : TT => z9.2.2) eT115_
          refine lv_goto (tgt := 205) hx hb dX4_readParts_66 rfl ?_
          have yy122_ : (T115_.1 1).toInt = (t_a.1 1).toInt := congrArg Int32.toInt i117_
          have yy123_ : (T115_.1 2).toInt = (t_a.1 2).toInt := congrArg Int32.toInt i118_
          have yy124_ : (T115_.1 3).toInt = (t_a.1 3).toInt := congrArg Int32.toInt i119_
          have yy125_ : (T115_.1 4).toInt = (t_a.1 4).toInt := congrArg Int32.toInt i120_
          have o8 : ((σ.1 1).toInt = 0 ∨ (τ96_.1 1).toInt ≠ 0) := by omega
          have pr_ : PrOk κ a T115_ (τ96_.1 1).toInt := PrOk.some i121_ gu112_ (by by_cases h9 : (τ96_.1 1).toInt = 0; exact Or.inr (four (P := fun j => 0 ≤ (T115_.1 j).toInt ∧ (T115_.1 j).toInt ≤ (pI κ 1).toInt) ⟨by omega, by omega⟩ ⟨by omega, by omega⟩ ⟨by omega, by omega⟩ ⟨by omega, by omega⟩); exact Or.inl h9)
          rw [hQ]
          exact W.vret hx hb hr (fun t ht hW => ⟨⟨(T115_, τ96_), rfl, ⟨hτ96_, ⟨o8, pr_⟩⟩, wEn_of hP (hK.sub [] rfl) hD ht hW⟩, hS.F ht⟩) hS.2.2 dX4_readParts_205
      · refine lv_tableIn (tgt := 189) (off := 185) hx hb dX4_readParts_4 (by rw [t_sw]; decide) (by rw [t_sw]; decide) (by rw [t_sw]; decide) (by decide) ?_
        refine lv_aload_n hx hb dX4_readParts_189 rfl (lv_at hl 1 rfl) ?_
        refine lv_aload_n hx hb dX4_readParts_190 rfl (lv_at hl 0 rfl) ?_
        refine zy_i (va_runV (As := []) (rest := [.ref a]) ⟨hx, hb, hml, hown, hts⟩ (r_needStep l dC dI adK adV (ku κ a t_a) H.size σ  (hk t_a) hI ) (cwV 0 hts gd_g_readParts_124_r_needStep rfl rfl rfl dd_r_needStep ⟨Nat.le_of_ble_eq_true rfl, Nat.le_of_ble_eq_true rfl⟩) (preVr hP hK hD hE hZ hR hS hA (ci := 4) (q0 := 0) rfl rfl) rfl rfl hl.1 rfl (lv_room (Nat.le_of_ble_eq_true rfl)) dX4_readParts_191 ⟨Nat.le_of_ble_eq_true rfl, Nat.le_of_ble_eq_true rfl⟩) hD hS hA (fun z126_ τ127_ H locs hq hP hD hS => ?_)
        obtain ⟨hτ127_, q128_⟩ := hq
        have q128_ : ((σ.1 1).toInt = 0 ∨ (τ127_.1 1).toInt ≠ 0) ∧ 0 ≤ z126_.toInt ∧ z126_.toInt ≤ 11 ∧ ((τ127_.1 1).toInt ≠ 0 ∨ z126_.toInt < (pI κ 1).toInt) := q128_
        refine W.widen (k := 0) (n := 0) (Nat.le_of_ble_eq_true rfl) (Nat.le_of_ble_eq_true rfl) ?_
        obtain ⟨kn129_, hkn129_⟩ := rpl (κ := (ku κ a t_a)) (σ := τ127_) (a := a) ha kf_self
        have hD130_ := hD
        refine va_put (D := (dC, dI)) (ci := 9) (v := .int z126_) (ty := tyX9 3) (C := RX9) (T := TX9) (N := 11) hx hb hts hin9 tyX9 tyX9_ok nmX9 hown hK hP hD hS kn129_ hkn129_ rfl 3 (Nat.le_of_ble_eq_true rfl) (ho (.fieldLink RX4 204 "NearEnough$Step" "a" "I") (List.mem_of_getElem? (i := 1) rfl)) (fun _ h9 => h9) rfl (tyX9_ok 3 (Nat.le_of_ble_eq_true rfl)) rfl rfl (Nat.le_of_ble_eq_true rfl) dX4_readParts_194 (fun H locs hP hD hS => ?_)
        obtain ⟨T131_, eT131_⟩ : ∃ x9 : TT, x9 = (upd t_a.1 1 z126_, t_a.2.1, t_a.2.2) := ⟨_, rfl⟩
        have hP : va_P (dC, dI) vwCl (rW (ku κ a T131_) τ127_) H := by rw [show (rW (ku κ a T131_) τ127_) = _ from (rW_kw (e' := .inr (9, stV T131_)) hD130_ ha hkn129_).symm, eT131_]; exact hP
        have hD : va_D A (rW (ku κ a T131_) τ127_) := by rw [show (rW (ku κ a T131_) τ127_) = _ from (rW_kw (e' := .inr (9, stV T131_)) hD130_ ha hkn129_).symm, eT131_]; exact hD
        have i132_ : T131_.1 0 = (t_a.1 0) := (congrArg (fun z9 : TT => z9.1 0) eT131_).trans rfl
        have i133_ : T131_.1 1 = z126_ := congrArg (fun z9 : TT => z9.1 1) eT131_
        have i134_ : T131_.1 2 = (t_a.1 2) := (congrArg (fun z9 : TT => z9.1 2) eT131_).trans rfl
        have i135_ : T131_.1 3 = (t_a.1 3) := (congrArg (fun z9 : TT => z9.1 3) eT131_).trans rfl
        have i136_ : T131_.1 4 = (t_a.1 4) := (congrArg (fun z9 : TT => z9.1 4) eT131_).trans rfl
        have i137_ : T131_.2.2 = none := (congrArg (fun z9 : TT => z9.2.2) eT131_).trans hrn
        refine lv_aload_n hx hb dX4_readParts_197 rfl (lv_at hl 1 rfl) ?_
        refine lv_aload_n hx hb dX4_readParts_198 rfl (lv_at hl 0 rfl) ?_
        refine zy_i (va_runV (As := []) (rest := [.ref a]) ⟨hx, hb, hml, hown, hts⟩ (r_needStep l dC dI adK adV (ku κ a T131_) H.size τ127_  (hk T131_) hτ127_ ) (cwV 0 hts gd_g_readParts_124_r_needStep rfl rfl rfl dd_r_needStep ⟨Nat.le_of_ble_eq_true rfl, Nat.le_of_ble_eq_true rfl⟩) (preVr hP hK hD hE hZ hR hS hA (ci := 4) (q0 := 0) rfl rfl) rfl rfl hl.1 rfl (lv_room (Nat.le_of_ble_eq_true rfl)) dX4_readParts_199 ⟨Nat.le_of_ble_eq_true rfl, Nat.le_of_ble_eq_true rfl⟩) hD hS hA (fun z138_ τ139_ H locs hq hP hD hS => ?_)
        obtain ⟨hτ139_, q140_⟩ := hq
        have q140_ : ((τ127_.1 1).toInt = 0 ∨ (τ139_.1 1).toInt ≠ 0) ∧ 0 ≤ z138_.toInt ∧ z138_.toInt ≤ 11 ∧ ((τ139_.1 1).toInt ≠ 0 ∨ z138_.toInt < (pI κ 1).toInt) := q140_
        refine W.widen (k := 0) (n := 0) (Nat.le_of_ble_eq_true rfl) (Nat.le_of_ble_eq_true rfl) ?_
        obtain ⟨kn141_, hkn141_⟩ := rpl (κ := (ku κ a T131_)) (σ := τ139_) (a := a) ha kf_self
        have hD142_ := hD
        refine va_put (D := (dC, dI)) (ci := 9) (v := .int z138_) (ty := tyX9 4) (C := RX9) (T := TX9) (N := 11) hx hb hts hin9 tyX9 tyX9_ok nmX9 hown hK hP hD hS kn141_ hkn141_ rfl 4 (Nat.le_of_ble_eq_true rfl) (ho (.fieldLink RX4 219 "NearEnough$Step" "b" "I") (List.mem_of_getElem? (i := 2) rfl)) (fun _ h9 => h9) rfl (tyX9_ok 4 (Nat.le_of_ble_eq_true rfl)) rfl rfl (Nat.le_of_ble_eq_true rfl) dX4_readParts_202 (fun H locs hP hD hS => ?_)
        obtain ⟨T143_, eT143_⟩ : ∃ x9 : TT, x9 = (upd T131_.1 2 z138_, T131_.2.1, T131_.2.2) := ⟨_, rfl⟩
        have hP : va_P (dC, dI) vwCl (rW (ku κ a T143_) τ139_) H := by rw [show (rW (ku κ a T143_) τ139_) = _ from (rW_kw (e' := .inr (9, stV T143_)) hD142_ ha hkn141_).symm, eT143_]; exact hP
        have hD : va_D A (rW (ku κ a T143_) τ139_) := by rw [show (rW (ku κ a T143_) τ139_) = _ from (rW_kw (e' := .inr (9, stV T143_)) hD142_ ha hkn141_).symm, eT143_]; exact hD
        have i144_ : T143_.1 0 = (t_a.1 0) := (congrArg (fun z9 : TT => z9.1 0) eT143_).trans i132_
        have i145_ : T143_.1 1 = z126_ := (congrArg (fun z9 : TT => z9.1 1) eT143_).trans i133_
        have i146_ : T143_.1 2 = z138_ := congrArg (fun z9 : TT => z9.1 2) eT143_
        have i147_ : T143_.1 3 = (t_a.1 3) := (congrArg (fun z9 : TT => z9.1 3) eT143_).trans i135_
        have i148_ : T143_.1 4 = (t_a.1 4) := (congrArg (fun z9 : TT => z9.1 4) eT143_).trans i136_
        have i149_ : T143_.2.2 = none := (congrArg (fun z9 : TT => z9.2.2) eT143_).trans i137_
        have yy150_ : (T143_.1 1).toInt = z126_.toInt := congrArg Int32.toInt i145_
        have yy151_ : (T143_.1 2).toInt = z138_.toInt := congrArg Int32.toInt i146_
        have yy152_ : (T143_.1 3).toInt = (t_a.1 3).toInt := congrArg Int32.toInt i147_
        have yy153_ : (T143_.1 4).toInt = (t_a.1 4).toInt := congrArg Int32.toInt i148_
        have o9 : ((σ.1 1).toInt = 0 ∨ (τ139_.1 1).toInt ≠ 0) := by omega
        have pr_ : PrOk κ a T143_ (τ139_.1 1).toInt := PrOk.none i149_ (by by_cases h9 : (τ139_.1 1).toInt = 0; exact Or.inr ⟨four (P := fun j => 0 ≤ (T143_.1 j).toInt ∧ (T143_.1 j).toInt ≤ (pI κ 1).toInt) ⟨by omega, by omega⟩ ⟨by omega, by omega⟩ ⟨by omega, by omega⟩ ⟨by omega, by omega⟩, by omega, by omega⟩; exact Or.inl h9)
        rw [hQ]
        exact W.vret hx hb hr (fun t ht hW => ⟨⟨(T143_, τ139_), rfl, ⟨hτ139_, ⟨o9, pr_⟩⟩, wEn_of hP (hK.sub [] rfl) hD ht hW⟩, hS.F ht⟩) hS.2.2 dX4_readParts_205
      · refine lv_tableIn (tgt := 189) (off := 185) hx hb dX4_readParts_4 (by rw [t_sw]; decide) (by rw [t_sw]; decide) (by rw [t_sw]; decide) (by decide) ?_
        refine lv_aload_n hx hb dX4_readParts_189 rfl (lv_at hl 1 rfl) ?_
        refine lv_aload_n hx hb dX4_readParts_190 rfl (lv_at hl 0 rfl) ?_
        refine zy_i (va_runV (As := []) (rest := [.ref a]) ⟨hx, hb, hml, hown, hts⟩ (r_needStep l dC dI adK adV (ku κ a t_a) H.size σ  (hk t_a) hI ) (cwV 0 hts gd_g_readParts_124_r_needStep rfl rfl rfl dd_r_needStep ⟨Nat.le_of_ble_eq_true rfl, Nat.le_of_ble_eq_true rfl⟩) (preVr hP hK hD hE hZ hR hS hA (ci := 4) (q0 := 0) rfl rfl) rfl rfl hl.1 rfl (lv_room (Nat.le_of_ble_eq_true rfl)) dX4_readParts_191 ⟨Nat.le_of_ble_eq_true rfl, Nat.le_of_ble_eq_true rfl⟩) hD hS hA (fun z154_ τ155_ H locs hq hP hD hS => ?_)
        obtain ⟨hτ155_, q156_⟩ := hq
        have q156_ : ((σ.1 1).toInt = 0 ∨ (τ155_.1 1).toInt ≠ 0) ∧ 0 ≤ z154_.toInt ∧ z154_.toInt ≤ 11 ∧ ((τ155_.1 1).toInt ≠ 0 ∨ z154_.toInt < (pI κ 1).toInt) := q156_
        refine W.widen (k := 0) (n := 0) (Nat.le_of_ble_eq_true rfl) (Nat.le_of_ble_eq_true rfl) ?_
        obtain ⟨kn157_, hkn157_⟩ := rpl (κ := (ku κ a t_a)) (σ := τ155_) (a := a) ha kf_self
        have hD158_ := hD
        refine va_put (D := (dC, dI)) (ci := 9) (v := .int z154_) (ty := tyX9 3) (C := RX9) (T := TX9) (N := 11) hx hb hts hin9 tyX9 tyX9_ok nmX9 hown hK hP hD hS kn157_ hkn157_ rfl 3 (Nat.le_of_ble_eq_true rfl) (ho (.fieldLink RX4 204 "NearEnough$Step" "a" "I") (List.mem_of_getElem? (i := 1) rfl)) (fun _ h9 => h9) rfl (tyX9_ok 3 (Nat.le_of_ble_eq_true rfl)) rfl rfl (Nat.le_of_ble_eq_true rfl) dX4_readParts_194 (fun H locs hP hD hS => ?_)
        obtain ⟨T159_, eT159_⟩ : ∃ x9 : TT, x9 = (upd t_a.1 1 z154_, t_a.2.1, t_a.2.2) := ⟨_, rfl⟩
        have hP : va_P (dC, dI) vwCl (rW (ku κ a T159_) τ155_) H := by rw [show (rW (ku κ a T159_) τ155_) = _ from (rW_kw (e' := .inr (9, stV T159_)) hD158_ ha hkn157_).symm, eT159_]; exact hP
        have hD : va_D A (rW (ku κ a T159_) τ155_) := by rw [show (rW (ku κ a T159_) τ155_) = _ from (rW_kw (e' := .inr (9, stV T159_)) hD158_ ha hkn157_).symm, eT159_]; exact hD
        have i160_ : T159_.1 0 = (t_a.1 0) := (congrArg (fun z9 : TT => z9.1 0) eT159_).trans rfl
        have i161_ : T159_.1 1 = z154_ := congrArg (fun z9 : TT => z9.1 1) eT159_
        have i162_ : T159_.1 2 = (t_a.1 2) := (congrArg (fun z9 : TT => z9.1 2) eT159_).trans rfl
        have i163_ : T159_.1 3 = (t_a.1 3) := (congrArg (fun z9 : TT => z9.1 3) eT159_).trans rfl
        have i164_ : T159_.1 4 = (t_a.1 4) := (congrArg (fun z9 : TT => z9.1 4) eT159_).trans rfl
        have i165_ : T159_.2.2 = none := (congrArg (fun z9 : TT => z9.2.2) eT159_).trans hrn
        refine lv_aload_n hx hb dX4_readParts_197 rfl (lv_at hl 1 rfl) ?_
        refine lv_aload_n hx hb dX4_readParts_198 rfl (lv_at hl 0 rfl) ?_
        refine zy_i (va_runV (As := []) (rest := [.ref a]) ⟨hx, hb, hml, hown, hts⟩ (r_needStep l dC dI adK adV (ku κ a T159_) H.size τ155_  (hk T159_) hτ155_ ) (cwV 0 hts gd_g_readParts_124_r_needStep rfl rfl rfl dd_r_needStep ⟨Nat.le_of_ble_eq_true rfl, Nat.le_of_ble_eq_true rfl⟩) (preVr hP hK hD hE hZ hR hS hA (ci := 4) (q0 := 0) rfl rfl) rfl rfl hl.1 rfl (lv_room (Nat.le_of_ble_eq_true rfl)) dX4_readParts_199 ⟨Nat.le_of_ble_eq_true rfl, Nat.le_of_ble_eq_true rfl⟩) hD hS hA (fun z166_ τ167_ H locs hq hP hD hS => ?_)
        obtain ⟨hτ167_, q168_⟩ := hq
        have q168_ : ((τ155_.1 1).toInt = 0 ∨ (τ167_.1 1).toInt ≠ 0) ∧ 0 ≤ z166_.toInt ∧ z166_.toInt ≤ 11 ∧ ((τ167_.1 1).toInt ≠ 0 ∨ z166_.toInt < (pI κ 1).toInt) := q168_
        refine W.widen (k := 0) (n := 0) (Nat.le_of_ble_eq_true rfl) (Nat.le_of_ble_eq_true rfl) ?_
        obtain ⟨kn169_, hkn169_⟩ := rpl (κ := (ku κ a T159_)) (σ := τ167_) (a := a) ha kf_self
        have hD170_ := hD
        refine va_put (D := (dC, dI)) (ci := 9) (v := .int z166_) (ty := tyX9 4) (C := RX9) (T := TX9) (N := 11) hx hb hts hin9 tyX9 tyX9_ok nmX9 hown hK hP hD hS kn169_ hkn169_ rfl 4 (Nat.le_of_ble_eq_true rfl) (ho (.fieldLink RX4 219 "NearEnough$Step" "b" "I") (List.mem_of_getElem? (i := 2) rfl)) (fun _ h9 => h9) rfl (tyX9_ok 4 (Nat.le_of_ble_eq_true rfl)) rfl rfl (Nat.le_of_ble_eq_true rfl) dX4_readParts_202 (fun H locs hP hD hS => ?_)
        obtain ⟨T171_, eT171_⟩ : ∃ x9 : TT, x9 = (upd T159_.1 2 z166_, T159_.2.1, T159_.2.2) := ⟨_, rfl⟩
        have hP : va_P (dC, dI) vwCl (rW (ku κ a T171_) τ167_) H := by rw [show (rW (ku κ a T171_) τ167_) = _ from (rW_kw (e' := .inr (9, stV T171_)) hD170_ ha hkn169_).symm, eT171_]; exact hP
        have hD : va_D A (rW (ku κ a T171_) τ167_) := by rw [show (rW (ku κ a T171_) τ167_) = _ from (rW_kw (e' := .inr (9, stV T171_)) hD170_ ha hkn169_).symm, eT171_]; exact hD
        have i172_ : T171_.1 0 = (t_a.1 0) := (congrArg (fun z9 : TT => z9.1 0) eT171_).trans i160_
        have i173_ : T171_.1 1 = z154_ := (congrArg (fun z9 : TT => z9.1 1) eT171_).trans i161_
        have i174_ : T171_.1 2 = z166_ := congrArg (fun z9 : TT => z9.1 2) eT171_
        have i175_ : T171_.1 3 = (t_a.1 3) := (congrArg (fun z9 : TT => z9.1 3) eT171_).trans i163_
        have i176_ : T171_.1 4 = (t_a.1 4) := (congrArg (fun z9 : TT => z9.1 4) eT171_).trans i164_
        have i177_ : T171_.2.2 = none := (congrArg (fun z9 : TT => z9.2.2) eT171_).trans i165_
        have yy178_ : (T171_.1 1).toInt = z154_.toInt := congrArg Int32.toInt i173_
        have yy179_ : (T171_.1 2).toInt = z166_.toInt := congrArg Int32.toInt i174_
        have yy180_ : (T171_.1 3).toInt = (t_a.1 3).toInt := congrArg Int32.toInt i175_
        have yy181_ : (T171_.1 4).toInt = (t_a.1 4).toInt := congrArg Int32.toInt i176_
        have o10 : ((σ.1 1).toInt = 0 ∨ (τ167_.1 1).toInt ≠ 0) := by omega
        have pr_ : PrOk κ a T171_ (τ167_.1 1).toInt := PrOk.none i177_ (by by_cases h9 : (τ167_.1 1).toInt = 0; exact Or.inr ⟨four (P := fun j => 0 ≤ (T171_.1 j).toInt ∧ (T171_.1 j).toInt ≤ (pI κ 1).toInt) ⟨by omega, by omega⟩ ⟨by omega, by omega⟩ ⟨by omega, by omega⟩ ⟨by omega, by omega⟩, by omega, by omega⟩; exact Or.inl h9)
        rw [hQ]
        exact W.vret hx hb hr (fun t ht hW => ⟨⟨(T171_, τ167_), rfl, ⟨hτ167_, ⟨o10, pr_⟩⟩, wEn_of hP (hK.sub [] rfl) hD ht hW⟩, hS.F ht⟩) hS.2.2 dX4_readParts_205
      · refine lv_tableIn (tgt := 189) (off := 185) hx hb dX4_readParts_4 (by rw [t_sw]; decide) (by rw [t_sw]; decide) (by rw [t_sw]; decide) (by decide) ?_
        refine lv_aload_n hx hb dX4_readParts_189 rfl (lv_at hl 1 rfl) ?_
        refine lv_aload_n hx hb dX4_readParts_190 rfl (lv_at hl 0 rfl) ?_
        refine zy_i (va_runV (As := []) (rest := [.ref a]) ⟨hx, hb, hml, hown, hts⟩ (r_needStep l dC dI adK adV (ku κ a t_a) H.size σ  (hk t_a) hI ) (cwV 0 hts gd_g_readParts_124_r_needStep rfl rfl rfl dd_r_needStep ⟨Nat.le_of_ble_eq_true rfl, Nat.le_of_ble_eq_true rfl⟩) (preVr hP hK hD hE hZ hR hS hA (ci := 4) (q0 := 0) rfl rfl) rfl rfl hl.1 rfl (lv_room (Nat.le_of_ble_eq_true rfl)) dX4_readParts_191 ⟨Nat.le_of_ble_eq_true rfl, Nat.le_of_ble_eq_true rfl⟩) hD hS hA (fun z182_ τ183_ H locs hq hP hD hS => ?_)
        obtain ⟨hτ183_, q184_⟩ := hq
        have q184_ : ((σ.1 1).toInt = 0 ∨ (τ183_.1 1).toInt ≠ 0) ∧ 0 ≤ z182_.toInt ∧ z182_.toInt ≤ 11 ∧ ((τ183_.1 1).toInt ≠ 0 ∨ z182_.toInt < (pI κ 1).toInt) := q184_
        refine W.widen (k := 0) (n := 0) (Nat.le_of_ble_eq_true rfl) (Nat.le_of_ble_eq_true rfl) ?_
        obtain ⟨kn185_, hkn185_⟩ := rpl (κ := (ku κ a t_a)) (σ := τ183_) (a := a) ha kf_self
        have hD186_ := hD
        refine va_put (D := (dC, dI)) (ci := 9) (v := .int z182_) (ty := tyX9 3) (C := RX9) (T := TX9) (N := 11) hx hb hts hin9 tyX9 tyX9_ok nmX9 hown hK hP hD hS kn185_ hkn185_ rfl 3 (Nat.le_of_ble_eq_true rfl) (ho (.fieldLink RX4 204 "NearEnough$Step" "a" "I") (List.mem_of_getElem? (i := 1) rfl)) (fun _ h9 => h9) rfl (tyX9_ok 3 (Nat.le_of_ble_eq_true rfl)) rfl rfl (Nat.le_of_ble_eq_true rfl) dX4_readParts_194 (fun H locs hP hD hS => ?_)
        obtain ⟨T187_, eT187_⟩ : ∃ x9 : TT, x9 = (upd t_a.1 1 z182_, t_a.2.1, t_a.2.2) := ⟨_, rfl⟩
        have hP : va_P (dC, dI) vwCl (rW (ku κ a T187_) τ183_) H := by rw [show (rW (ku κ a T187_) τ183_) = _ from (rW_kw (e' := .inr (9, stV T187_)) hD186_ ha hkn185_).symm, eT187_]; exact hP
        have hD : va_D A (rW (ku κ a T187_) τ183_) := by rw [show (rW (ku κ a T187_) τ183_) = _ from (rW_kw (e' := .inr (9, stV T187_)) hD186_ ha hkn185_).symm, eT187_]; exact hD
        have i188_ : T187_.1 0 = (t_a.1 0) := (congrArg (fun z9 : TT => z9.1 0) eT187_).trans rfl
        have i189_ : T187_.1 1 = z182_ := congrArg (fun z9 : TT => z9.1 1) eT187_
        have i190_ : T187_.1 2 = (t_a.1 2) := (congrArg (fun z9 : TT => z9.1 2) eT187_).trans rfl
        have i191_ : T187_.1 3 = (t_a.1 3) := (congrArg (fun z9 : TT => z9.1 3) eT187_).trans rfl
        have i192_ : T187_.1 4 = (t_a.1 4) := (congrArg (fun z9 : TT => z9.1 4) eT187_).trans rfl
        have i193_ : T187_.2.2 = none := (congrArg (fun z9 : TT => z9.2.2) eT187_).trans hrn
        refine lv_aload_n hx hb dX4_readParts_197 rfl (lv_at hl 1 rfl) ?_
        refine lv_aload_n hx hb dX4_readParts_198 rfl (lv_at hl 0 rfl) ?_
        refine zy_i (va_runV (As := []) (rest := [.ref a]) ⟨hx, hb, hml, hown, hts⟩ (r_needStep l dC dI adK adV (ku κ a T187_) H.size τ183_  (hk T187_) hτ183_ ) (cwV 0 hts gd_g_readParts_124_r_needStep rfl rfl rfl dd_r_needStep ⟨Nat.le_of_ble_eq_true rfl, Nat.le_of_ble_eq_true rfl⟩) (preVr hP hK hD hE hZ hR hS hA (ci := 4) (q0 := 0) rfl rfl) rfl rfl hl.1 rfl (lv_room (Nat.le_of_ble_eq_true rfl)) dX4_readParts_199 ⟨Nat.le_of_ble_eq_true rfl, Nat.le_of_ble_eq_true rfl⟩) hD hS hA (fun z194_ τ195_ H locs hq hP hD hS => ?_)
        obtain ⟨hτ195_, q196_⟩ := hq
        have q196_ : ((τ183_.1 1).toInt = 0 ∨ (τ195_.1 1).toInt ≠ 0) ∧ 0 ≤ z194_.toInt ∧ z194_.toInt ≤ 11 ∧ ((τ195_.1 1).toInt ≠ 0 ∨ z194_.toInt < (pI κ 1).toInt) := q196_
        refine W.widen (k := 0) (n := 0) (Nat.le_of_ble_eq_true rfl) (Nat.le_of_ble_eq_true rfl) ?_
        obtain ⟨kn197_, hkn197_⟩ := rpl (κ := (ku κ a T187_)) (σ := τ195_) (a := a) ha kf_self
        have hD198_ := hD
        refine va_put (D := (dC, dI)) (ci := 9) (v := .int z194_) (ty := tyX9 4) (C := RX9) (T := TX9) (N := 11) hx hb hts hin9 tyX9 tyX9_ok nmX9 hown hK hP hD hS kn197_ hkn197_ rfl 4 (Nat.le_of_ble_eq_true rfl) (ho (.fieldLink RX4 219 "NearEnough$Step" "b" "I") (List.mem_of_getElem? (i := 2) rfl)) (fun _ h9 => h9) rfl (tyX9_ok 4 (Nat.le_of_ble_eq_true rfl)) rfl rfl (Nat.le_of_ble_eq_true rfl) dX4_readParts_202 (fun H locs hP hD hS => ?_)
        obtain ⟨T199_, eT199_⟩ : ∃ x9 : TT, x9 = (upd T187_.1 2 z194_, T187_.2.1, T187_.2.2) := ⟨_, rfl⟩
        have hP : va_P (dC, dI) vwCl (rW (ku κ a T199_) τ195_) H := by rw [show (rW (ku κ a T199_) τ195_) = _ from (rW_kw (e' := .inr (9, stV T199_)) hD198_ ha hkn197_).symm, eT199_]; exact hP
        have hD : va_D A (rW (ku κ a T199_) τ195_) := by rw [show (rW (ku κ a T199_) τ195_) = _ from (rW_kw (e' := .inr (9, stV T199_)) hD198_ ha hkn197_).symm, eT199_]; exact hD
        have i200_ : T199_.1 0 = (t_a.1 0) := (congrArg (fun z9 : TT => z9.1 0) eT199_).trans i188_
        have i201_ : T199_.1 1 = z182_ := (congrArg (fun z9 : TT => z9.1 1) eT199_).trans i189_
        have i202_ : T199_.1 2 = z194_ := congrArg (fun z9 : TT => z9.1 2) eT199_
        have i203_ : T199_.1 3 = (t_a.1 3) := (congrArg (fun z9 : TT => z9.1 3) eT199_).trans i191_
        have i204_ : T199_.1 4 = (t_a.1 4) := (congrArg (fun z9 : TT => z9.1 4) eT199_).trans i192_
        have i205_ : T199_.2.2 = none := (congrArg (fun z9 : TT => z9.2.2) eT199_).trans i193_
        have yy206_ : (T199_.1 1).toInt = z182_.toInt := congrArg Int32.toInt i201_
        have yy207_ : (T199_.1 2).toInt = z194_.toInt := congrArg Int32.toInt i202_
        have yy208_ : (T199_.1 3).toInt = (t_a.1 3).toInt := congrArg Int32.toInt i203_
        have yy209_ : (T199_.1 4).toInt = (t_a.1 4).toInt := congrArg Int32.toInt i204_
        have o11 : ((σ.1 1).toInt = 0 ∨ (τ195_.1 1).toInt ≠ 0) := by omega
        have pr_ : PrOk κ a T199_ (τ195_.1 1).toInt := PrOk.none i205_ (by by_cases h9 : (τ195_.1 1).toInt = 0; exact Or.inr ⟨four (P := fun j => 0 ≤ (T199_.1 j).toInt ∧ (T199_.1 j).toInt ≤ (pI κ 1).toInt) ⟨by omega, by omega⟩ ⟨by omega, by omega⟩ ⟨by omega, by omega⟩ ⟨by omega, by omega⟩, by omega, by omega⟩; exact Or.inl h9)
        rw [hQ]
        exact W.vret hx hb hr (fun t ht hW => ⟨⟨(T199_, τ195_), rfl, ⟨hτ195_, ⟨o11, pr_⟩⟩, wEn_of hP (hK.sub [] rfl) hD ht hW⟩, hS.F ht⟩) hS.2.2 dX4_readParts_205
      · refine lv_tableIn (tgt := 69) (off := 65) hx hb dX4_readParts_4 (by rw [t_sw]; decide) (by rw [t_sw]; decide) (by rw [t_sw]; decide) (by decide) ?_
        refine lv_aload_n hx hb dX4_readParts_69 rfl (lv_at hl 1 rfl) ?_
        refine lv_aload_n hx hb dX4_readParts_70 rfl (lv_at hl 0 rfl) ?_
        refine zy_i (va_runV (As := []) (rest := [.ref a]) ⟨hx, hb, hml, hown, hts⟩ (r_needStep l dC dI adK adV (ku κ a t_a) H.size σ  (hk t_a) hI ) (cwV 0 hts gd_g_readParts_124_r_needStep rfl rfl rfl dd_r_needStep ⟨Nat.le_of_ble_eq_true rfl, Nat.le_of_ble_eq_true rfl⟩) (preVr hP hK hD hE hZ hR hS hA (ci := 4) (q0 := 0) rfl rfl) rfl rfl hl.1 rfl (lv_room (Nat.le_of_ble_eq_true rfl)) dX4_readParts_71 ⟨Nat.le_of_ble_eq_true rfl, Nat.le_of_ble_eq_true rfl⟩) hD hS hA (fun z210_ τ211_ H locs hq hP hD hS => ?_)
        obtain ⟨hτ211_, q212_⟩ := hq
        have q212_ : ((σ.1 1).toInt = 0 ∨ (τ211_.1 1).toInt ≠ 0) ∧ 0 ≤ z210_.toInt ∧ z210_.toInt ≤ 11 ∧ ((τ211_.1 1).toInt ≠ 0 ∨ z210_.toInt < (pI κ 1).toInt) := q212_
        refine W.widen (k := 0) (n := 0) (Nat.le_of_ble_eq_true rfl) (Nat.le_of_ble_eq_true rfl) ?_
        obtain ⟨kn213_, hkn213_⟩ := rpl (κ := (ku κ a t_a)) (σ := τ211_) (a := a) ha kf_self
        have hD214_ := hD
        refine va_put (D := (dC, dI)) (ci := 9) (v := .int z210_) (ty := tyX9 3) (C := RX9) (T := TX9) (N := 11) hx hb hts hin9 tyX9 tyX9_ok nmX9 hown hK hP hD hS kn213_ hkn213_ rfl 3 (Nat.le_of_ble_eq_true rfl) (ho (.fieldLink RX4 204 "NearEnough$Step" "a" "I") (List.mem_of_getElem? (i := 1) rfl)) (fun _ h9 => h9) rfl (tyX9_ok 3 (Nat.le_of_ble_eq_true rfl)) rfl rfl (Nat.le_of_ble_eq_true rfl) dX4_readParts_74 (fun H locs hP hD hS => ?_)
        obtain ⟨T215_, eT215_⟩ : ∃ x9 : TT, x9 = (upd t_a.1 1 z210_, t_a.2.1, t_a.2.2) := ⟨_, rfl⟩
        have hP : va_P (dC, dI) vwCl (rW (ku κ a T215_) τ211_) H := by rw [show (rW (ku κ a T215_) τ211_) = _ from (rW_kw (e' := .inr (9, stV T215_)) hD214_ ha hkn213_).symm, eT215_]; exact hP
        have hD : va_D A (rW (ku κ a T215_) τ211_) := by rw [show (rW (ku κ a T215_) τ211_) = _ from (rW_kw (e' := .inr (9, stV T215_)) hD214_ ha hkn213_).symm, eT215_]; exact hD
        have i216_ : T215_.1 0 = (t_a.1 0) := (congrArg (fun z9 : TT => z9.1 0) eT215_).trans rfl
        have i217_ : T215_.1 1 = z210_ := congrArg (fun z9 : TT => z9.1 1) eT215_
        have i218_ : T215_.1 2 = (t_a.1 2) := (congrArg (fun z9 : TT => z9.1 2) eT215_).trans rfl
        have i219_ : T215_.1 3 = (t_a.1 3) := (congrArg (fun z9 : TT => z9.1 3) eT215_).trans rfl
        have i220_ : T215_.1 4 = (t_a.1 4) := (congrArg (fun z9 : TT => z9.1 4) eT215_).trans rfl
        have i221_ : T215_.2.2 = none := (congrArg (fun z9 : TT => z9.2.2) eT215_).trans hrn
        refine lv_aload_n hx hb dX4_readParts_77 rfl (lv_at hl 0 rfl) ?_
        refine va_ldcS (tx := "by ") (q := adK 19) hx hb hown (hR (207, "by ", 19) (List.mem_of_getElem? (i := 19) rfl)) dX4_readParts_78 ?_
        refine zy_v (va_runV (As := [.ref (adK 19)]) (rest := []) ⟨hx, hb, hml, hown, hts⟩ (r_needWord l dC dI adK adV (ku κ a T215_) H.size τ211_ 19 (by decide) (hk T215_) hτ211_ ) (cwV 1 hts gd_g_readParts_102_r_needWord rfl rfl rfl dd_r_needWord ⟨Nat.le_of_ble_eq_true rfl, Nat.le_of_ble_eq_true rfl⟩) (preVr hP hK hD hE hZ hR hS hA (ci := 4) (q0 := 0) rfl rfl) rfl rfl hl.1 rfl (lv_room (Nat.le_of_ble_eq_true rfl)) dX4_readParts_80 ⟨Nat.le_of_ble_eq_true rfl, Nat.le_of_ble_eq_true rfl⟩) hD hS hA (fun τ223_ H locs hq hP hD hS => ?_)
        obtain ⟨hτ223_, q224_⟩ := hq
        have q224_ : ((τ211_.1 1).toInt = 0 ∨ (τ223_.1 1).toInt ≠ 0) := q224_
        refine W.widen (k := 0) (n := 0) (Nat.le_of_ble_eq_true rfl) (Nat.le_of_ble_eq_true rfl) ?_
        refine lv_aload_n hx hb dX4_readParts_83 rfl (lv_at hl 1 rfl) ?_
        refine lv_aload_n hx hb dX4_readParts_84 rfl (lv_at hl 0 rfl) ?_
        refine lv_bipush (v := (-99)) hx hb dX4_readParts_85 rg_278 ?_
        refine lv_bipush (v := 99) hx hb dX4_readParts_87 rg_78 ?_
        refine lv_iconst (v := 1) hx hb dX4_readParts_89 rg_6 ?_
        have kk225_ : ((-99) : Int32).toInt = (-99) := rg_279
        have kk226_ : (99 : Int32).toInt = 99 := rg_79
        have kk227_ : (1 : Int32).toInt = 1 := rg_18
        refine zy_i (va_runV (As := [.int (-99), .int 99, .int 1]) (rest := [.ref a]) ⟨hx, hb, hml, hown, hts⟩ (r_needNumber l dC dI adK adV (ku κ a T215_) H.size τ223_ (-99) 99 1 (hk T215_) hτ223_ ) (cwV 3 hts gd_g_readParts_106_r_needNumber rfl rfl rfl dd_r_needNumber ⟨Nat.le_of_ble_eq_true rfl, Nat.le_of_ble_eq_true rfl⟩) (preVr hP hK hD hE hZ hR hS hA (ci := 4) (q0 := 0) rfl rfl) rfl rfl hl.1 rfl (lv_room (Nat.le_of_ble_eq_true rfl)) dX4_readParts_90 ⟨Nat.le_of_ble_eq_true rfl, Nat.le_of_ble_eq_true rfl⟩) hD hS hA (fun z228_ τ229_ H locs hq hP hD hS => ?_)
        obtain ⟨hτ229_, q230_⟩ := hq
        have q230_ : ((τ223_.1 1).toInt = 0 ∨ (τ229_.1 1).toInt ≠ 0) ∧ ((τ229_.1 1).toInt ≠ 0 ∨ ((-99 : Int32).toInt ≤ z228_.toInt ∧ z228_.toInt ≤ (99 : Int32).toInt)) := q230_
        refine W.widen (k := 0) (n := 0) (Nat.le_of_ble_eq_true rfl) (Nat.le_of_ble_eq_true rfl) ?_
        obtain ⟨kn231_, hkn231_⟩ := rpl (κ := (ku κ a T215_)) (σ := τ229_) (a := a) ha kf_self
        have hD232_ := hD
        refine va_put (D := (dC, dI)) (ci := 9) (v := .int z228_) (ty := tyX9 7) (C := RX9) (T := TX9) (N := 11) hx hb hts hin9 tyX9 tyX9_ok nmX9 hown hK hP hD hS kn231_ hkn231_ rfl 7 (Nat.le_of_ble_eq_true rfl) (ho (.fieldLink RX4 209 "NearEnough$Step" "by" "I") (List.mem_of_getElem? (i := 4) rfl)) (fun _ h9 => h9) rfl (tyX9_ok 7 (Nat.le_of_ble_eq_true rfl)) rfl rfl (Nat.le_of_ble_eq_true rfl) dX4_readParts_93 (fun H locs hP hD hS => ?_)
        obtain ⟨T233_, eT233_⟩ : ∃ x9 : TT, x9 = (upd T215_.1 5 z228_, T215_.2.1, T215_.2.2) := ⟨_, rfl⟩
        have hP : va_P (dC, dI) vwCl (rW (ku κ a T233_) τ229_) H := by rw [show (rW (ku κ a T233_) τ229_) = _ from (rW_kw (e' := .inr (9, stV T233_)) hD232_ ha hkn231_).symm, eT233_]; exact hP
        have hD : va_D A (rW (ku κ a T233_) τ229_) := by rw [show (rW (ku κ a T233_) τ229_) = _ from (rW_kw (e' := .inr (9, stV T233_)) hD232_ ha hkn231_).symm, eT233_]; exact hD
        have i234_ : T233_.1 0 = (t_a.1 0) := (congrArg (fun z9 : TT => z9.1 0) eT233_).trans i216_
        have i235_ : T233_.1 1 = z210_ := (congrArg (fun z9 : TT => z9.1 1) eT233_).trans i217_
        have i236_ : T233_.1 2 = (t_a.1 2) := (congrArg (fun z9 : TT => z9.1 2) eT233_).trans i218_
        have i237_ : T233_.1 3 = (t_a.1 3) := (congrArg (fun z9 : TT => z9.1 3) eT233_).trans i219_
        have i238_ : T233_.1 4 = (t_a.1 4) := (congrArg (fun z9 : TT => z9.1 4) eT233_).trans i220_
        have i239_ : T233_.2.2 = none := (congrArg (fun z9 : TT => z9.2.2) eT233_).trans i221_
        refine lv_aload_n hx hb dX4_readParts_96 rfl (lv_at hl 0 rfl) ?_
        refine va_ldcS (tx := "over ") (q := adK 20) hx hb hown (hR (212, "over ", 20) (List.mem_of_getElem? (i := 20) rfl)) dX4_readParts_97 ?_
        refine zy_v (va_runV (As := [.ref (adK 20)]) (rest := []) ⟨hx, hb, hml, hown, hts⟩ (r_needWord l dC dI adK adV (ku κ a T233_) H.size τ229_ 20 (by decide) (hk T233_) hτ229_ ) (cwV 1 hts gd_g_readParts_102_r_needWord rfl rfl rfl dd_r_needWord ⟨Nat.le_of_ble_eq_true rfl, Nat.le_of_ble_eq_true rfl⟩) (preVr hP hK hD hE hZ hR hS hA (ci := 4) (q0 := 0) rfl rfl) rfl rfl hl.1 rfl (lv_room (Nat.le_of_ble_eq_true rfl)) dX4_readParts_99 ⟨Nat.le_of_ble_eq_true rfl, Nat.le_of_ble_eq_true rfl⟩) hD hS hA (fun τ241_ H locs hq hP hD hS => ?_)
        obtain ⟨hτ241_, q242_⟩ := hq
        have q242_ : ((τ229_.1 1).toInt = 0 ∨ (τ241_.1 1).toInt ≠ 0) := q242_
        refine W.widen (k := 0) (n := 0) (Nat.le_of_ble_eq_true rfl) (Nat.le_of_ble_eq_true rfl) ?_
        refine lv_aload_n hx hb dX4_readParts_102 rfl (lv_at hl 1 rfl) ?_
        refine lv_aload_n hx hb dX4_readParts_103 rfl (lv_at hl 0 rfl) ?_
        refine lv_iconst (v := 1) hx hb dX4_readParts_104 rg_6 ?_
        refine lv_bipush (v := 99) hx hb dX4_readParts_105 rg_78 ?_
        refine lv_iconst (v := 0) hx hb dX4_readParts_107 rg_0 ?_
        have kk243_ : (1 : Int32).toInt = 1 := rg_18
        have kk244_ : (99 : Int32).toInt = 99 := rg_79
        have kk245_ : (0 : Int32).toInt = 0 := rg_11
        refine zy_i (va_runV (As := [.int 1, .int 99, .int 0]) (rest := [.ref a]) ⟨hx, hb, hml, hown, hts⟩ (r_needNumber l dC dI adK adV (ku κ a T233_) H.size τ241_ 1 99 0 (hk T233_) hτ241_ ) (cwV 3 hts gd_g_readParts_106_r_needNumber rfl rfl rfl dd_r_needNumber ⟨Nat.le_of_ble_eq_true rfl, Nat.le_of_ble_eq_true rfl⟩) (preVr hP hK hD hE hZ hR hS hA (ci := 4) (q0 := 0) rfl rfl) rfl rfl hl.1 rfl (lv_room (Nat.le_of_ble_eq_true rfl)) dX4_readParts_108 ⟨Nat.le_of_ble_eq_true rfl, Nat.le_of_ble_eq_true rfl⟩) hD hS hA (fun z246_ τ247_ H locs hq hP hD hS => ?_)
        obtain ⟨hτ247_, q248_⟩ := hq
        have q248_ : ((τ241_.1 1).toInt = 0 ∨ (τ247_.1 1).toInt ≠ 0) ∧ ((τ247_.1 1).toInt ≠ 0 ∨ ((1 : Int32).toInt ≤ z246_.toInt ∧ z246_.toInt ≤ (99 : Int32).toInt)) := q248_
        refine W.widen (k := 0) (n := 0) (Nat.le_of_ble_eq_true rfl) (Nat.le_of_ble_eq_true rfl) ?_
        obtain ⟨kn249_, hkn249_⟩ := rpl (κ := (ku κ a T233_)) (σ := τ247_) (a := a) ha kf_self
        have hD250_ := hD
        refine va_put (D := (dC, dI)) (ci := 9) (v := .int z246_) (ty := tyX9 8) (C := RX9) (T := TX9) (N := 11) hx hb hts hin9 tyX9 tyX9_ok nmX9 hown hK hP hD hS kn249_ hkn249_ rfl 8 (Nat.le_of_ble_eq_true rfl) (ho (.fieldLink RX4 214 "NearEnough$Step" "over" "I") (List.mem_of_getElem? (i := 5) rfl)) (fun _ h9 => h9) rfl (tyX9_ok 8 (Nat.le_of_ble_eq_true rfl)) rfl rfl (Nat.le_of_ble_eq_true rfl) dX4_readParts_111 (fun H locs hP hD hS => ?_)
        obtain ⟨T251_, eT251_⟩ : ∃ x9 : TT, x9 = (upd T233_.1 6 z246_, T233_.2.1, T233_.2.2) := ⟨_, rfl⟩
        have hP : va_P (dC, dI) vwCl (rW (ku κ a T251_) τ247_) H := by rw [show (rW (ku κ a T251_) τ247_) = _ from (rW_kw (e' := .inr (9, stV T251_)) hD250_ ha hkn249_).symm, eT251_]; exact hP
        have hD : va_D A (rW (ku κ a T251_) τ247_) := by rw [show (rW (ku κ a T251_) τ247_) = _ from (rW_kw (e' := .inr (9, stV T251_)) hD250_ ha hkn249_).symm, eT251_]; exact hD
        have i252_ : T251_.1 0 = (t_a.1 0) := (congrArg (fun z9 : TT => z9.1 0) eT251_).trans i234_
        have i253_ : T251_.1 1 = z210_ := (congrArg (fun z9 : TT => z9.1 1) eT251_).trans i235_
        have i254_ : T251_.1 2 = (t_a.1 2) := (congrArg (fun z9 : TT => z9.1 2) eT251_).trans i236_
        have i255_ : T251_.1 3 = (t_a.1 3) := (congrArg (fun z9 : TT => z9.1 3) eT251_).trans i237_
        have i256_ : T251_.1 4 = (t_a.1 4) := (congrArg (fun z9 : TT => z9.1 4) eT251_).trans i238_
        have i257_ : T251_.2.2 = none := (congrArg (fun z9 : TT => z9.2.2) eT251_).trans i239_
        refine lv_goto (tgt := 205) hx hb dX4_readParts_114 rfl ?_
        have yy258_ : (T251_.1 1).toInt = z210_.toInt := congrArg Int32.toInt i253_
        have yy259_ : (T251_.1 2).toInt = (t_a.1 2).toInt := congrArg Int32.toInt i254_
        have yy260_ : (T251_.1 3).toInt = (t_a.1 3).toInt := congrArg Int32.toInt i255_
        have yy261_ : (T251_.1 4).toInt = (t_a.1 4).toInt := congrArg Int32.toInt i256_
        have o12 : ((σ.1 1).toInt = 0 ∨ (τ247_.1 1).toInt ≠ 0) := by omega
        have pr_ : PrOk κ a T251_ (τ247_.1 1).toInt := PrOk.none i257_ (by by_cases h9 : (τ247_.1 1).toInt = 0; exact Or.inr ⟨four (P := fun j => 0 ≤ (T251_.1 j).toInt ∧ (T251_.1 j).toInt ≤ (pI κ 1).toInt) ⟨by omega, by omega⟩ ⟨by omega, by omega⟩ ⟨by omega, by omega⟩ ⟨by omega, by omega⟩, by omega, by omega⟩; exact Or.inl h9)
        rw [hQ]
        exact W.vret hx hb hr (fun t ht hW => ⟨⟨(T251_, τ247_), rfl, ⟨hτ247_, ⟨o12, pr_⟩⟩, wEn_of hP (hK.sub [] rfl) hD ht hW⟩, hS.F ht⟩) hS.2.2 dX4_readParts_205
      · refine lv_tableIn (tgt := 117) (off := 113) hx hb dX4_readParts_4 (by rw [t_sw]; decide) (by rw [t_sw]; decide) (by rw [t_sw]; decide) (by decide) ?_
        refine lv_aload_n hx hb dX4_readParts_117 rfl (lv_at hl 1 rfl) ?_
        refine lv_aload_n hx hb dX4_readParts_118 rfl (lv_at hl 0 rfl) ?_
        refine zy_q (va_runV (As := []) (rest := [.ref a]) ⟨hx, hb, hml, hown, hts⟩ (r_needRow l dC dI adK adV (ku κ a t_a) H.size σ  (hk t_a) hI ) (cwV 0 hts gd_g_readParts_196_r_needRow rfl rfl rfl dd_r_needRow ⟨Nat.le_of_ble_eq_true rfl, Nat.le_of_ble_eq_true rfl⟩) (preVr hP hK hD hE hZ hR hS hA (ci := 4) (q0 := 0) rfl rfl) rfl rfl hl.1 rfl (lv_room (Nat.le_of_ble_eq_true rfl)) dX4_readParts_119 ⟨Nat.le_of_ble_eq_true rfl, Nat.le_of_ble_eq_true rfl⟩) hD hS hA (fun z262_ τ263_ H locs hq hP hD hS => ?_)
        obtain ⟨hτ263_, q264_⟩ := hq
        have mq264_ : ((σ.1 1).toInt = 0 ∨ (τ263_.1 1).toInt ≠ 0) := q264_.1
        refine W.widen (k := 0) (n := 0) (Nat.le_of_ble_eq_true rfl) (Nat.le_of_ble_eq_true rfl) ?_
        rcases z262_ with _ | r265_
        · refine zv (v := .null) rfl ?_
          have nz_ : (τ263_.1 1).toInt ≠ 0 := by rcases q264_.2.1 with h9 | h9; exact h9; exact absurd rfl h9
          obtain ⟨kn266_, hkn266_⟩ := rpl (κ := (ku κ a t_a)) (σ := τ263_) (a := a) ha kf_self
          have hD267_ := hD
          refine va_put (D := (dC, dI)) (ci := 9) (v := .null) (ty := tyX9 2) (C := RX9) (T := TX9) (N := 11) hx hb hts hin9 tyX9 tyX9_ok nmX9 hown hK hP hD hS kn266_ hkn266_ rfl 2 (Nat.le_of_ble_eq_true rfl) (ho (.fieldLink RX4 200 "NearEnough$Step" "row" "LNearEnough$Row;") (List.mem_of_getElem? (i := 3) rfl)) (fun _ h9 => h9) rfl (tyX9_ok 2 (Nat.le_of_ble_eq_true rfl)) rfl rfl (Nat.le_of_ble_eq_true rfl) dX4_readParts_122 (fun H locs hP hD hS => ?_)
          obtain ⟨T268_, eT268_⟩ : ∃ x9 : TT, x9 = (t_a.1, t_a.2.1, none) := ⟨_, rfl⟩
          have hP : va_P (dC, dI) vwCl (rW (ku κ a T268_) τ263_) H := by rw [show (rW (ku κ a T268_) τ263_) = _ from (rW_kw (e' := .inr (9, stV T268_)) hD267_ ha hkn266_).symm, eT268_]; exact hP
          have hD : va_D A (rW (ku κ a T268_) τ263_) := by rw [show (rW (ku κ a T268_) τ263_) = _ from (rW_kw (e' := .inr (9, stV T268_)) hD267_ ha hkn266_).symm, eT268_]; exact hD
          have i269_ : T268_.1 0 = (t_a.1 0) := (congrArg (fun z9 : TT => z9.1 0) eT268_).trans rfl
          have i270_ : T268_.1 1 = (t_a.1 1) := (congrArg (fun z9 : TT => z9.1 1) eT268_).trans rfl
          have i271_ : T268_.1 2 = (t_a.1 2) := (congrArg (fun z9 : TT => z9.1 2) eT268_).trans rfl
          have i272_ : T268_.1 3 = (t_a.1 3) := (congrArg (fun z9 : TT => z9.1 3) eT268_).trans rfl
          have i273_ : T268_.1 4 = (t_a.1 4) := (congrArg (fun z9 : TT => z9.1 4) eT268_).trans rfl
          have i274_ : T268_.2.2 = none := congrArg (fun z9 : TT => z9.2.2) eT268_
          refine lv_aload_n hx hb dX4_readParts_125 rfl (lv_at hl 0 rfl) ?_
          refine va_ldcS (tx := "place ") (q := adK 21) hx hb hown (hR (217, "place ", 21) (List.mem_of_getElem? (i := 21) rfl)) dX4_readParts_126 ?_
          refine zy_v (va_runV (As := [.ref (adK 21)]) (rest := []) ⟨hx, hb, hml, hown, hts⟩ (r_needWord l dC dI adK adV (ku κ a T268_) H.size τ263_ 21 (by decide) (hk T268_) hτ263_ ) (cwV 1 hts gd_g_readParts_102_r_needWord rfl rfl rfl dd_r_needWord ⟨Nat.le_of_ble_eq_true rfl, Nat.le_of_ble_eq_true rfl⟩) (preVr hP hK hD hE hZ hR hS hA (ci := 4) (q0 := 0) rfl rfl) rfl rfl hl.1 rfl (lv_room (Nat.le_of_ble_eq_true rfl)) dX4_readParts_128 ⟨Nat.le_of_ble_eq_true rfl, Nat.le_of_ble_eq_true rfl⟩) hD hS hA (fun τ276_ H locs hq hP hD hS => ?_)
          obtain ⟨hτ276_, q277_⟩ := hq
          have q277_ : ((τ263_.1 1).toInt = 0 ∨ (τ276_.1 1).toInt ≠ 0) := q277_
          refine W.widen (k := 0) (n := 0) (Nat.le_of_ble_eq_true rfl) (Nat.le_of_ble_eq_true rfl) ?_
          refine lv_aload_n hx hb dX4_readParts_131 rfl (lv_at hl 1 rfl) ?_
          refine lv_aload_n hx hb dX4_readParts_132 rfl (lv_at hl 0 rfl) ?_
          refine zy_i (va_runV (As := []) (rest := [.ref a]) ⟨hx, hb, hml, hown, hts⟩ (r_needStep l dC dI adK adV (ku κ a T268_) H.size τ276_  (hk T268_) hτ276_ ) (cwV 0 hts gd_g_readParts_124_r_needStep rfl rfl rfl dd_r_needStep ⟨Nat.le_of_ble_eq_true rfl, Nat.le_of_ble_eq_true rfl⟩) (preVr hP hK hD hE hZ hR hS hA (ci := 4) (q0 := 0) rfl rfl) rfl rfl hl.1 rfl (lv_room (Nat.le_of_ble_eq_true rfl)) dX4_readParts_133 ⟨Nat.le_of_ble_eq_true rfl, Nat.le_of_ble_eq_true rfl⟩) hD hS hA (fun z278_ τ279_ H locs hq hP hD hS => ?_)
          obtain ⟨hτ279_, q280_⟩ := hq
          have q280_ : ((τ276_.1 1).toInt = 0 ∨ (τ279_.1 1).toInt ≠ 0) ∧ 0 ≤ z278_.toInt ∧ z278_.toInt ≤ 11 ∧ ((τ279_.1 1).toInt ≠ 0 ∨ z278_.toInt < (pI κ 1).toInt) := q280_
          refine W.widen (k := 0) (n := 0) (Nat.le_of_ble_eq_true rfl) (Nat.le_of_ble_eq_true rfl) ?_
          obtain ⟨kn281_, hkn281_⟩ := rpl (κ := (ku κ a T268_)) (σ := τ279_) (a := a) ha kf_self
          have hD282_ := hD
          refine va_put (D := (dC, dI)) (ci := 9) (v := .int z278_) (ty := tyX9 3) (C := RX9) (T := TX9) (N := 11) hx hb hts hin9 tyX9 tyX9_ok nmX9 hown hK hP hD hS kn281_ hkn281_ rfl 3 (Nat.le_of_ble_eq_true rfl) (ho (.fieldLink RX4 204 "NearEnough$Step" "a" "I") (List.mem_of_getElem? (i := 1) rfl)) (fun _ h9 => h9) rfl (tyX9_ok 3 (Nat.le_of_ble_eq_true rfl)) rfl rfl (Nat.le_of_ble_eq_true rfl) dX4_readParts_136 (fun H locs hP hD hS => ?_)
          obtain ⟨T283_, eT283_⟩ : ∃ x9 : TT, x9 = (upd T268_.1 1 z278_, T268_.2.1, T268_.2.2) := ⟨_, rfl⟩
          have hP : va_P (dC, dI) vwCl (rW (ku κ a T283_) τ279_) H := by rw [show (rW (ku κ a T283_) τ279_) = _ from (rW_kw (e' := .inr (9, stV T283_)) hD282_ ha hkn281_).symm, eT283_]; exact hP
          have hD : va_D A (rW (ku κ a T283_) τ279_) := by rw [show (rW (ku κ a T283_) τ279_) = _ from (rW_kw (e' := .inr (9, stV T283_)) hD282_ ha hkn281_).symm, eT283_]; exact hD
          have i284_ : T283_.1 0 = (t_a.1 0) := (congrArg (fun z9 : TT => z9.1 0) eT283_).trans i269_
          have i285_ : T283_.1 1 = z278_ := congrArg (fun z9 : TT => z9.1 1) eT283_
          have i286_ : T283_.1 2 = (t_a.1 2) := (congrArg (fun z9 : TT => z9.1 2) eT283_).trans i271_
          have i287_ : T283_.1 3 = (t_a.1 3) := (congrArg (fun z9 : TT => z9.1 3) eT283_).trans i272_
          have i288_ : T283_.1 4 = (t_a.1 4) := (congrArg (fun z9 : TT => z9.1 4) eT283_).trans i273_
          have i289_ : T283_.2.2 = none := (congrArg (fun z9 : TT => z9.2.2) eT283_).trans i274_
          refine lv_goto (tgt := 205) hx hb dX4_readParts_139 rfl ?_
          have yy290_ : (T283_.1 1).toInt = z278_.toInt := congrArg Int32.toInt i285_
          have yy291_ : (T283_.1 2).toInt = (t_a.1 2).toInt := congrArg Int32.toInt i286_
          have yy292_ : (T283_.1 3).toInt = (t_a.1 3).toInt := congrArg Int32.toInt i287_
          have yy293_ : (T283_.1 4).toInt = (t_a.1 4).toInt := congrArg Int32.toInt i288_
          have o13 : ((σ.1 1).toInt = 0 ∨ (τ279_.1 1).toInt ≠ 0) := by omega
          have o14 : (τ279_.1 1).toInt ≠ 0 := by omega
          have pr_ : PrOk κ a T283_ (τ279_.1 1).toInt := PrOk.f i289_ o14
          rw [hQ]
          exact W.vret hx hb hr (fun t ht hW => ⟨⟨(T283_, τ279_), rfl, ⟨hτ279_, ⟨o13, pr_⟩⟩, wEn_of hP (hK.sub [] rfl) hD ht hW⟩, hS.F ht⟩) hS.2.2 dX4_readParts_205
        · refine zv (v := .ref r265_) rfl ?_
          obtain ⟨u294_, gu294_⟩ := q264_.2.2 r265_ rfl
          obtain ⟨kn295_, hkn295_⟩ := rpl (κ := (ku κ a t_a)) (σ := τ263_) (a := a) ha kf_self
          have hD296_ := hD
          refine va_put (D := (dC, dI)) (ci := 9) (v := .ref r265_) (ty := tyX9 2) (C := RX9) (T := TX9) (N := 11) hx hb hts hin9 tyX9 tyX9_ok nmX9 hown hK hP hD hS kn295_ hkn295_ rfl 2 (Nat.le_of_ble_eq_true rfl) (ho (.fieldLink RX4 200 "NearEnough$Step" "row" "LNearEnough$Row;") (List.mem_of_getElem? (i := 3) rfl)) (fun _ h9 => h9) rfl (tyX9_ok 2 (Nat.le_of_ble_eq_true rfl)) rfl rfl (Nat.le_of_ble_eq_true rfl) dX4_readParts_122 (fun H locs hP hD hS => ?_)
          obtain ⟨T297_, eT297_⟩ : ∃ x9 : TT, x9 = (t_a.1, t_a.2.1, (some r265_)) := ⟨_, rfl⟩
          have hP : va_P (dC, dI) vwCl (rW (ku κ a T297_) τ263_) H := by rw [show (rW (ku κ a T297_) τ263_) = _ from (rW_kw (e' := .inr (9, stV T297_)) hD296_ ha hkn295_).symm, eT297_]; exact hP
          have hD : va_D A (rW (ku κ a T297_) τ263_) := by rw [show (rW (ku κ a T297_) τ263_) = _ from (rW_kw (e' := .inr (9, stV T297_)) hD296_ ha hkn295_).symm, eT297_]; exact hD
          have i298_ : T297_.1 0 = (t_a.1 0) := (congrArg (fun z9 : TT => z9.1 0) eT297_).trans rfl
          have i299_ : T297_.1 1 = (t_a.1 1) := (congrArg (fun z9 : TT => z9.1 1) eT297_).trans rfl
          have i300_ : T297_.1 2 = (t_a.1 2) := (congrArg (fun z9 : TT => z9.1 2) eT297_).trans rfl
          have i301_ : T297_.1 3 = (t_a.1 3) := (congrArg (fun z9 : TT => z9.1 3) eT297_).trans rfl
          have i302_ : T297_.1 4 = (t_a.1 4) := (congrArg (fun z9 : TT => z9.1 4) eT297_).trans rfl
          have i303_ : T297_.2.2 = some r265_ := congrArg (fun z9 : TT => z9.2.2) eT297_
          refine lv_aload_n hx hb dX4_readParts_125 rfl (lv_at hl 0 rfl) ?_
          refine va_ldcS (tx := "place ") (q := adK 21) hx hb hown (hR (217, "place ", 21) (List.mem_of_getElem? (i := 21) rfl)) dX4_readParts_126 ?_
          refine zy_v (va_runV (As := [.ref (adK 21)]) (rest := []) ⟨hx, hb, hml, hown, hts⟩ (r_needWord l dC dI adK adV (ku κ a T297_) H.size τ263_ 21 (by decide) (hk T297_) hτ263_ ) (cwV 1 hts gd_g_readParts_102_r_needWord rfl rfl rfl dd_r_needWord ⟨Nat.le_of_ble_eq_true rfl, Nat.le_of_ble_eq_true rfl⟩) (preVr hP hK hD hE hZ hR hS hA (ci := 4) (q0 := 0) rfl rfl) rfl rfl hl.1 rfl (lv_room (Nat.le_of_ble_eq_true rfl)) dX4_readParts_128 ⟨Nat.le_of_ble_eq_true rfl, Nat.le_of_ble_eq_true rfl⟩) hD hS hA (fun τ305_ H locs hq hP hD hS => ?_)
          obtain ⟨hτ305_, q306_⟩ := hq
          have q306_ : ((τ263_.1 1).toInt = 0 ∨ (τ305_.1 1).toInt ≠ 0) := q306_
          refine W.widen (k := 0) (n := 0) (Nat.le_of_ble_eq_true rfl) (Nat.le_of_ble_eq_true rfl) ?_
          refine lv_aload_n hx hb dX4_readParts_131 rfl (lv_at hl 1 rfl) ?_
          refine lv_aload_n hx hb dX4_readParts_132 rfl (lv_at hl 0 rfl) ?_
          refine zy_i (va_runV (As := []) (rest := [.ref a]) ⟨hx, hb, hml, hown, hts⟩ (r_needStep l dC dI adK adV (ku κ a T297_) H.size τ305_  (hk T297_) hτ305_ ) (cwV 0 hts gd_g_readParts_124_r_needStep rfl rfl rfl dd_r_needStep ⟨Nat.le_of_ble_eq_true rfl, Nat.le_of_ble_eq_true rfl⟩) (preVr hP hK hD hE hZ hR hS hA (ci := 4) (q0 := 0) rfl rfl) rfl rfl hl.1 rfl (lv_room (Nat.le_of_ble_eq_true rfl)) dX4_readParts_133 ⟨Nat.le_of_ble_eq_true rfl, Nat.le_of_ble_eq_true rfl⟩) hD hS hA (fun z307_ τ308_ H locs hq hP hD hS => ?_)
          obtain ⟨hτ308_, q309_⟩ := hq
          have q309_ : ((τ305_.1 1).toInt = 0 ∨ (τ308_.1 1).toInt ≠ 0) ∧ 0 ≤ z307_.toInt ∧ z307_.toInt ≤ 11 ∧ ((τ308_.1 1).toInt ≠ 0 ∨ z307_.toInt < (pI κ 1).toInt) := q309_
          refine W.widen (k := 0) (n := 0) (Nat.le_of_ble_eq_true rfl) (Nat.le_of_ble_eq_true rfl) ?_
          obtain ⟨kn310_, hkn310_⟩ := rpl (κ := (ku κ a T297_)) (σ := τ308_) (a := a) ha kf_self
          have hD311_ := hD
          refine va_put (D := (dC, dI)) (ci := 9) (v := .int z307_) (ty := tyX9 3) (C := RX9) (T := TX9) (N := 11) hx hb hts hin9 tyX9 tyX9_ok nmX9 hown hK hP hD hS kn310_ hkn310_ rfl 3 (Nat.le_of_ble_eq_true rfl) (ho (.fieldLink RX4 204 "NearEnough$Step" "a" "I") (List.mem_of_getElem? (i := 1) rfl)) (fun _ h9 => h9) rfl (tyX9_ok 3 (Nat.le_of_ble_eq_true rfl)) rfl rfl (Nat.le_of_ble_eq_true rfl) dX4_readParts_136 (fun H locs hP hD hS => ?_)
          obtain ⟨T312_, eT312_⟩ : ∃ x9 : TT, x9 = (upd T297_.1 1 z307_, T297_.2.1, T297_.2.2) := ⟨_, rfl⟩
          have hP : va_P (dC, dI) vwCl (rW (ku κ a T312_) τ308_) H := by rw [show (rW (ku κ a T312_) τ308_) = _ from (rW_kw (e' := .inr (9, stV T312_)) hD311_ ha hkn310_).symm, eT312_]; exact hP
          have hD : va_D A (rW (ku κ a T312_) τ308_) := by rw [show (rW (ku κ a T312_) τ308_) = _ from (rW_kw (e' := .inr (9, stV T312_)) hD311_ ha hkn310_).symm, eT312_]; exact hD
          have i313_ : T312_.1 0 = (t_a.1 0) := (congrArg (fun z9 : TT => z9.1 0) eT312_).trans i298_
          have i314_ : T312_.1 1 = z307_ := congrArg (fun z9 : TT => z9.1 1) eT312_
          have i315_ : T312_.1 2 = (t_a.1 2) := (congrArg (fun z9 : TT => z9.1 2) eT312_).trans i300_
          have i316_ : T312_.1 3 = (t_a.1 3) := (congrArg (fun z9 : TT => z9.1 3) eT312_).trans i301_
          have i317_ : T312_.1 4 = (t_a.1 4) := (congrArg (fun z9 : TT => z9.1 4) eT312_).trans i302_
          have i318_ : T312_.2.2 = some r265_ := (congrArg (fun z9 : TT => z9.2.2) eT312_).trans i303_
          refine lv_goto (tgt := 205) hx hb dX4_readParts_139 rfl ?_
          have yy319_ : (T312_.1 1).toInt = z307_.toInt := congrArg Int32.toInt i314_
          have yy320_ : (T312_.1 2).toInt = (t_a.1 2).toInt := congrArg Int32.toInt i315_
          have yy321_ : (T312_.1 3).toInt = (t_a.1 3).toInt := congrArg Int32.toInt i316_
          have yy322_ : (T312_.1 4).toInt = (t_a.1 4).toInt := congrArg Int32.toInt i317_
          have o15 : ((σ.1 1).toInt = 0 ∨ (τ308_.1 1).toInt ≠ 0) := by omega
          have pr_ : PrOk κ a T312_ (τ308_.1 1).toInt := PrOk.some i318_ gu294_ (by by_cases h9 : (τ308_.1 1).toInt = 0; exact Or.inr (four (P := fun j => 0 ≤ (T312_.1 j).toInt ∧ (T312_.1 j).toInt ≤ (pI κ 1).toInt) ⟨by omega, by omega⟩ ⟨by omega, by omega⟩ ⟨by omega, by omega⟩ ⟨by omega, by omega⟩); exact Or.inl h9)
          rw [hQ]
          exact W.vret hx hb hr (fun t ht hW => ⟨⟨(T312_, τ308_), rfl, ⟨hτ308_, ⟨o15, pr_⟩⟩, wEn_of hP (hK.sub [] rfl) hD ht hW⟩, hS.F ht⟩) hS.2.2 dX4_readParts_205
      · refine lv_tableIn (tgt := 142) (off := 138) hx hb dX4_readParts_4 (by rw [t_sw]; decide) (by rw [t_sw]; decide) (by rw [t_sw]; decide) (by decide) ?_
        refine lv_aload_n hx hb dX4_readParts_142 rfl (lv_at hl 1 rfl) ?_
        refine lv_aload_n hx hb dX4_readParts_143 rfl (lv_at hl 0 rfl) ?_
        refine zy_i (va_runV (As := []) (rest := [.ref a]) ⟨hx, hb, hml, hown, hts⟩ (r_needStep l dC dI adK adV (ku κ a t_a) H.size σ  (hk t_a) hI ) (cwV 0 hts gd_g_readParts_124_r_needStep rfl rfl rfl dd_r_needStep ⟨Nat.le_of_ble_eq_true rfl, Nat.le_of_ble_eq_true rfl⟩) (preVr hP hK hD hE hZ hR hS hA (ci := 4) (q0 := 0) rfl rfl) rfl rfl hl.1 rfl (lv_room (Nat.le_of_ble_eq_true rfl)) dX4_readParts_144 ⟨Nat.le_of_ble_eq_true rfl, Nat.le_of_ble_eq_true rfl⟩) hD hS hA (fun z323_ τ324_ H locs hq hP hD hS => ?_)
        obtain ⟨hτ324_, q325_⟩ := hq
        have q325_ : ((σ.1 1).toInt = 0 ∨ (τ324_.1 1).toInt ≠ 0) ∧ 0 ≤ z323_.toInt ∧ z323_.toInt ≤ 11 ∧ ((τ324_.1 1).toInt ≠ 0 ∨ z323_.toInt < (pI κ 1).toInt) := q325_
        refine W.widen (k := 0) (n := 0) (Nat.le_of_ble_eq_true rfl) (Nat.le_of_ble_eq_true rfl) ?_
        obtain ⟨kn326_, hkn326_⟩ := rpl (κ := (ku κ a t_a)) (σ := τ324_) (a := a) ha kf_self
        have hD327_ := hD
        refine va_put (D := (dC, dI)) (ci := 9) (v := .int z323_) (ty := tyX9 3) (C := RX9) (T := TX9) (N := 11) hx hb hts hin9 tyX9 tyX9_ok nmX9 hown hK hP hD hS kn326_ hkn326_ rfl 3 (Nat.le_of_ble_eq_true rfl) (ho (.fieldLink RX4 204 "NearEnough$Step" "a" "I") (List.mem_of_getElem? (i := 1) rfl)) (fun _ h9 => h9) rfl (tyX9_ok 3 (Nat.le_of_ble_eq_true rfl)) rfl rfl (Nat.le_of_ble_eq_true rfl) dX4_readParts_147 (fun H locs hP hD hS => ?_)
        obtain ⟨T328_, eT328_⟩ : ∃ x9 : TT, x9 = (upd t_a.1 1 z323_, t_a.2.1, t_a.2.2) := ⟨_, rfl⟩
        have hP : va_P (dC, dI) vwCl (rW (ku κ a T328_) τ324_) H := by rw [show (rW (ku κ a T328_) τ324_) = _ from (rW_kw (e' := .inr (9, stV T328_)) hD327_ ha hkn326_).symm, eT328_]; exact hP
        have hD : va_D A (rW (ku κ a T328_) τ324_) := by rw [show (rW (ku κ a T328_) τ324_) = _ from (rW_kw (e' := .inr (9, stV T328_)) hD327_ ha hkn326_).symm, eT328_]; exact hD
        have i329_ : T328_.1 0 = (t_a.1 0) := (congrArg (fun z9 : TT => z9.1 0) eT328_).trans rfl
        have i330_ : T328_.1 1 = z323_ := congrArg (fun z9 : TT => z9.1 1) eT328_
        have i331_ : T328_.1 2 = (t_a.1 2) := (congrArg (fun z9 : TT => z9.1 2) eT328_).trans rfl
        have i332_ : T328_.1 3 = (t_a.1 3) := (congrArg (fun z9 : TT => z9.1 3) eT328_).trans rfl
        have i333_ : T328_.1 4 = (t_a.1 4) := (congrArg (fun z9 : TT => z9.1 4) eT328_).trans rfl
        have i334_ : T328_.2.2 = none := (congrArg (fun z9 : TT => z9.2.2) eT328_).trans hrn
        refine lv_aload_n hx hb dX4_readParts_150 rfl (lv_at hl 1 rfl) ?_
        refine lv_aload_n hx hb dX4_readParts_151 rfl (lv_at hl 0 rfl) ?_
        refine zy_i (va_runV (As := []) (rest := [.ref a]) ⟨hx, hb, hml, hown, hts⟩ (r_needStep l dC dI adK adV (ku κ a T328_) H.size τ324_  (hk T328_) hτ324_ ) (cwV 0 hts gd_g_readParts_124_r_needStep rfl rfl rfl dd_r_needStep ⟨Nat.le_of_ble_eq_true rfl, Nat.le_of_ble_eq_true rfl⟩) (preVr hP hK hD hE hZ hR hS hA (ci := 4) (q0 := 0) rfl rfl) rfl rfl hl.1 rfl (lv_room (Nat.le_of_ble_eq_true rfl)) dX4_readParts_152 ⟨Nat.le_of_ble_eq_true rfl, Nat.le_of_ble_eq_true rfl⟩) hD hS hA (fun z335_ τ336_ H locs hq hP hD hS => ?_)
        obtain ⟨hτ336_, q337_⟩ := hq
        have q337_ : ((τ324_.1 1).toInt = 0 ∨ (τ336_.1 1).toInt ≠ 0) ∧ 0 ≤ z335_.toInt ∧ z335_.toInt ≤ 11 ∧ ((τ336_.1 1).toInt ≠ 0 ∨ z335_.toInt < (pI κ 1).toInt) := q337_
        refine W.widen (k := 0) (n := 0) (Nat.le_of_ble_eq_true rfl) (Nat.le_of_ble_eq_true rfl) ?_
        obtain ⟨kn338_, hkn338_⟩ := rpl (κ := (ku κ a T328_)) (σ := τ336_) (a := a) ha kf_self
        have hD339_ := hD
        refine va_put (D := (dC, dI)) (ci := 9) (v := .int z335_) (ty := tyX9 4) (C := RX9) (T := TX9) (N := 11) hx hb hts hin9 tyX9 tyX9_ok nmX9 hown hK hP hD hS kn338_ hkn338_ rfl 4 (Nat.le_of_ble_eq_true rfl) (ho (.fieldLink RX4 219 "NearEnough$Step" "b" "I") (List.mem_of_getElem? (i := 2) rfl)) (fun _ h9 => h9) rfl (tyX9_ok 4 (Nat.le_of_ble_eq_true rfl)) rfl rfl (Nat.le_of_ble_eq_true rfl) dX4_readParts_155 (fun H locs hP hD hS => ?_)
        obtain ⟨T340_, eT340_⟩ : ∃ x9 : TT, x9 = (upd T328_.1 2 z335_, T328_.2.1, T328_.2.2) := ⟨_, rfl⟩
        have hP : va_P (dC, dI) vwCl (rW (ku κ a T340_) τ336_) H := by rw [show (rW (ku κ a T340_) τ336_) = _ from (rW_kw (e' := .inr (9, stV T340_)) hD339_ ha hkn338_).symm, eT340_]; exact hP
        have hD : va_D A (rW (ku κ a T340_) τ336_) := by rw [show (rW (ku κ a T340_) τ336_) = _ from (rW_kw (e' := .inr (9, stV T340_)) hD339_ ha hkn338_).symm, eT340_]; exact hD
        have i341_ : T340_.1 0 = (t_a.1 0) := (congrArg (fun z9 : TT => z9.1 0) eT340_).trans i329_
        have i342_ : T340_.1 1 = z323_ := (congrArg (fun z9 : TT => z9.1 1) eT340_).trans i330_
        have i343_ : T340_.1 2 = z335_ := congrArg (fun z9 : TT => z9.1 2) eT340_
        have i344_ : T340_.1 3 = (t_a.1 3) := (congrArg (fun z9 : TT => z9.1 3) eT340_).trans i332_
        have i345_ : T340_.1 4 = (t_a.1 4) := (congrArg (fun z9 : TT => z9.1 4) eT340_).trans i333_
        have i346_ : T340_.2.2 = none := (congrArg (fun z9 : TT => z9.2.2) eT340_).trans i334_
        refine lv_aload_n hx hb dX4_readParts_158 rfl (lv_at hl 0 rfl) ?_
        refine va_ldcS (tx := "if ") (q := adK 22) hx hb hown (hR (222, "if ", 22) (List.mem_of_getElem? (i := 22) rfl)) dX4_readParts_159 ?_
        refine zy_v (va_runV (As := [.ref (adK 22)]) (rest := []) ⟨hx, hb, hml, hown, hts⟩ (r_needWord l dC dI adK adV (ku κ a T340_) H.size τ336_ 22 (by decide) (hk T340_) hτ336_ ) (cwV 1 hts gd_g_readParts_102_r_needWord rfl rfl rfl dd_r_needWord ⟨Nat.le_of_ble_eq_true rfl, Nat.le_of_ble_eq_true rfl⟩) (preVr hP hK hD hE hZ hR hS hA (ci := 4) (q0 := 0) rfl rfl) rfl rfl hl.1 rfl (lv_room (Nat.le_of_ble_eq_true rfl)) dX4_readParts_161 ⟨Nat.le_of_ble_eq_true rfl, Nat.le_of_ble_eq_true rfl⟩) hD hS hA (fun τ348_ H locs hq hP hD hS => ?_)
        obtain ⟨hτ348_, q349_⟩ := hq
        have q349_ : ((τ336_.1 1).toInt = 0 ∨ (τ348_.1 1).toInt ≠ 0) := q349_
        refine W.widen (k := 0) (n := 0) (Nat.le_of_ble_eq_true rfl) (Nat.le_of_ble_eq_true rfl) ?_
        refine lv_aload_n hx hb dX4_readParts_164 rfl (lv_at hl 1 rfl) ?_
        refine lv_aload_n hx hb dX4_readParts_165 rfl (lv_at hl 0 rfl) ?_
        refine zy_i (va_runV (As := []) (rest := [.ref a]) ⟨hx, hb, hml, hown, hts⟩ (r_needStep l dC dI adK adV (ku κ a T340_) H.size τ348_  (hk T340_) hτ348_ ) (cwV 0 hts gd_g_readParts_124_r_needStep rfl rfl rfl dd_r_needStep ⟨Nat.le_of_ble_eq_true rfl, Nat.le_of_ble_eq_true rfl⟩) (preVr hP hK hD hE hZ hR hS hA (ci := 4) (q0 := 0) rfl rfl) rfl rfl hl.1 rfl (lv_room (Nat.le_of_ble_eq_true rfl)) dX4_readParts_166 ⟨Nat.le_of_ble_eq_true rfl, Nat.le_of_ble_eq_true rfl⟩) hD hS hA (fun z350_ τ351_ H locs hq hP hD hS => ?_)
        obtain ⟨hτ351_, q352_⟩ := hq
        have q352_ : ((τ348_.1 1).toInt = 0 ∨ (τ351_.1 1).toInt ≠ 0) ∧ 0 ≤ z350_.toInt ∧ z350_.toInt ≤ 11 ∧ ((τ351_.1 1).toInt ≠ 0 ∨ z350_.toInt < (pI κ 1).toInt) := q352_
        refine W.widen (k := 0) (n := 0) (Nat.le_of_ble_eq_true rfl) (Nat.le_of_ble_eq_true rfl) ?_
        obtain ⟨kn353_, hkn353_⟩ := rpl (κ := (ku κ a T340_)) (σ := τ351_) (a := a) ha kf_self
        have hD354_ := hD
        refine va_put (D := (dC, dI)) (ci := 9) (v := .int z350_) (ty := tyX9 5) (C := RX9) (T := TX9) (N := 11) hx hb hts hin9 tyX9 tyX9_ok nmX9 hown hK hP hD hS kn353_ hkn353_ rfl 5 (Nat.le_of_ble_eq_true rfl) (ho (.fieldLink RX4 224 "NearEnough$Step" "under" "I") (List.mem_of_getElem? (i := 6) rfl)) (fun _ h9 => h9) rfl (tyX9_ok 5 (Nat.le_of_ble_eq_true rfl)) rfl rfl (Nat.le_of_ble_eq_true rfl) dX4_readParts_169 (fun H locs hP hD hS => ?_)
        obtain ⟨T355_, eT355_⟩ : ∃ x9 : TT, x9 = (upd T340_.1 3 z350_, T340_.2.1, T340_.2.2) := ⟨_, rfl⟩
        have hP : va_P (dC, dI) vwCl (rW (ku κ a T355_) τ351_) H := by rw [show (rW (ku κ a T355_) τ351_) = _ from (rW_kw (e' := .inr (9, stV T355_)) hD354_ ha hkn353_).symm, eT355_]; exact hP
        have hD : va_D A (rW (ku κ a T355_) τ351_) := by rw [show (rW (ku κ a T355_) τ351_) = _ from (rW_kw (e' := .inr (9, stV T355_)) hD354_ ha hkn353_).symm, eT355_]; exact hD
        have i356_ : T355_.1 0 = (t_a.1 0) := (congrArg (fun z9 : TT => z9.1 0) eT355_).trans i341_
        have i357_ : T355_.1 1 = z323_ := (congrArg (fun z9 : TT => z9.1 1) eT355_).trans i342_
        have i358_ : T355_.1 2 = z335_ := (congrArg (fun z9 : TT => z9.1 2) eT355_).trans i343_
        have i359_ : T355_.1 3 = z350_ := congrArg (fun z9 : TT => z9.1 3) eT355_
        have i360_ : T355_.1 4 = (t_a.1 4) := (congrArg (fun z9 : TT => z9.1 4) eT355_).trans i345_
        have i361_ : T355_.2.2 = none := (congrArg (fun z9 : TT => z9.2.2) eT355_).trans i346_
        refine lv_aload_n hx hb dX4_readParts_172 rfl (lv_at hl 0 rfl) ?_
        refine va_ldcS (tx := "under ") (q := adK 23) hx hb hown (hR (227, "under ", 23) (List.mem_of_getElem? (i := 23) rfl)) dX4_readParts_173 ?_
        refine zy_v (va_runV (As := [.ref (adK 23)]) (rest := []) ⟨hx, hb, hml, hown, hts⟩ (r_needWord l dC dI adK adV (ku κ a T355_) H.size τ351_ 23 (by decide) (hk T355_) hτ351_ ) (cwV 1 hts gd_g_readParts_102_r_needWord rfl rfl rfl dd_r_needWord ⟨Nat.le_of_ble_eq_true rfl, Nat.le_of_ble_eq_true rfl⟩) (preVr hP hK hD hE hZ hR hS hA (ci := 4) (q0 := 0) rfl rfl) rfl rfl hl.1 rfl (lv_room (Nat.le_of_ble_eq_true rfl)) dX4_readParts_175 ⟨Nat.le_of_ble_eq_true rfl, Nat.le_of_ble_eq_true rfl⟩) hD hS hA (fun τ363_ H locs hq hP hD hS => ?_)
        obtain ⟨hτ363_, q364_⟩ := hq
        have q364_ : ((τ351_.1 1).toInt = 0 ∨ (τ363_.1 1).toInt ≠ 0) := q364_
        refine W.widen (k := 0) (n := 0) (Nat.le_of_ble_eq_true rfl) (Nat.le_of_ble_eq_true rfl) ?_
        refine lv_aload_n hx hb dX4_readParts_178 rfl (lv_at hl 1 rfl) ?_
        refine lv_aload_n hx hb dX4_readParts_179 rfl (lv_at hl 0 rfl) ?_
        refine zy_i (va_runV (As := []) (rest := [.ref a]) ⟨hx, hb, hml, hown, hts⟩ (r_needStep l dC dI adK adV (ku κ a T355_) H.size τ363_  (hk T355_) hτ363_ ) (cwV 0 hts gd_g_readParts_124_r_needStep rfl rfl rfl dd_r_needStep ⟨Nat.le_of_ble_eq_true rfl, Nat.le_of_ble_eq_true rfl⟩) (preVr hP hK hD hE hZ hR hS hA (ci := 4) (q0 := 0) rfl rfl) rfl rfl hl.1 rfl (lv_room (Nat.le_of_ble_eq_true rfl)) dX4_readParts_180 ⟨Nat.le_of_ble_eq_true rfl, Nat.le_of_ble_eq_true rfl⟩) hD hS hA (fun z365_ τ366_ H locs hq hP hD hS => ?_)
        obtain ⟨hτ366_, q367_⟩ := hq
        have q367_ : ((τ363_.1 1).toInt = 0 ∨ (τ366_.1 1).toInt ≠ 0) ∧ 0 ≤ z365_.toInt ∧ z365_.toInt ≤ 11 ∧ ((τ366_.1 1).toInt ≠ 0 ∨ z365_.toInt < (pI κ 1).toInt) := q367_
        refine W.widen (k := 0) (n := 0) (Nat.le_of_ble_eq_true rfl) (Nat.le_of_ble_eq_true rfl) ?_
        obtain ⟨kn368_, hkn368_⟩ := rpl (κ := (ku κ a T355_)) (σ := τ366_) (a := a) ha kf_self
        have hD369_ := hD
        refine va_put (D := (dC, dI)) (ci := 9) (v := .int z365_) (ty := tyX9 6) (C := RX9) (T := TX9) (N := 11) hx hb hts hin9 tyX9 tyX9_ok nmX9 hown hK hP hD hS kn368_ hkn368_ rfl 6 (Nat.le_of_ble_eq_true rfl) (ho (.fieldLink RX4 229 "NearEnough$Step" "other" "I") (List.mem_of_getElem? (i := 7) rfl)) (fun _ h9 => h9) rfl (tyX9_ok 6 (Nat.le_of_ble_eq_true rfl)) rfl rfl (Nat.le_of_ble_eq_true rfl) dX4_readParts_183 (fun H locs hP hD hS => ?_)
        obtain ⟨T370_, eT370_⟩ : ∃ x9 : TT, x9 = (upd T355_.1 4 z365_, T355_.2.1, T355_.2.2) := ⟨_, rfl⟩
        have hP : va_P (dC, dI) vwCl (rW (ku κ a T370_) τ366_) H := by rw [show (rW (ku κ a T370_) τ366_) = _ from (rW_kw (e' := .inr (9, stV T370_)) hD369_ ha hkn368_).symm, eT370_]; exact hP
        have hD : va_D A (rW (ku κ a T370_) τ366_) := by rw [show (rW (ku κ a T370_) τ366_) = _ from (rW_kw (e' := .inr (9, stV T370_)) hD369_ ha hkn368_).symm, eT370_]; exact hD
        have i371_ : T370_.1 0 = (t_a.1 0) := (congrArg (fun z9 : TT => z9.1 0) eT370_).trans i356_
        have i372_ : T370_.1 1 = z323_ := (congrArg (fun z9 : TT => z9.1 1) eT370_).trans i357_
        have i373_ : T370_.1 2 = z335_ := (congrArg (fun z9 : TT => z9.1 2) eT370_).trans i358_
        have i374_ : T370_.1 3 = z350_ := (congrArg (fun z9 : TT => z9.1 3) eT370_).trans i359_
        have i375_ : T370_.1 4 = z365_ := congrArg (fun z9 : TT => z9.1 4) eT370_
        have i376_ : T370_.2.2 = none := (congrArg (fun z9 : TT => z9.2.2) eT370_).trans i361_
        refine lv_goto (tgt := 205) hx hb dX4_readParts_186 rfl ?_
        have yy377_ : (T370_.1 1).toInt = z323_.toInt := congrArg Int32.toInt i372_
        have yy378_ : (T370_.1 2).toInt = z335_.toInt := congrArg Int32.toInt i373_
        have yy379_ : (T370_.1 3).toInt = z350_.toInt := congrArg Int32.toInt i374_
        have yy380_ : (T370_.1 4).toInt = z365_.toInt := congrArg Int32.toInt i375_
        have o16 : ((σ.1 1).toInt = 0 ∨ (τ366_.1 1).toInt ≠ 0) := by omega
        have pr_ : PrOk κ a T370_ (τ366_.1 1).toInt := PrOk.none i376_ (by by_cases h9 : (τ366_.1 1).toInt = 0; exact Or.inr ⟨four (P := fun j => 0 ≤ (T370_.1 j).toInt ∧ (T370_.1 j).toInt ≤ (pI κ 1).toInt) ⟨by omega, by omega⟩ ⟨by omega, by omega⟩ ⟨by omega, by omega⟩ ⟨by omega, by omega⟩, by omega, by omega⟩; exact Or.inl h9)
        rw [hQ]
        exact W.vret hx hb hr (fun t ht hW => ⟨⟨(T370_, τ366_), rfl, ⟨hτ366_, ⟨o16, pr_⟩⟩, wEn_of hP (hK.sub [] rfl) hD ht hW⟩, hS.F ht⟩) hS.2.2 dX4_readParts_205
def ow_g_makeSpan : List Cond := [.fieldLink RX4 200 "NearEnough$Step" "row" "LNearEnough$Row;", .fieldLink RX4 12 "NearEnough$Reader" "told" "LNearEnough$Program;", .fieldLink RX4 245 "NearEnough$Program" "steps" "[LNearEnough$Step;", .fieldLink RX4 204 "NearEnough$Step" "a" "I", .fieldLink RX4 219 "NearEnough$Step" "b" "I", .fieldLink RX4 193 "NearEnough$Step" "kind" "I", .fieldLink RX4 164 "NearEnough$Step" "low" "J", .methodLink RX4 262 Lib.MathLoose.min_long.x, .static Lib.MathLoose.min_long.x, .initialized "java/lang/Math", .code Lib.MathLoose.min_long.x Lib.MathLoose.min_long.code 4 (some .long), .fieldLink RX4 169 "NearEnough$Step" "high" "J", .methodLink RX4 268 Lib.MathLoose.max_long.x, .static Lib.MathLoose.max_long.x, .code Lib.MathLoose.max_long.x Lib.MathLoose.max_long.code 4 (some .long), .fieldLink RX4 237 "NearEnough$Row" "low" "I", .fieldLink RX4 239 "NearEnough$Row" "high" "I", .fieldLink RX4 232 "NearEnough$Row" "count" "I"]
def vs_g_makeSpan : List Cond := .code yX4_makeSpan cX4_makeSpan 5 none :: (ow_g_makeSpan ++ (([.methodLink RX4 241 yX9_spread, .instanceMethod yX9_spread, .selects RX9 yX9_spread yX9_spread, .initialized RX9] : List Cond) ++ (vs_g_spread ++ (([.methodLink RX4 249 yX8_leastProduct, .static yX8_leastProduct, .initialized yX8_leastProduct.cls] : List Cond) ++ (vs_k_leastP ++ (([.methodLink RX4 255 yX8_greatestProduct, .static yX8_greatestProduct, .initialized yX8_greatestProduct.cls] : List Cond) ++ (vs_k_greatP ++ (([.methodLink RX4 258 yX9_scaled, .instanceMethod yX9_scaled, .selects RX9 yX9_scaled yX9_scaled, .initialized RX9] : List Cond) ++ (vs_g_scaled ++ (wsX30 ++ (wsX40 ++ (wsX50 ++ (wsX90)))))))))))))
theorem vg_g_makeSpan : vs_g_makeSpan.all goodWord = true := by decide +kernel
theorem dd_g_makeSpan : yX4_makeSpan.cls = RX4 ∧ yX4_makeSpan.cls ≠ "java/lang/invoke/MethodHandle" ∧ yX4_makeSpan.cls ≠ "java/lang/invoke/VarHandle" ∧ (parseMethodDescriptor yX4_makeSpan.desc).map (fun d => d.parameters.length) = some 1 := by decide +kernel
def rm_g_makeSpan : Room := { frames := 2, cells := 0, slots := 0, locals := 51 }
theorem gd_g_makeSpan_241_g_spread : GoodIn vs_g_makeSpan (wsV RX4 241 RX9 yX9_spread vs_g_spread) := goodIn_app (goodIn_sub (fun w h => (List.mem_cons_of_mem _ (List.mem_append_right _ (List.mem_append_left _ h)))) (by decide +kernel)) (goodIn_sub (fun w h => (List.mem_cons_of_mem _ (List.mem_append_right _ (List.mem_append_right _ (List.mem_append_left _ h))))) vg_g_spread)
theorem gd_g_makeSpan_249_k_leastP : GoodIn vs_g_makeSpan (va_wsS RX4 249 yX8_leastProduct vs_k_leastP) := goodIn_app (goodIn_sub (fun w h => (List.mem_cons_of_mem _ (List.mem_append_right _ (List.mem_append_right _ (List.mem_append_right _ (List.mem_append_left _ h)))))) (by decide +kernel)) (goodIn_sub (fun w h => (List.mem_cons_of_mem _ (List.mem_append_right _ (List.mem_append_right _ (List.mem_append_right _ (List.mem_append_right _ (List.mem_append_left _ h))))))) vg_k_leastP)
theorem gd_g_makeSpan_255_k_greatP : GoodIn vs_g_makeSpan (va_wsS RX4 255 yX8_greatestProduct vs_k_greatP) := goodIn_app (goodIn_sub (fun w h => (List.mem_cons_of_mem _ (List.mem_append_right _ (List.mem_append_right _ (List.mem_append_right _ (List.mem_append_right _ (List.mem_append_right _ (List.mem_append_left _ h)))))))) (by decide +kernel)) (goodIn_sub (fun w h => (List.mem_cons_of_mem _ (List.mem_append_right _ (List.mem_append_right _ (List.mem_append_right _ (List.mem_append_right _ (List.mem_append_right _ (List.mem_append_right _ (List.mem_append_left _ h))))))))) vg_k_greatP)
theorem gd_g_makeSpan_258_g_scaled : GoodIn vs_g_makeSpan (wsV RX4 258 RX9 yX9_scaled vs_g_scaled) := goodIn_app (goodIn_sub (fun w h => (List.mem_cons_of_mem _ (List.mem_append_right _ (List.mem_append_right _ (List.mem_append_right _ (List.mem_append_right _ (List.mem_append_right _ (List.mem_append_right _ (List.mem_append_right _ (List.mem_append_left _ h)))))))))) (by decide +kernel)) (goodIn_sub (fun w h => (List.mem_cons_of_mem _ (List.mem_append_right _ (List.mem_append_right _ (List.mem_append_right _ (List.mem_append_right _ (List.mem_append_right _ (List.mem_append_right _ (List.mem_append_right _ (List.mem_append_right _ (List.mem_append_left _ h))))))))))) vg_g_scaled)
set_option maxHeartbeats 4000000 in
set_option maxRecDepth 100000 in
theorem g_makeSpan (l : Launch) (dC : Nat → ClassId) (dI : Nat → Nat → Nat) (adK adV : Nat → Nat) (κ : CE) (sz : Nat) (σ : MS) (a : Nat) (t_a : TT) (ha : a ∈ kL κ) (hk : ∀ t : TT, PInv (ku κ a t)) (hI : RInv σ) (hrw : ∀ r, t_a.2.2 = some r → ∃ u, r ≠ a ∧ IsRow κ r u) (hab : t_a.2.2 ≠ none ∨ ((t_a.1 1).toInt < (pI κ 1).toInt ∧ (t_a.1 2).toInt < (pI κ 1).toInt)) (ha0 : 0 ≤ (t_a.1 1).toInt ∧ 0 ≤ (t_a.1 2).toInt) : Met l yX4_makeSpan vs_g_makeSpan rm_g_makeSpan (va_Pc [.ref (kA κ 0), .ref a] (wSr dC dI adK adV (rW (ku κ a t_a) σ) (rT κ) sz)) (va_Qv (fun (u : TT × MS) => RInv u.2 ∧ (u.1.1 = t_a.1 ∧ u.1.2.2 = t_a.2.2 ∧ (u.2.1 1).toInt = (σ.1 1).toInt)) (fun (u : TT × MS) => wEn dC dI (va_A (rW (ku κ a t_a) σ) sz) (rW (ku κ a u.1) u.2) []) (va_A (rW (ku κ a t_a) σ) sz)) 0 0 (va_A (rW (ku κ a t_a) σ) sz) := by
  refine Met.ofW (cc := cX4_makeSpan) (maxL := 5) (ret := none) (by decide +kernel) rfl ?_
  intro p e s m args below meth c s₁ B hml hv
  obtain ⟨rfl, ⟨hsz, hP, hK, hD0, hE⟩, hZ, hR⟩ := hv
  have hx := B.exec
  have hb := B.bytes
  have hr := B.returns
  have hts := atoms_spec (ws := vs_g_makeSpan) B.pre
  have hown : s.vm.findClass RX4 = some m.cls := findClass_of_methodNamed B.named
  have hlocks := B.notSynchronized
  subst hsz
  have hD := hD0.self (sz := s.heap.size)
  generalize hAe : va_A (rW (ku κ a t_a) σ) s.heap.size = A at hD hZ ⊢
  have hA : ∀ q : Nat, s.heap.size ≤ q → A q := fun q h => by rw [← hAe]; exact Or.inr h
  have hl := lv_entry ([.ref (kA κ 0), .ref a]) (n := 5) (Nat.le_of_ble_eq_true rfl)
  rw [lg_entry_eq]
  generalize (lg_sl ([.ref (kA κ 0), .ref a]) ++ List.replicate (5 - (lg_sl ([.ref (kA κ 0), .ref a])).length) Slot.unset).toArray = ls at hl ⊢
  have hl : lv_has ls 5 [(0, .ref (kA κ 0)), (1, .ref a)] := hl
  have ho := fun w (h : w ∈ ow_g_makeSpan) => hts w (List.mem_cons_of_mem _ (List.mem_append_left _ h))
  have hin3 : ∀ w ∈ u_ws RX3 TX3 8, w ∈ vs_g_makeSpan := fun w h => (List.mem_cons_of_mem _ (List.mem_append_right _ (List.mem_append_right _ (List.mem_append_right _ (List.mem_append_right _ (List.mem_append_right _ (List.mem_append_right _ (List.mem_append_right _ (List.mem_append_right _ (List.mem_append_right _ (List.mem_append_left _ h)))))))))))
  have hin4 : ∀ w ∈ u_ws RX4 TX4 4, w ∈ vs_g_makeSpan := fun w h => (List.mem_cons_of_mem _ (List.mem_append_right _ (List.mem_append_right _ (List.mem_append_right _ (List.mem_append_right _ (List.mem_append_right _ (List.mem_append_right _ (List.mem_append_right _ (List.mem_append_right _ (List.mem_append_right _ (List.mem_append_right _ (List.mem_append_left _ h))))))))))))
  have hin5 : ∀ w ∈ u_ws RX5 TX5 5, w ∈ vs_g_makeSpan := fun w h => (List.mem_cons_of_mem _ (List.mem_append_right _ (List.mem_append_right _ (List.mem_append_right _ (List.mem_append_right _ (List.mem_append_right _ (List.mem_append_right _ (List.mem_append_right _ (List.mem_append_right _ (List.mem_append_right _ (List.mem_append_right _ (List.mem_append_right _ (List.mem_append_left _ h)))))))))))))
  have hin9 : ∀ w ∈ u_ws RX9 TX9 11, w ∈ vs_g_makeSpan := fun w h => (List.mem_cons_of_mem _ (List.mem_append_right _ (List.mem_append_right _ (List.mem_append_right _ (List.mem_append_right _ (List.mem_append_right _ (List.mem_append_right _ (List.mem_append_right _ (List.mem_append_right _ (List.mem_append_right _ (List.mem_append_right _ (List.mem_append_right _ (List.mem_append_right _ h)))))))))))))
  refine zQ (fun Q hQ => ?_)
  refine zH (A := A) (ws := (rW (ku κ a t_a) σ)) (fun H hP hS => ?_) hP
  have hk0 : 0 ≤ (pI κ 0).toInt ∧ (pI κ 0).toInt ≤ 2 := (hk t_a).1
  have hk1 : 0 ≤ (pI κ 1).toInt ∧ (pI κ 1).toInt ≤ 12 := (hk t_a).2.1
  have hk2 : 0 ≤ (pI κ 2).toInt ∧ (pI κ 2).toInt ≤ 4 := (hk t_a).2.2.1
  refine lv_aload_n hx hb dX4_makeSpan_0 rfl (lv_at hl 1 rfl) ?_
  obtain ⟨kn1_, hkn1_⟩ := rpl (κ := (ku κ a t_a)) (σ := σ) (a := a) ha kf_self
  refine va_get (D := (dC, dI)) (ci := 9) (v := va_rf t_a.2.2) (C := RX9) (T := TX9) (N := 11) hx hb hts hin9 hown hK hP kn1_ hkn1_ rfl 2 (Nat.le_of_ble_eq_true rfl) (ho (.fieldLink RX4 200 "NearEnough$Step" "row" "LNearEnough$Row;") (List.mem_of_getElem? (i := 0) rfl)) (fun _ h9 => h9) rfl dX4_makeSpan_1 ?_
  rcases er3_ : t_a.2.2 with _ | r2_
  · refine zv (v := .null) rfl ?_
    have hab_ : (t_a.1 1).toInt < (pI κ 1).toInt ∧ (t_a.1 2).toInt < (pI κ 1).toInt := by rcases hab with h9 | h9; exact absurd er3_ h9; exact h9
    refine lv_astore_nN (lv' := [(2, .null), (0, .ref (kA κ 0)), (1, .ref a)]) hx hb dX4_makeSpan_4 rfl hl (Nat.le_of_ble_eq_true rfl) rfl (fun ls hl => ?_)
    refine lv_aload_nN hx hb dX4_makeSpan_5 rfl (lv_at hl 0 rfl) ?_
    refine lv_ifnullN (tgt := 46) hx hb dX4_makeSpan_6 rfl ?_
    refine lv_aload_n hx hb dX4_makeSpan_46 rfl (lv_at hl 1 rfl) ?_
    refine va_get (D := (dC, dI)) (ci := 4) (v := .ref (kA κ 3)) (C := RX4) (T := TX4) (N := 4) hx hb hts hin4 hown hK hP 0 rfl rfl 1 (Nat.le_of_ble_eq_true rfl) (ho (.fieldLink RX4 12 "NearEnough$Reader" "told" "LNearEnough$Program;") (List.mem_of_getElem? (i := 1) rfl)) (fun _ h9 => h9) rfl dX4_makeSpan_47 ?_
    refine va_get (D := (dC, dI)) (ci := 3) (v := .ref (kA κ 5)) (C := RX3) (T := TX3) (N := 8) hx hb hts hin3 hown hK hP 3 rfl rfl 1 (Nat.le_of_ble_eq_true rfl) (ho (.fieldLink RX4 245 "NearEnough$Program" "steps" "[LNearEnough$Step;") (List.mem_of_getElem? (i := 2) rfl)) (fun _ h9 => h9) rfl dX4_makeSpan_50 ?_
    refine lv_aload_n hx hb dX4_makeSpan_53 rfl (lv_at hl 2 rfl) ?_
    obtain ⟨kn4_, hkn4_⟩ := rpl (κ := (ku κ a t_a)) (σ := σ) (a := a) ha kf_self
    refine va_get (D := (dC, dI)) (ci := 9) (v := .int (t_a.1 1)) (C := RX9) (T := TX9) (N := 11) hx hb hts hin9 hown hK hP kn4_ hkn4_ rfl 3 (Nat.le_of_ble_eq_true rfl) (ho (.fieldLink RX4 204 "NearEnough$Step" "a" "I") (List.mem_of_getElem? (i := 3) rfl)) (fun _ h9 => h9) rfl dX4_makeSpan_54 ?_
    have o1 : 0 ≤ (t_a.1 1).toInt := by omega
    have o2 : (t_a.1 1).toInt < ((12 : Nat) : Int) := by omega
    refine va_aldq hx hb hK hP 5 2 rfl rfl (ti_inx o1 o2) dX4_makeSpan_57 ?_
    have o3 : (t_a.1 1).toInt < (pI κ 1).toInt := by omega
    obtain ⟨a5_, t6_, ea7_, ga8_⟩ := (hk t_a).st (x := (t_a.1 1)) o1 o3
    refine zv (v := .ref a5_) (by rw [ea7_]; rfl) ?_
    refine lv_astore_n (lv' := [(3, .ref a5_), (2, .null), (0, .ref (kA κ 0)), (1, .ref a)]) hx hb dX4_makeSpan_58 rfl hl (Nat.le_of_ble_eq_true rfl) rfl (fun ls hl => ?_)
    refine lv_aload_n hx hb dX4_makeSpan_59 rfl (lv_at hl 2 rfl) ?_
    refine va_get (D := (dC, dI)) (ci := 4) (v := .ref (kA κ 3)) (C := RX4) (T := TX4) (N := 4) hx hb hts hin4 hown hK hP 0 rfl rfl 1 (Nat.le_of_ble_eq_true rfl) (ho (.fieldLink RX4 12 "NearEnough$Reader" "told" "LNearEnough$Program;") (List.mem_of_getElem? (i := 1) rfl)) (fun _ h9 => h9) rfl dX4_makeSpan_60 ?_
    refine va_get (D := (dC, dI)) (ci := 3) (v := .ref (kA κ 5)) (C := RX3) (T := TX3) (N := 8) hx hb hts hin3 hown hK hP 3 rfl rfl 1 (Nat.le_of_ble_eq_true rfl) (ho (.fieldLink RX4 245 "NearEnough$Program" "steps" "[LNearEnough$Step;") (List.mem_of_getElem? (i := 2) rfl)) (fun _ h9 => h9) rfl dX4_makeSpan_63 ?_
    refine lv_aload_n hx hb dX4_makeSpan_66 rfl (lv_at hl 3 rfl) ?_
    obtain ⟨kn9_, hkn9_⟩ := rpl (κ := (ku κ a t_a)) (σ := σ) (a := a) ha kf_self
    refine va_get (D := (dC, dI)) (ci := 9) (v := .int (t_a.1 2)) (C := RX9) (T := TX9) (N := 11) hx hb hts hin9 hown hK hP kn9_ hkn9_ rfl 4 (Nat.le_of_ble_eq_true rfl) (ho (.fieldLink RX4 219 "NearEnough$Step" "b" "I") (List.mem_of_getElem? (i := 4) rfl)) (fun _ h9 => h9) rfl dX4_makeSpan_67 ?_
    have o4 : 0 ≤ (t_a.1 2).toInt := by omega
    have o5 : (t_a.1 2).toInt < ((12 : Nat) : Int) := by omega
    refine va_aldq hx hb hK hP 5 2 rfl rfl (ti_inx o4 o5) dX4_makeSpan_70 ?_
    have o6 : (t_a.1 2).toInt < (pI κ 1).toInt := by omega
    obtain ⟨a10_, t11_, ea12_, ga13_⟩ := (hk t_a).st (x := (t_a.1 2)) o4 o6
    refine zv (v := .ref a10_) (by rw [ea12_]; rfl) ?_
    refine lv_astore (lv' := [(4, .ref a10_), (3, .ref a5_), (2, .null), (0, .ref (kA κ 0)), (1, .ref a)]) hx hb dX4_makeSpan_71 hl (Nat.le_of_ble_eq_true rfl) rfl (fun ls hl => ?_)
    refine lv_aload_n hx hb dX4_makeSpan_73 rfl (lv_at hl 4 rfl) ?_
    obtain ⟨kn14_, hkn14_⟩ := rpl (κ := (ku κ a t_a)) (σ := σ) (a := a) ha kf_self
    refine va_get (D := (dC, dI)) (ci := 9) (v := .int (t_a.1 0)) (C := RX9) (T := TX9) (N := 11) hx hb hts hin9 hown hK hP kn14_ hkn14_ rfl 0 (Nat.le_of_ble_eq_true rfl) (ho (.fieldLink RX4 193 "NearEnough$Step" "kind" "I") (List.mem_of_getElem? (i := 5) rfl)) (fun _ h9 => h9) rfl dX4_makeSpan_74 ?_
    by_cases c_lo : (t_a.1 0).toInt < 2
    · refine lv_tableOut (tgt := 234) hx hb dX4_makeSpan_77 (Or.inl c_lo) rfl ?_
      refine lv_aload_n hx hb dX4_makeSpan_234 rfl (lv_at hl 4 rfl) ?_
      refine lv_aload_n hx hb dX4_makeSpan_235 rfl (lv_at hl 1 rfl) ?_
      obtain ⟨kp15_, hkp15_⟩ := rpl (κ := (ku κ a t_a)) (σ := σ) ga8_.1 ga8_.2.1
      refine va_get (D := (dC, dI)) (ci := 9) (v := .long (t6_.2.1 1)) (C := RX9) (T := TX9) (N := 11) hx hb hts hin9 hown hK hP kp15_ hkp15_ rfl 9 (Nat.le_of_ble_eq_true rfl) (ho (.fieldLink RX4 164 "NearEnough$Step" "low" "J") (List.mem_of_getElem? (i := 6) rfl)) (fun _ h9 => h9) rfl dX4_makeSpan_236 ?_
      refine lv_aload hx hb dX4_makeSpan_239 (lv_at hl 0 rfl) ?_
      obtain ⟨kp16_, hkp16_⟩ := rpl (κ := (ku κ a t_a)) (σ := σ) ga13_.1 ga13_.2.1
      refine va_get (D := (dC, dI)) (ci := 9) (v := .long (t11_.2.1 1)) (C := RX9) (T := TX9) (N := 11) hx hb hts hin9 hown hK hP kp16_ hkp16_ rfl 9 (Nat.le_of_ble_eq_true rfl) (ho (.fieldLink RX4 164 "NearEnough$Step" "low" "J") (List.mem_of_getElem? (i := 6) rfl)) (fun _ h9 => h9) rfl dX4_makeSpan_241 ?_
      refine va_mmin_long hx hb (hml.trans hl.1.symm) hown (ho (.methodLink RX4 262 Lib.MathLoose.min_long.x) (List.mem_of_getElem? (i := 7) rfl)) (ho (.static Lib.MathLoose.min_long.x) (List.mem_of_getElem? (i := 8) rfl)) (ho (.initialized "java/lang/Math") (List.mem_of_getElem? (i := 9) rfl)) (ho (.code Lib.MathLoose.min_long.x Lib.MathLoose.min_long.code 4 (some .long)) (List.mem_of_getElem? (i := 10) rfl)) (Nat.le_of_ble_eq_true rfl) (Nat.le_of_ble_eq_true rfl) (Nat.le_of_ble_eq_true rfl) (Nat.le_of_ble_eq_true rfl) dX4_makeSpan_244 ?_
      refine lv_topl (fun y17_ ey17_ => ?_)
      refine lv_aload_n hx hb dX4_makeSpan_247 rfl (lv_at hl 1 rfl) ?_
      obtain ⟨kp18_, hkp18_⟩ := rpl (κ := (ku κ a t_a)) (σ := σ) ga8_.1 ga8_.2.1
      refine va_get (D := (dC, dI)) (ci := 9) (v := .long (t6_.2.1 2)) (C := RX9) (T := TX9) (N := 11) hx hb hts hin9 hown hK hP kp18_ hkp18_ rfl 10 (Nat.le_of_ble_eq_true rfl) (ho (.fieldLink RX4 169 "NearEnough$Step" "high" "J") (List.mem_of_getElem? (i := 11) rfl)) (fun _ h9 => h9) rfl dX4_makeSpan_248 ?_
      refine lv_aload hx hb dX4_makeSpan_251 (lv_at hl 0 rfl) ?_
      obtain ⟨kp19_, hkp19_⟩ := rpl (κ := (ku κ a t_a)) (σ := σ) ga13_.1 ga13_.2.1
      refine va_get (D := (dC, dI)) (ci := 9) (v := .long (t11_.2.1 2)) (C := RX9) (T := TX9) (N := 11) hx hb hts hin9 hown hK hP kp19_ hkp19_ rfl 10 (Nat.le_of_ble_eq_true rfl) (ho (.fieldLink RX4 169 "NearEnough$Step" "high" "J") (List.mem_of_getElem? (i := 11) rfl)) (fun _ h9 => h9) rfl dX4_makeSpan_253 ?_
      refine va_mmax_long hx hb (hml.trans hl.1.symm) hown (ho (.methodLink RX4 268 Lib.MathLoose.max_long.x) (List.mem_of_getElem? (i := 12) rfl)) (ho (.static Lib.MathLoose.max_long.x) (List.mem_of_getElem? (i := 13) rfl)) (ho (.initialized "java/lang/Math") (List.mem_of_getElem? (i := 9) rfl)) (ho (.code Lib.MathLoose.max_long.x Lib.MathLoose.max_long.code 4 (some .long)) (List.mem_of_getElem? (i := 14) rfl)) (Nat.le_of_ble_eq_true rfl) (Nat.le_of_ble_eq_true rfl) (Nat.le_of_ble_eq_true rfl) (Nat.le_of_ble_eq_true rfl) dX4_makeSpan_256 ?_
      refine lv_topl (fun y20_ ey20_ => ?_)
      obtain ⟨kn22_, hkn22_⟩ := rpl (κ := (ku κ a t_a)) (σ := σ) (a := a) ha kf_self
      refine zy_v (va_runV (As := [.long y17_, .long y20_]) (rest := []) ⟨hx, hb, hml, hown, hts⟩ (g_spread l dC dI adK adV κ H.size σ a t_a y17_ y20_ ha hk hI ) (cwV 2 hts gd_g_makeSpan_241_g_spread rfl rfl rfl dd_g_spread ⟨Nat.le_of_ble_eq_true rfl, Nat.le_of_ble_eq_true rfl⟩) (preVr hP hK hD hE hZ hR hS hA (ci := 9) (q0 := kn22_) rfl hkn22_) rfl rfl hl.1 rfl (lv_room (Nat.le_of_ble_eq_true rfl)) dX4_makeSpan_259 ⟨Nat.le_of_ble_eq_true rfl, Nat.le_of_ble_eq_true rfl⟩) hD hS hA (fun τ23_ H locs hq hP hD hS => ?_)
      obtain ⟨T25_, τ26_⟩ := τ23_
      obtain ⟨hτ26_, q24_⟩ := hq
      have hP : va_P (dC, dI) vwCl (rW (ku κ a T25_) τ26_) H := hP
      have hD : va_D A (rW (ku κ a T25_) τ26_) := hD
      have q24_ : T25_.1 = t_a.1 ∧ T25_.2.2 = t_a.2.2 ∧ τ26_ = σ := q24_
      refine W.widen (k := 0) (n := 0) (Nat.le_of_ble_eq_true rfl) (Nat.le_of_ble_eq_true rfl) ?_
      have fs_ : (τ26_.1 1).toInt = (σ.1 1).toInt := by rw [q24_.2.2]
      rw [hQ]
      exact W.vret hx hb hr (fun t ht hW => ⟨⟨(T25_, τ26_), rfl, ⟨hτ26_, ⟨q24_.1, q24_.2.1, fs_⟩⟩, wEn_of hP (hK.sub [] rfl) hD ht hW⟩, hS.F ht⟩) hS.2.2 dX4_makeSpan_262
    · by_cases c_hi : 5 < (t_a.1 0).toInt
      · refine lv_tableOut (tgt := 234) hx hb dX4_makeSpan_77 (Or.inr c_hi) rfl ?_
        refine lv_aload_n hx hb dX4_makeSpan_234 rfl (lv_at hl 4 rfl) ?_
        refine lv_aload_n hx hb dX4_makeSpan_235 rfl (lv_at hl 1 rfl) ?_
        obtain ⟨kp27_, hkp27_⟩ := rpl (κ := (ku κ a t_a)) (σ := σ) ga8_.1 ga8_.2.1
        refine va_get (D := (dC, dI)) (ci := 9) (v := .long (t6_.2.1 1)) (C := RX9) (T := TX9) (N := 11) hx hb hts hin9 hown hK hP kp27_ hkp27_ rfl 9 (Nat.le_of_ble_eq_true rfl) (ho (.fieldLink RX4 164 "NearEnough$Step" "low" "J") (List.mem_of_getElem? (i := 6) rfl)) (fun _ h9 => h9) rfl dX4_makeSpan_236 ?_
        refine lv_aload hx hb dX4_makeSpan_239 (lv_at hl 0 rfl) ?_
        obtain ⟨kp28_, hkp28_⟩ := rpl (κ := (ku κ a t_a)) (σ := σ) ga13_.1 ga13_.2.1
        refine va_get (D := (dC, dI)) (ci := 9) (v := .long (t11_.2.1 1)) (C := RX9) (T := TX9) (N := 11) hx hb hts hin9 hown hK hP kp28_ hkp28_ rfl 9 (Nat.le_of_ble_eq_true rfl) (ho (.fieldLink RX4 164 "NearEnough$Step" "low" "J") (List.mem_of_getElem? (i := 6) rfl)) (fun _ h9 => h9) rfl dX4_makeSpan_241 ?_
        refine va_mmin_long hx hb (hml.trans hl.1.symm) hown (ho (.methodLink RX4 262 Lib.MathLoose.min_long.x) (List.mem_of_getElem? (i := 7) rfl)) (ho (.static Lib.MathLoose.min_long.x) (List.mem_of_getElem? (i := 8) rfl)) (ho (.initialized "java/lang/Math") (List.mem_of_getElem? (i := 9) rfl)) (ho (.code Lib.MathLoose.min_long.x Lib.MathLoose.min_long.code 4 (some .long)) (List.mem_of_getElem? (i := 10) rfl)) (Nat.le_of_ble_eq_true rfl) (Nat.le_of_ble_eq_true rfl) (Nat.le_of_ble_eq_true rfl) (Nat.le_of_ble_eq_true rfl) dX4_makeSpan_244 ?_
        refine lv_topl (fun y29_ ey29_ => ?_)
        refine lv_aload_n hx hb dX4_makeSpan_247 rfl (lv_at hl 1 rfl) ?_
        obtain ⟨kp30_, hkp30_⟩ := rpl (κ := (ku κ a t_a)) (σ := σ) ga8_.1 ga8_.2.1
        refine va_get (D := (dC, dI)) (ci := 9) (v := .long (t6_.2.1 2)) (C := RX9) (T := TX9) (N := 11) hx hb hts hin9 hown hK hP kp30_ hkp30_ rfl 10 (Nat.le_of_ble_eq_true rfl) (ho (.fieldLink RX4 169 "NearEnough$Step" "high" "J") (List.mem_of_getElem? (i := 11) rfl)) (fun _ h9 => h9) rfl dX4_makeSpan_248 ?_
        refine lv_aload hx hb dX4_makeSpan_251 (lv_at hl 0 rfl) ?_
        obtain ⟨kp31_, hkp31_⟩ := rpl (κ := (ku κ a t_a)) (σ := σ) ga13_.1 ga13_.2.1
        refine va_get (D := (dC, dI)) (ci := 9) (v := .long (t11_.2.1 2)) (C := RX9) (T := TX9) (N := 11) hx hb hts hin9 hown hK hP kp31_ hkp31_ rfl 10 (Nat.le_of_ble_eq_true rfl) (ho (.fieldLink RX4 169 "NearEnough$Step" "high" "J") (List.mem_of_getElem? (i := 11) rfl)) (fun _ h9 => h9) rfl dX4_makeSpan_253 ?_
        refine va_mmax_long hx hb (hml.trans hl.1.symm) hown (ho (.methodLink RX4 268 Lib.MathLoose.max_long.x) (List.mem_of_getElem? (i := 12) rfl)) (ho (.static Lib.MathLoose.max_long.x) (List.mem_of_getElem? (i := 13) rfl)) (ho (.initialized "java/lang/Math") (List.mem_of_getElem? (i := 9) rfl)) (ho (.code Lib.MathLoose.max_long.x Lib.MathLoose.max_long.code 4 (some .long)) (List.mem_of_getElem? (i := 14) rfl)) (Nat.le_of_ble_eq_true rfl) (Nat.le_of_ble_eq_true rfl) (Nat.le_of_ble_eq_true rfl) (Nat.le_of_ble_eq_true rfl) dX4_makeSpan_256 ?_
        refine lv_topl (fun y32_ ey32_ => ?_)
        obtain ⟨kn34_, hkn34_⟩ := rpl (κ := (ku κ a t_a)) (σ := σ) (a := a) ha kf_self
        refine zy_v (va_runV (As := [.long y29_, .long y32_]) (rest := []) ⟨hx, hb, hml, hown, hts⟩ (g_spread l dC dI adK adV κ H.size σ a t_a y29_ y32_ ha hk hI ) (cwV 2 hts gd_g_makeSpan_241_g_spread rfl rfl rfl dd_g_spread ⟨Nat.le_of_ble_eq_true rfl, Nat.le_of_ble_eq_true rfl⟩) (preVr hP hK hD hE hZ hR hS hA (ci := 9) (q0 := kn34_) rfl hkn34_) rfl rfl hl.1 rfl (lv_room (Nat.le_of_ble_eq_true rfl)) dX4_makeSpan_259 ⟨Nat.le_of_ble_eq_true rfl, Nat.le_of_ble_eq_true rfl⟩) hD hS hA (fun τ35_ H locs hq hP hD hS => ?_)
        obtain ⟨T37_, τ38_⟩ := τ35_
        obtain ⟨hτ38_, q36_⟩ := hq
        have hP : va_P (dC, dI) vwCl (rW (ku κ a T37_) τ38_) H := hP
        have hD : va_D A (rW (ku κ a T37_) τ38_) := hD
        have q36_ : T37_.1 = t_a.1 ∧ T37_.2.2 = t_a.2.2 ∧ τ38_ = σ := q36_
        refine W.widen (k := 0) (n := 0) (Nat.le_of_ble_eq_true rfl) (Nat.le_of_ble_eq_true rfl) ?_
        have fs_ : (τ38_.1 1).toInt = (σ.1 1).toInt := by rw [q36_.2.2]
        rw [hQ]
        exact W.vret hx hb hr (fun t ht hW => ⟨⟨(T37_, τ38_), rfl, ⟨hτ38_, ⟨q36_.1, q36_.2.1, fs_⟩⟩, wEn_of hP (hK.sub [] rfl) hD ht hW⟩, hS.F ht⟩) hS.2.2 dX4_makeSpan_262
      · rcases (show (t_a.1 0).toInt = 2 ∨ (t_a.1 0).toInt = 3 ∨ (t_a.1 0).toInt = 4 ∨ (t_a.1 0).toInt = 5 by omega) with t_sw | t_sw | t_sw | t_sw
        · refine lv_tableIn (tgt := 108) (off := 31) hx hb dX4_makeSpan_77 (by rw [t_sw]; decide) (by rw [t_sw]; decide) (by rw [t_sw]; decide) (by decide) ?_
          refine lv_aload_n hx hb dX4_makeSpan_108 rfl (lv_at hl 4 rfl) ?_
          refine lv_aload_n hx hb dX4_makeSpan_109 rfl (lv_at hl 1 rfl) ?_
          obtain ⟨kp39_, hkp39_⟩ := rpl (κ := (ku κ a t_a)) (σ := σ) ga8_.1 ga8_.2.1
          refine va_get (D := (dC, dI)) (ci := 9) (v := .long (t6_.2.1 1)) (C := RX9) (T := TX9) (N := 11) hx hb hts hin9 hown hK hP kp39_ hkp39_ rfl 9 (Nat.le_of_ble_eq_true rfl) (ho (.fieldLink RX4 164 "NearEnough$Step" "low" "J") (List.mem_of_getElem? (i := 6) rfl)) (fun _ h9 => h9) rfl dX4_makeSpan_110 ?_
          refine lv_aload hx hb dX4_makeSpan_113 (lv_at hl 0 rfl) ?_
          obtain ⟨kp40_, hkp40_⟩ := rpl (κ := (ku κ a t_a)) (σ := σ) ga13_.1 ga13_.2.1
          refine va_get (D := (dC, dI)) (ci := 9) (v := .long (t11_.2.1 1)) (C := RX9) (T := TX9) (N := 11) hx hb hts hin9 hown hK hP kp40_ hkp40_ rfl 9 (Nat.le_of_ble_eq_true rfl) (ho (.fieldLink RX4 164 "NearEnough$Step" "low" "J") (List.mem_of_getElem? (i := 6) rfl)) (fun _ h9 => h9) rfl dX4_makeSpan_115 ?_
          refine lv_ladd hx hb dX4_makeSpan_118 ?_
          refine lv_topl (fun y41_ ey41_ => ?_)
          refine lv_aload_n hx hb dX4_makeSpan_119 rfl (lv_at hl 1 rfl) ?_
          obtain ⟨kp42_, hkp42_⟩ := rpl (κ := (ku κ a t_a)) (σ := σ) ga8_.1 ga8_.2.1
          refine va_get (D := (dC, dI)) (ci := 9) (v := .long (t6_.2.1 2)) (C := RX9) (T := TX9) (N := 11) hx hb hts hin9 hown hK hP kp42_ hkp42_ rfl 10 (Nat.le_of_ble_eq_true rfl) (ho (.fieldLink RX4 169 "NearEnough$Step" "high" "J") (List.mem_of_getElem? (i := 11) rfl)) (fun _ h9 => h9) rfl dX4_makeSpan_120 ?_
          refine lv_aload hx hb dX4_makeSpan_123 (lv_at hl 0 rfl) ?_
          obtain ⟨kp43_, hkp43_⟩ := rpl (κ := (ku κ a t_a)) (σ := σ) ga13_.1 ga13_.2.1
          refine va_get (D := (dC, dI)) (ci := 9) (v := .long (t11_.2.1 2)) (C := RX9) (T := TX9) (N := 11) hx hb hts hin9 hown hK hP kp43_ hkp43_ rfl 10 (Nat.le_of_ble_eq_true rfl) (ho (.fieldLink RX4 169 "NearEnough$Step" "high" "J") (List.mem_of_getElem? (i := 11) rfl)) (fun _ h9 => h9) rfl dX4_makeSpan_125 ?_
          refine lv_ladd hx hb dX4_makeSpan_128 ?_
          refine lv_topl (fun y44_ ey44_ => ?_)
          obtain ⟨kn46_, hkn46_⟩ := rpl (κ := (ku κ a t_a)) (σ := σ) (a := a) ha kf_self
          refine zy_v (va_runV (As := [.long y41_, .long y44_]) (rest := []) ⟨hx, hb, hml, hown, hts⟩ (g_spread l dC dI adK adV κ H.size σ a t_a y41_ y44_ ha hk hI ) (cwV 2 hts gd_g_makeSpan_241_g_spread rfl rfl rfl dd_g_spread ⟨Nat.le_of_ble_eq_true rfl, Nat.le_of_ble_eq_true rfl⟩) (preVr hP hK hD hE hZ hR hS hA (ci := 9) (q0 := kn46_) rfl hkn46_) rfl rfl hl.1 rfl (lv_room (Nat.le_of_ble_eq_true rfl)) dX4_makeSpan_129 ⟨Nat.le_of_ble_eq_true rfl, Nat.le_of_ble_eq_true rfl⟩) hD hS hA (fun τ47_ H locs hq hP hD hS => ?_)
          obtain ⟨T49_, τ50_⟩ := τ47_
          obtain ⟨hτ50_, q48_⟩ := hq
          have hP : va_P (dC, dI) vwCl (rW (ku κ a T49_) τ50_) H := hP
          have hD : va_D A (rW (ku κ a T49_) τ50_) := hD
          have q48_ : T49_.1 = t_a.1 ∧ T49_.2.2 = t_a.2.2 ∧ τ50_ = σ := q48_
          refine W.widen (k := 0) (n := 0) (Nat.le_of_ble_eq_true rfl) (Nat.le_of_ble_eq_true rfl) ?_
          refine lv_goto (tgt := 262) hx hb dX4_makeSpan_132 rfl ?_
          have fs_ : (τ50_.1 1).toInt = (σ.1 1).toInt := by rw [q48_.2.2]
          rw [hQ]
          exact W.vret hx hb hr (fun t ht hW => ⟨⟨(T49_, τ50_), rfl, ⟨hτ50_, ⟨q48_.1, q48_.2.1, fs_⟩⟩, wEn_of hP (hK.sub [] rfl) hD ht hW⟩, hS.F ht⟩) hS.2.2 dX4_makeSpan_262
        · refine lv_tableIn (tgt := 135) (off := 58) hx hb dX4_makeSpan_77 (by rw [t_sw]; decide) (by rw [t_sw]; decide) (by rw [t_sw]; decide) (by decide) ?_
          refine lv_aload_n hx hb dX4_makeSpan_135 rfl (lv_at hl 4 rfl) ?_
          refine lv_aload_n hx hb dX4_makeSpan_136 rfl (lv_at hl 1 rfl) ?_
          obtain ⟨kp51_, hkp51_⟩ := rpl (κ := (ku κ a t_a)) (σ := σ) ga8_.1 ga8_.2.1
          refine va_get (D := (dC, dI)) (ci := 9) (v := .long (t6_.2.1 1)) (C := RX9) (T := TX9) (N := 11) hx hb hts hin9 hown hK hP kp51_ hkp51_ rfl 9 (Nat.le_of_ble_eq_true rfl) (ho (.fieldLink RX4 164 "NearEnough$Step" "low" "J") (List.mem_of_getElem? (i := 6) rfl)) (fun _ h9 => h9) rfl dX4_makeSpan_137 ?_
          refine lv_aload hx hb dX4_makeSpan_140 (lv_at hl 0 rfl) ?_
          obtain ⟨kp52_, hkp52_⟩ := rpl (κ := (ku κ a t_a)) (σ := σ) ga13_.1 ga13_.2.1
          refine va_get (D := (dC, dI)) (ci := 9) (v := .long (t11_.2.1 2)) (C := RX9) (T := TX9) (N := 11) hx hb hts hin9 hown hK hP kp52_ hkp52_ rfl 10 (Nat.le_of_ble_eq_true rfl) (ho (.fieldLink RX4 169 "NearEnough$Step" "high" "J") (List.mem_of_getElem? (i := 11) rfl)) (fun _ h9 => h9) rfl dX4_makeSpan_142 ?_
          refine lv_lsub hx hb dX4_makeSpan_145 ?_
          refine lv_topl (fun y53_ ey53_ => ?_)
          refine lv_aload_n hx hb dX4_makeSpan_146 rfl (lv_at hl 1 rfl) ?_
          obtain ⟨kp54_, hkp54_⟩ := rpl (κ := (ku κ a t_a)) (σ := σ) ga8_.1 ga8_.2.1
          refine va_get (D := (dC, dI)) (ci := 9) (v := .long (t6_.2.1 2)) (C := RX9) (T := TX9) (N := 11) hx hb hts hin9 hown hK hP kp54_ hkp54_ rfl 10 (Nat.le_of_ble_eq_true rfl) (ho (.fieldLink RX4 169 "NearEnough$Step" "high" "J") (List.mem_of_getElem? (i := 11) rfl)) (fun _ h9 => h9) rfl dX4_makeSpan_147 ?_
          refine lv_aload hx hb dX4_makeSpan_150 (lv_at hl 0 rfl) ?_
          obtain ⟨kp55_, hkp55_⟩ := rpl (κ := (ku κ a t_a)) (σ := σ) ga13_.1 ga13_.2.1
          refine va_get (D := (dC, dI)) (ci := 9) (v := .long (t11_.2.1 1)) (C := RX9) (T := TX9) (N := 11) hx hb hts hin9 hown hK hP kp55_ hkp55_ rfl 9 (Nat.le_of_ble_eq_true rfl) (ho (.fieldLink RX4 164 "NearEnough$Step" "low" "J") (List.mem_of_getElem? (i := 6) rfl)) (fun _ h9 => h9) rfl dX4_makeSpan_152 ?_
          refine lv_lsub hx hb dX4_makeSpan_155 ?_
          refine lv_topl (fun y56_ ey56_ => ?_)
          obtain ⟨kn58_, hkn58_⟩ := rpl (κ := (ku κ a t_a)) (σ := σ) (a := a) ha kf_self
          refine zy_v (va_runV (As := [.long y53_, .long y56_]) (rest := []) ⟨hx, hb, hml, hown, hts⟩ (g_spread l dC dI adK adV κ H.size σ a t_a y53_ y56_ ha hk hI ) (cwV 2 hts gd_g_makeSpan_241_g_spread rfl rfl rfl dd_g_spread ⟨Nat.le_of_ble_eq_true rfl, Nat.le_of_ble_eq_true rfl⟩) (preVr hP hK hD hE hZ hR hS hA (ci := 9) (q0 := kn58_) rfl hkn58_) rfl rfl hl.1 rfl (lv_room (Nat.le_of_ble_eq_true rfl)) dX4_makeSpan_156 ⟨Nat.le_of_ble_eq_true rfl, Nat.le_of_ble_eq_true rfl⟩) hD hS hA (fun τ59_ H locs hq hP hD hS => ?_)
          obtain ⟨T61_, τ62_⟩ := τ59_
          obtain ⟨hτ62_, q60_⟩ := hq
          have hP : va_P (dC, dI) vwCl (rW (ku κ a T61_) τ62_) H := hP
          have hD : va_D A (rW (ku κ a T61_) τ62_) := hD
          have q60_ : T61_.1 = t_a.1 ∧ T61_.2.2 = t_a.2.2 ∧ τ62_ = σ := q60_
          refine W.widen (k := 0) (n := 0) (Nat.le_of_ble_eq_true rfl) (Nat.le_of_ble_eq_true rfl) ?_
          refine lv_goto (tgt := 262) hx hb dX4_makeSpan_159 rfl ?_
          have fs_ : (τ62_.1 1).toInt = (σ.1 1).toInt := by rw [q60_.2.2]
          rw [hQ]
          exact W.vret hx hb hr (fun t ht hW => ⟨⟨(T61_, τ62_), rfl, ⟨hτ62_, ⟨q60_.1, q60_.2.1, fs_⟩⟩, wEn_of hP (hK.sub [] rfl) hD ht hW⟩, hS.F ht⟩) hS.2.2 dX4_makeSpan_262
        · refine lv_tableIn (tgt := 162) (off := 85) hx hb dX4_makeSpan_77 (by rw [t_sw]; decide) (by rw [t_sw]; decide) (by rw [t_sw]; decide) (by decide) ?_
          refine lv_aload_n hx hb dX4_makeSpan_162 rfl (lv_at hl 4 rfl) ?_
          refine lv_aload_n hx hb dX4_makeSpan_163 rfl (lv_at hl 1 rfl) ?_
          obtain ⟨kp63_, hkp63_⟩ := rpl (κ := (ku κ a t_a)) (σ := σ) ga8_.1 ga8_.2.1
          refine va_get (D := (dC, dI)) (ci := 9) (v := .long (t6_.2.1 1)) (C := RX9) (T := TX9) (N := 11) hx hb hts hin9 hown hK hP kp63_ hkp63_ rfl 9 (Nat.le_of_ble_eq_true rfl) (ho (.fieldLink RX4 164 "NearEnough$Step" "low" "J") (List.mem_of_getElem? (i := 6) rfl)) (fun _ h9 => h9) rfl dX4_makeSpan_164 ?_
          refine lv_aload_n hx hb dX4_makeSpan_167 rfl (lv_at hl 1 rfl) ?_
          obtain ⟨kp64_, hkp64_⟩ := rpl (κ := (ku κ a t_a)) (σ := σ) ga8_.1 ga8_.2.1
          refine va_get (D := (dC, dI)) (ci := 9) (v := .long (t6_.2.1 2)) (C := RX9) (T := TX9) (N := 11) hx hb hts hin9 hown hK hP kp64_ hkp64_ rfl 10 (Nat.le_of_ble_eq_true rfl) (ho (.fieldLink RX4 169 "NearEnough$Step" "high" "J") (List.mem_of_getElem? (i := 11) rfl)) (fun _ h9 => h9) rfl dX4_makeSpan_168 ?_
          refine lv_aload hx hb dX4_makeSpan_171 (lv_at hl 0 rfl) ?_
          obtain ⟨kp65_, hkp65_⟩ := rpl (κ := (ku κ a t_a)) (σ := σ) ga13_.1 ga13_.2.1
          refine va_get (D := (dC, dI)) (ci := 9) (v := .long (t11_.2.1 1)) (C := RX9) (T := TX9) (N := 11) hx hb hts hin9 hown hK hP kp65_ hkp65_ rfl 9 (Nat.le_of_ble_eq_true rfl) (ho (.fieldLink RX4 164 "NearEnough$Step" "low" "J") (List.mem_of_getElem? (i := 6) rfl)) (fun _ h9 => h9) rfl dX4_makeSpan_173 ?_
          refine lv_aload hx hb dX4_makeSpan_176 (lv_at hl 0 rfl) ?_
          obtain ⟨kp66_, hkp66_⟩ := rpl (κ := (ku κ a t_a)) (σ := σ) ga13_.1 ga13_.2.1
          refine va_get (D := (dC, dI)) (ci := 9) (v := .long (t11_.2.1 2)) (C := RX9) (T := TX9) (N := 11) hx hb hts hin9 hown hK hP kp66_ hkp66_ rfl 10 (Nat.le_of_ble_eq_true rfl) (ho (.fieldLink RX4 169 "NearEnough$Step" "high" "J") (List.mem_of_getElem? (i := 11) rfl)) (fun _ h9 => h9) rfl dX4_makeSpan_178 ?_
          refine zs_l (va_runS (As := [.long (t6_.2.1 1), .long (t6_.2.1 2), .long (t11_.2.1 1), .long (t11_.2.1 2)]) (rest := [.ref a]) ⟨hx, hb, hml, hown, hts⟩ (k_leastP l dC dI (t6_.2.1 1) (t6_.2.1 2) (t11_.2.1 1) (t11_.2.1 2)  H.size) (va_cwS 4 hts gd_g_makeSpan_249_k_leastP rfl rfl rfl dd_k_leastP ⟨Nat.le_of_ble_eq_true rfl, Nat.le_of_ble_eq_true rfl⟩) (preS (A := A) empP (hK.sub (tys' := []) [] rfl) empD hE.x) rfl rfl hl.1 rfl (lv_room (Nat.le_of_ble_eq_true rfl)) dX4_makeSpan_181 ⟨Nat.le_of_ble_eq_true rfl, Nat.le_of_ble_eq_true rfl⟩) hP hD hS hA (fun y67_ H locs hq hP hD hS => ?_)
          have q68_ : True := hq
          refine W.widen (k := 0) (n := 0) (Nat.le_of_ble_eq_true rfl) (Nat.le_of_ble_eq_true rfl) ?_
          refine lv_aload_n hx hb dX4_makeSpan_184 rfl (lv_at hl 1 rfl) ?_
          obtain ⟨kp69_, hkp69_⟩ := rpl (κ := (ku κ a t_a)) (σ := σ) ga8_.1 ga8_.2.1
          refine va_get (D := (dC, dI)) (ci := 9) (v := .long (t6_.2.1 1)) (C := RX9) (T := TX9) (N := 11) hx hb hts hin9 hown hK hP kp69_ hkp69_ rfl 9 (Nat.le_of_ble_eq_true rfl) (ho (.fieldLink RX4 164 "NearEnough$Step" "low" "J") (List.mem_of_getElem? (i := 6) rfl)) (fun _ h9 => h9) rfl dX4_makeSpan_185 ?_
          refine lv_aload_n hx hb dX4_makeSpan_188 rfl (lv_at hl 1 rfl) ?_
          obtain ⟨kp70_, hkp70_⟩ := rpl (κ := (ku κ a t_a)) (σ := σ) ga8_.1 ga8_.2.1
          refine va_get (D := (dC, dI)) (ci := 9) (v := .long (t6_.2.1 2)) (C := RX9) (T := TX9) (N := 11) hx hb hts hin9 hown hK hP kp70_ hkp70_ rfl 10 (Nat.le_of_ble_eq_true rfl) (ho (.fieldLink RX4 169 "NearEnough$Step" "high" "J") (List.mem_of_getElem? (i := 11) rfl)) (fun _ h9 => h9) rfl dX4_makeSpan_189 ?_
          refine lv_aload hx hb dX4_makeSpan_192 (lv_at hl 0 rfl) ?_
          obtain ⟨kp71_, hkp71_⟩ := rpl (κ := (ku κ a t_a)) (σ := σ) ga13_.1 ga13_.2.1
          refine va_get (D := (dC, dI)) (ci := 9) (v := .long (t11_.2.1 1)) (C := RX9) (T := TX9) (N := 11) hx hb hts hin9 hown hK hP kp71_ hkp71_ rfl 9 (Nat.le_of_ble_eq_true rfl) (ho (.fieldLink RX4 164 "NearEnough$Step" "low" "J") (List.mem_of_getElem? (i := 6) rfl)) (fun _ h9 => h9) rfl dX4_makeSpan_194 ?_
          refine lv_aload hx hb dX4_makeSpan_197 (lv_at hl 0 rfl) ?_
          obtain ⟨kp72_, hkp72_⟩ := rpl (κ := (ku κ a t_a)) (σ := σ) ga13_.1 ga13_.2.1
          refine va_get (D := (dC, dI)) (ci := 9) (v := .long (t11_.2.1 2)) (C := RX9) (T := TX9) (N := 11) hx hb hts hin9 hown hK hP kp72_ hkp72_ rfl 10 (Nat.le_of_ble_eq_true rfl) (ho (.fieldLink RX4 169 "NearEnough$Step" "high" "J") (List.mem_of_getElem? (i := 11) rfl)) (fun _ h9 => h9) rfl dX4_makeSpan_199 ?_
          refine zs_l (va_runS (As := [.long (t6_.2.1 1), .long (t6_.2.1 2), .long (t11_.2.1 1), .long (t11_.2.1 2)]) (rest := [.long y67_, .ref a]) ⟨hx, hb, hml, hown, hts⟩ (k_greatP l dC dI (t6_.2.1 1) (t6_.2.1 2) (t11_.2.1 1) (t11_.2.1 2)  H.size) (va_cwS 4 hts gd_g_makeSpan_255_k_greatP rfl rfl rfl dd_k_greatP ⟨Nat.le_of_ble_eq_true rfl, Nat.le_of_ble_eq_true rfl⟩) (preS (A := A) empP (hK.sub (tys' := []) [] rfl) empD hE.x) rfl rfl hl.1 rfl (lv_room (Nat.le_of_ble_eq_true rfl)) dX4_makeSpan_202 ⟨Nat.le_of_ble_eq_true rfl, Nat.le_of_ble_eq_true rfl⟩) hP hD hS hA (fun y73_ H locs hq hP hD hS => ?_)
          have q74_ : True := hq
          refine W.widen (k := 0) (n := 0) (Nat.le_of_ble_eq_true rfl) (Nat.le_of_ble_eq_true rfl) ?_
          obtain ⟨kn76_, hkn76_⟩ := rpl (κ := (ku κ a t_a)) (σ := σ) (a := a) ha kf_self
          refine zy_v (va_runV (As := [.long y67_, .long y73_]) (rest := []) ⟨hx, hb, hml, hown, hts⟩ (g_spread l dC dI adK adV κ H.size σ a t_a y67_ y73_ ha hk hI ) (cwV 2 hts gd_g_makeSpan_241_g_spread rfl rfl rfl dd_g_spread ⟨Nat.le_of_ble_eq_true rfl, Nat.le_of_ble_eq_true rfl⟩) (preVr hP hK hD hE hZ hR hS hA (ci := 9) (q0 := kn76_) rfl hkn76_) rfl rfl hl.1 rfl (lv_room (Nat.le_of_ble_eq_true rfl)) dX4_makeSpan_205 ⟨Nat.le_of_ble_eq_true rfl, Nat.le_of_ble_eq_true rfl⟩) hD hS hA (fun τ77_ H locs hq hP hD hS => ?_)
          obtain ⟨T79_, τ80_⟩ := τ77_
          obtain ⟨hτ80_, q78_⟩ := hq
          have hP : va_P (dC, dI) vwCl (rW (ku κ a T79_) τ80_) H := hP
          have hD : va_D A (rW (ku κ a T79_) τ80_) := hD
          have q78_ : T79_.1 = t_a.1 ∧ T79_.2.2 = t_a.2.2 ∧ τ80_ = σ := q78_
          refine W.widen (k := 0) (n := 0) (Nat.le_of_ble_eq_true rfl) (Nat.le_of_ble_eq_true rfl) ?_
          refine lv_goto (tgt := 262) hx hb dX4_makeSpan_208 rfl ?_
          have fs_ : (τ80_.1 1).toInt = (σ.1 1).toInt := by rw [q78_.2.2]
          rw [hQ]
          exact W.vret hx hb hr (fun t ht hW => ⟨⟨(T79_, τ80_), rfl, ⟨hτ80_, ⟨q78_.1, q78_.2.1, fs_⟩⟩, wEn_of hP (hK.sub [] rfl) hD ht hW⟩, hS.F ht⟩) hS.2.2 dX4_makeSpan_262
        · refine lv_tableIn (tgt := 211) (off := 134) hx hb dX4_makeSpan_77 (by rw [t_sw]; decide) (by rw [t_sw]; decide) (by rw [t_sw]; decide) (by decide) ?_
          refine lv_aload_n hx hb dX4_makeSpan_211 rfl (lv_at hl 4 rfl) ?_
          refine lv_aload_n hx hb dX4_makeSpan_212 rfl (lv_at hl 4 rfl) ?_
          refine lv_aload_n hx hb dX4_makeSpan_213 rfl (lv_at hl 1 rfl) ?_
          obtain ⟨kp81_, hkp81_⟩ := rpl (κ := (ku κ a t_a)) (σ := σ) ga8_.1 ga8_.2.1
          refine va_get (D := (dC, dI)) (ci := 9) (v := .long (t6_.2.1 1)) (C := RX9) (T := TX9) (N := 11) hx hb hts hin9 hown hK hP kp81_ hkp81_ rfl 9 (Nat.le_of_ble_eq_true rfl) (ho (.fieldLink RX4 164 "NearEnough$Step" "low" "J") (List.mem_of_getElem? (i := 6) rfl)) (fun _ h9 => h9) rfl dX4_makeSpan_214 ?_
          obtain ⟨kn83_, hkn83_⟩ := rpl (κ := (ku κ a t_a)) (σ := σ) (a := a) ha kf_self
          refine zy_l (va_runV (As := [.long (t6_.2.1 1)]) (rest := [.ref a]) ⟨hx, hb, hml, hown, hts⟩ (g_scaled l dC dI adK adV κ H.size σ a t_a (t6_.2.1 1) ha hk hI ) (cwV 1 hts gd_g_makeSpan_258_g_scaled rfl rfl rfl dd_g_scaled ⟨Nat.le_of_ble_eq_true rfl, Nat.le_of_ble_eq_true rfl⟩) (preVr hP hK hD hE hZ hR hS hA (ci := 9) (q0 := kn83_) rfl hkn83_) rfl rfl hl.1 rfl (lv_room (Nat.le_of_ble_eq_true rfl)) dX4_makeSpan_217 ⟨Nat.le_of_ble_eq_true rfl, Nat.le_of_ble_eq_true rfl⟩) hD hS hA (fun y82_ τ84_ H locs hq hP hD hS => ?_)
          obtain ⟨hτ84_, q85_⟩ := hq
          rw [hτ84_] at hP hD
          have hP : va_P (dC, dI) vwCl (rW (ku κ a t_a) σ) H := hP
          have hD : va_D A (rW (ku κ a t_a) σ) := hD
          refine W.widen (k := 0) (n := 0) (Nat.le_of_ble_eq_true rfl) (Nat.le_of_ble_eq_true rfl) ?_
          refine lv_aload_n hx hb dX4_makeSpan_220 rfl (lv_at hl 4 rfl) ?_
          refine lv_aload_n hx hb dX4_makeSpan_221 rfl (lv_at hl 1 rfl) ?_
          obtain ⟨kp86_, hkp86_⟩ := rpl (κ := (ku κ a t_a)) (σ := σ) ga8_.1 ga8_.2.1
          refine va_get (D := (dC, dI)) (ci := 9) (v := .long (t6_.2.1 2)) (C := RX9) (T := TX9) (N := 11) hx hb hts hin9 hown hK hP kp86_ hkp86_ rfl 10 (Nat.le_of_ble_eq_true rfl) (ho (.fieldLink RX4 169 "NearEnough$Step" "high" "J") (List.mem_of_getElem? (i := 11) rfl)) (fun _ h9 => h9) rfl dX4_makeSpan_222 ?_
          obtain ⟨kn88_, hkn88_⟩ := rpl (κ := (ku κ a t_a)) (σ := σ) (a := a) ha kf_self
          refine zy_l (va_runV (As := [.long (t6_.2.1 2)]) (rest := [.long y82_, .ref a]) ⟨hx, hb, hml, hown, hts⟩ (g_scaled l dC dI adK adV κ H.size σ a t_a (t6_.2.1 2) ha hk hI ) (cwV 1 hts gd_g_makeSpan_258_g_scaled rfl rfl rfl dd_g_scaled ⟨Nat.le_of_ble_eq_true rfl, Nat.le_of_ble_eq_true rfl⟩) (preVr hP hK hD hE hZ hR hS hA (ci := 9) (q0 := kn88_) rfl hkn88_) rfl rfl hl.1 rfl (lv_room (Nat.le_of_ble_eq_true rfl)) dX4_makeSpan_225 ⟨Nat.le_of_ble_eq_true rfl, Nat.le_of_ble_eq_true rfl⟩) hD hS hA (fun y87_ τ89_ H locs hq hP hD hS => ?_)
          obtain ⟨hτ89_, q90_⟩ := hq
          rw [hτ89_] at hP hD
          have hP : va_P (dC, dI) vwCl (rW (ku κ a t_a) σ) H := hP
          have hD : va_D A (rW (ku κ a t_a) σ) := hD
          refine W.widen (k := 0) (n := 0) (Nat.le_of_ble_eq_true rfl) (Nat.le_of_ble_eq_true rfl) ?_
          obtain ⟨kn92_, hkn92_⟩ := rpl (κ := (ku κ a t_a)) (σ := σ) (a := a) ha kf_self
          refine zy_v (va_runV (As := [.long y82_, .long y87_]) (rest := []) ⟨hx, hb, hml, hown, hts⟩ (g_spread l dC dI adK adV κ H.size σ a t_a y82_ y87_ ha hk hI ) (cwV 2 hts gd_g_makeSpan_241_g_spread rfl rfl rfl dd_g_spread ⟨Nat.le_of_ble_eq_true rfl, Nat.le_of_ble_eq_true rfl⟩) (preVr hP hK hD hE hZ hR hS hA (ci := 9) (q0 := kn92_) rfl hkn92_) rfl rfl hl.1 rfl (lv_room (Nat.le_of_ble_eq_true rfl)) dX4_makeSpan_228 ⟨Nat.le_of_ble_eq_true rfl, Nat.le_of_ble_eq_true rfl⟩) hD hS hA (fun τ93_ H locs hq hP hD hS => ?_)
          obtain ⟨T95_, τ96_⟩ := τ93_
          obtain ⟨hτ96_, q94_⟩ := hq
          have hP : va_P (dC, dI) vwCl (rW (ku κ a T95_) τ96_) H := hP
          have hD : va_D A (rW (ku κ a T95_) τ96_) := hD
          have q94_ : T95_.1 = t_a.1 ∧ T95_.2.2 = t_a.2.2 ∧ τ96_ = σ := q94_
          refine W.widen (k := 0) (n := 0) (Nat.le_of_ble_eq_true rfl) (Nat.le_of_ble_eq_true rfl) ?_
          refine lv_goto (tgt := 262) hx hb dX4_makeSpan_231 rfl ?_
          have fs_ : (τ96_.1 1).toInt = (σ.1 1).toInt := by rw [q94_.2.2]
          rw [hQ]
          exact W.vret hx hb hr (fun t ht hW => ⟨⟨(T95_, τ96_), rfl, ⟨hτ96_, ⟨q94_.1, q94_.2.1, fs_⟩⟩, wEn_of hP (hK.sub [] rfl) hD ht hW⟩, hS.F ht⟩) hS.2.2 dX4_makeSpan_262
  · refine zv (v := .ref r2_) rfl ?_
    obtain ⟨u97_, hnu97_, hru97_⟩ := hrw r2_ er3_
    have gu97_ : IsRow (ku κ a t_a) r2_ u97_ := IsRow.up hru97_ hnu97_
    refine lv_astore_n (lv' := [(2, .ref r2_), (0, .ref (kA κ 0)), (1, .ref a)]) hx hb dX4_makeSpan_4 rfl hl (Nat.le_of_ble_eq_true rfl) rfl (fun ls hl => ?_)
    refine lv_aload_n hx hb dX4_makeSpan_5 rfl (lv_at hl 0 rfl) ?_
    refine lv_ifnull hx hb dX4_makeSpan_6 ?_
    refine lv_aload_n hx hb dX4_makeSpan_9 rfl (lv_at hl 2 rfl) ?_
    obtain ⟨kn98_, hkn98_⟩ := rpl (κ := (ku κ a t_a)) (σ := σ) (a := a) ha kf_self
    refine va_get (D := (dC, dI)) (ci := 9) (v := .int (t_a.1 0)) (C := RX9) (T := TX9) (N := 11) hx hb hts hin9 hown hK hP kn98_ hkn98_ rfl 0 (Nat.le_of_ble_eq_true rfl) (ho (.fieldLink RX4 193 "NearEnough$Step" "kind" "I") (List.mem_of_getElem? (i := 5) rfl)) (fun _ h9 => h9) rfl dX4_makeSpan_10 ?_
    refine lv_if_ne (tgt := 23) hx hb dX4_makeSpan_13 rfl (fun c99_ => ?_) (fun c99_ => ?_)
    · have tc99_ := (show (t_a.1 0).toInt ≠ 0 from ti_ne rfl rg_11 c99_)
      refine lv_iconst (v := 1) hx hb dX4_makeSpan_23 rg_6 ?_
      refine lv_istore_n (lv' := [(3, .int 1), (2, .ref r2_), (0, .ref (kA κ 0)), (1, .ref a)]) hx hb dX4_makeSpan_24 rfl hl (Nat.le_of_ble_eq_true rfl) rfl (fun ls hl => ?_)
      refine lv_aload_n hx hb dX4_makeSpan_25 rfl (lv_at hl 3 rfl) ?_
      refine lv_iload_n hx hb dX4_makeSpan_26 rfl (lv_at hl 0 rfl) ?_
      refine lv_i2l hx hb dX4_makeSpan_27 rfl ?_
      refine lv_topl (fun y100_ ey100_ => ?_)
      refine lv_aload_n hx hb dX4_makeSpan_28 rfl (lv_at hl 1 rfl) ?_
      obtain ⟨kp101_, hkp101_⟩ := rpl (κ := (ku κ a t_a)) (σ := σ) gu97_.1 gu97_.2.1
      refine va_get (D := (dC, dI)) (ci := 5) (v := .int (u97_.1 1)) (C := RX5) (T := TX5) (N := 5) hx hb hts hin5 hown hK hP kp101_ hkp101_ rfl 2 (Nat.le_of_ble_eq_true rfl) (ho (.fieldLink RX4 237 "NearEnough$Row" "low" "I") (List.mem_of_getElem? (i := 15) rfl)) (fun _ h9 => h9) rfl dX4_makeSpan_29 ?_
      refine lv_i2l hx hb dX4_makeSpan_32 rfl ?_
      refine lv_topl (fun y102_ ey102_ => ?_)
      refine lv_lmul hx hb dX4_makeSpan_33 ?_
      refine lv_topl (fun y103_ ey103_ => ?_)
      refine lv_iload_n hx hb dX4_makeSpan_34 rfl (lv_at hl 0 rfl) ?_
      refine lv_i2l hx hb dX4_makeSpan_35 rfl ?_
      refine lv_topl (fun y104_ ey104_ => ?_)
      refine lv_aload_n hx hb dX4_makeSpan_36 rfl (lv_at hl 1 rfl) ?_
      obtain ⟨kp105_, hkp105_⟩ := rpl (κ := (ku κ a t_a)) (σ := σ) gu97_.1 gu97_.2.1
      refine va_get (D := (dC, dI)) (ci := 5) (v := .int (u97_.1 2)) (C := RX5) (T := TX5) (N := 5) hx hb hts hin5 hown hK hP kp105_ hkp105_ rfl 3 (Nat.le_of_ble_eq_true rfl) (ho (.fieldLink RX4 239 "NearEnough$Row" "high" "I") (List.mem_of_getElem? (i := 16) rfl)) (fun _ h9 => h9) rfl dX4_makeSpan_37 ?_
      refine lv_i2l hx hb dX4_makeSpan_40 rfl ?_
      refine lv_topl (fun y106_ ey106_ => ?_)
      refine lv_lmul hx hb dX4_makeSpan_41 ?_
      refine lv_topl (fun y107_ ey107_ => ?_)
      obtain ⟨kn109_, hkn109_⟩ := rpl (κ := (ku κ a t_a)) (σ := σ) (a := a) ha kf_self
      refine zy_v (va_runV (As := [.long y103_, .long y107_]) (rest := []) ⟨hx, hb, hml, hown, hts⟩ (g_spread l dC dI adK adV κ H.size σ a t_a y103_ y107_ ha hk hI ) (cwV 2 hts gd_g_makeSpan_241_g_spread rfl rfl rfl dd_g_spread ⟨Nat.le_of_ble_eq_true rfl, Nat.le_of_ble_eq_true rfl⟩) (preVr hP hK hD hE hZ hR hS hA (ci := 9) (q0 := kn109_) rfl hkn109_) rfl rfl hl.1 rfl (lv_room (Nat.le_of_ble_eq_true rfl)) dX4_makeSpan_42 ⟨Nat.le_of_ble_eq_true rfl, Nat.le_of_ble_eq_true rfl⟩) hD hS hA (fun τ110_ H locs hq hP hD hS => ?_)
      obtain ⟨T112_, τ113_⟩ := τ110_
      obtain ⟨hτ113_, q111_⟩ := hq
      have hP : va_P (dC, dI) vwCl (rW (ku κ a T112_) τ113_) H := hP
      have hD : va_D A (rW (ku κ a T112_) τ113_) := hD
      have q111_ : T112_.1 = t_a.1 ∧ T112_.2.2 = t_a.2.2 ∧ τ113_ = σ := q111_
      refine W.widen (k := 0) (n := 0) (Nat.le_of_ble_eq_true rfl) (Nat.le_of_ble_eq_true rfl) ?_
      have fs_ : (τ113_.1 1).toInt = (σ.1 1).toInt := by rw [q111_.2.2]
      rw [hQ]
      exact W.vret hx hb hr (fun t ht hW => ⟨⟨(T112_, τ113_), rfl, ⟨hτ113_, ⟨q111_.1, q111_.2.1, fs_⟩⟩, wEn_of hP (hK.sub [] rfl) hD ht hW⟩, hS.F ht⟩) hS.2.2 dX4_makeSpan_45
    · have tc99_ := (show (t_a.1 0).toInt = 0 from ti_eq rfl rg_11 c99_)
      refine lv_aload_n hx hb dX4_makeSpan_16 rfl (lv_at hl 0 rfl) ?_
      have bb114_ : 1 ≤ (u97_.1 0).toInt ∧ (u97_.1 0).toInt ≤ 6 ∧ 0 ≤ (u97_.1 3).toInt ∧ (u97_.1 3).toInt + (u97_.1 0).toInt ≤ 12 := gu97_.2.2
      obtain ⟨kp115_, hkp115_⟩ := rpl (κ := (ku κ a t_a)) (σ := σ) gu97_.1 gu97_.2.1
      refine va_get (D := (dC, dI)) (ci := 5) (v := .int (u97_.1 0)) (C := RX5) (T := TX5) (N := 5) hx hb hts hin5 hown hK hP kp115_ hkp115_ rfl 1 (Nat.le_of_ble_eq_true rfl) (ho (.fieldLink RX4 232 "NearEnough$Row" "count" "I") (List.mem_of_getElem? (i := 17) rfl)) (fun _ h9 => h9) rfl dX4_makeSpan_17 ?_
      refine lv_goto (tgt := 24) hx hb dX4_makeSpan_20 rfl ?_
      refine lv_istore_n (lv' := [(3, .int (u97_.1 0)), (2, .ref r2_), (0, .ref (kA κ 0)), (1, .ref a)]) hx hb dX4_makeSpan_24 rfl hl (Nat.le_of_ble_eq_true rfl) rfl (fun ls hl => ?_)
      refine lv_aload_n hx hb dX4_makeSpan_25 rfl (lv_at hl 3 rfl) ?_
      refine lv_iload_n hx hb dX4_makeSpan_26 rfl (lv_at hl 0 rfl) ?_
      refine lv_i2l hx hb dX4_makeSpan_27 rfl ?_
      refine lv_topl (fun y116_ ey116_ => ?_)
      refine lv_aload_n hx hb dX4_makeSpan_28 rfl (lv_at hl 1 rfl) ?_
      obtain ⟨kp117_, hkp117_⟩ := rpl (κ := (ku κ a t_a)) (σ := σ) gu97_.1 gu97_.2.1
      refine va_get (D := (dC, dI)) (ci := 5) (v := .int (u97_.1 1)) (C := RX5) (T := TX5) (N := 5) hx hb hts hin5 hown hK hP kp117_ hkp117_ rfl 2 (Nat.le_of_ble_eq_true rfl) (ho (.fieldLink RX4 237 "NearEnough$Row" "low" "I") (List.mem_of_getElem? (i := 15) rfl)) (fun _ h9 => h9) rfl dX4_makeSpan_29 ?_
      refine lv_i2l hx hb dX4_makeSpan_32 rfl ?_
      refine lv_topl (fun y118_ ey118_ => ?_)
      refine lv_lmul hx hb dX4_makeSpan_33 ?_
      refine lv_topl (fun y119_ ey119_ => ?_)
      refine lv_iload_n hx hb dX4_makeSpan_34 rfl (lv_at hl 0 rfl) ?_
      refine lv_i2l hx hb dX4_makeSpan_35 rfl ?_
      refine lv_topl (fun y120_ ey120_ => ?_)
      refine lv_aload_n hx hb dX4_makeSpan_36 rfl (lv_at hl 1 rfl) ?_
      obtain ⟨kp121_, hkp121_⟩ := rpl (κ := (ku κ a t_a)) (σ := σ) gu97_.1 gu97_.2.1
      refine va_get (D := (dC, dI)) (ci := 5) (v := .int (u97_.1 2)) (C := RX5) (T := TX5) (N := 5) hx hb hts hin5 hown hK hP kp121_ hkp121_ rfl 3 (Nat.le_of_ble_eq_true rfl) (ho (.fieldLink RX4 239 "NearEnough$Row" "high" "I") (List.mem_of_getElem? (i := 16) rfl)) (fun _ h9 => h9) rfl dX4_makeSpan_37 ?_
      refine lv_i2l hx hb dX4_makeSpan_40 rfl ?_
      refine lv_topl (fun y122_ ey122_ => ?_)
      refine lv_lmul hx hb dX4_makeSpan_41 ?_
      refine lv_topl (fun y123_ ey123_ => ?_)
      obtain ⟨kn125_, hkn125_⟩ := rpl (κ := (ku κ a t_a)) (σ := σ) (a := a) ha kf_self
      refine zy_v (va_runV (As := [.long y119_, .long y123_]) (rest := []) ⟨hx, hb, hml, hown, hts⟩ (g_spread l dC dI adK adV κ H.size σ a t_a y119_ y123_ ha hk hI ) (cwV 2 hts gd_g_makeSpan_241_g_spread rfl rfl rfl dd_g_spread ⟨Nat.le_of_ble_eq_true rfl, Nat.le_of_ble_eq_true rfl⟩) (preVr hP hK hD hE hZ hR hS hA (ci := 9) (q0 := kn125_) rfl hkn125_) rfl rfl hl.1 rfl (lv_room (Nat.le_of_ble_eq_true rfl)) dX4_makeSpan_42 ⟨Nat.le_of_ble_eq_true rfl, Nat.le_of_ble_eq_true rfl⟩) hD hS hA (fun τ126_ H locs hq hP hD hS => ?_)
      obtain ⟨T128_, τ129_⟩ := τ126_
      obtain ⟨hτ129_, q127_⟩ := hq
      have hP : va_P (dC, dI) vwCl (rW (ku κ a T128_) τ129_) H := hP
      have hD : va_D A (rW (ku κ a T128_) τ129_) := hD
      have q127_ : T128_.1 = t_a.1 ∧ T128_.2.2 = t_a.2.2 ∧ τ129_ = σ := q127_
      refine W.widen (k := 0) (n := 0) (Nat.le_of_ble_eq_true rfl) (Nat.le_of_ble_eq_true rfl) ?_
      have fs_ : (τ129_.1 1).toInt = (σ.1 1).toInt := by rw [q127_.2.2]
      rw [hQ]
      exact W.vret hx hb hr (fun t ht hW => ⟨⟨(T128_, τ129_), rfl, ⟨hτ129_, ⟨q127_.1, q127_.2.1, fs_⟩⟩, wEn_of hP (hK.sub [] rfl) hD ht hW⟩, hS.F ht⟩) hS.2.2 dX4_makeSpan_45
