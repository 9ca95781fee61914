theorem dX12_lowOver_0 : decode cX12_lowOver 0 = .ok (.aload_n 0, 1) := by decide +kernel
theorem dX12_lowOver_1 : decode cX12_lowOver 1 = .ok (.getfield 70, 3) := by decide +kernel
theorem dX12_lowOver_4 : decode cX12_lowOver 4 = .ok (.aload_n 0, 1) := by decide +kernel
theorem dX12_lowOver_5 : decode cX12_lowOver 5 = .ok (.iload_n 1, 1) := by decide +kernel
theorem dX12_lowOver_6 : decode cX12_lowOver 6 = .ok (.invokevirtual 331, 3) := by decide +kernel
theorem dX12_lowOver_9 : decode cX12_lowOver 9 = .ok (.laload, 1) := by decide +kernel
theorem dX12_lowOver_10 : decode cX12_lowOver 10 = .ok (.aload_n 0, 1) := by decide +kernel
theorem dX12_lowOver_11 : decode cX12_lowOver 11 = .ok (.getfield 107, 3) := by decide +kernel
theorem dX12_lowOver_14 : decode cX12_lowOver 14 = .ok (.iload_n 1, 1) := by decide +kernel
theorem dX12_lowOver_15 : decode cX12_lowOver 15 = .ok (.laload, 1) := by decide +kernel
theorem dX12_lowOver_16 : decode cX12_lowOver 16 = .ok (.ladd, 1) := by decide +kernel
theorem dX12_lowOver_17 : decode cX12_lowOver 17 = .ok (.aload_n 0, 1) := by decide +kernel
theorem dX12_lowOver_18 : decode cX12_lowOver 18 = .ok (.getfield 73, 3) := by decide +kernel
theorem dX12_lowOver_21 : decode cX12_lowOver 21 = .ok (.aload_n 0, 1) := by decide +kernel
theorem dX12_lowOver_22 : decode cX12_lowOver 22 = .ok (.iload_n 2, 1) := by decide +kernel
theorem dX12_lowOver_23 : decode cX12_lowOver 23 = .ok (.invokevirtual 331, 3) := by decide +kernel
theorem dX12_lowOver_26 : decode cX12_lowOver 26 = .ok (.laload, 1) := by decide +kernel
theorem dX12_lowOver_27 : decode cX12_lowOver 27 = .ok (.lsub, 1) := by decide +kernel
theorem dX12_lowOver_28 : decode cX12_lowOver 28 = .ok (.lreturn, 1) := by decide +kernel
theorem dX12_highOver_0 : decode cX12_highOver 0 = .ok (.aload_n 0, 1) := by decide +kernel
theorem dX12_highOver_1 : decode cX12_highOver 1 = .ok (.getfield 73, 3) := by decide +kernel
theorem dX12_highOver_4 : decode cX12_highOver 4 = .ok (.aload_n 0, 1) := by decide +kernel
theorem dX12_highOver_5 : decode cX12_highOver 5 = .ok (.iload_n 1, 1) := by decide +kernel
theorem dX12_highOver_6 : decode cX12_highOver 6 = .ok (.invokevirtual 331, 3) := by decide +kernel
theorem dX12_highOver_9 : decode cX12_highOver 9 = .ok (.laload, 1) := by decide +kernel
theorem dX12_highOver_10 : decode cX12_highOver 10 = .ok (.aload_n 0, 1) := by decide +kernel
theorem dX12_highOver_11 : decode cX12_highOver 11 = .ok (.getfield 110, 3) := by decide +kernel
theorem dX12_highOver_14 : decode cX12_highOver 14 = .ok (.iload_n 1, 1) := by decide +kernel
theorem dX12_highOver_15 : decode cX12_highOver 15 = .ok (.laload, 1) := by decide +kernel
theorem dX12_highOver_16 : decode cX12_highOver 16 = .ok (.ladd, 1) := by decide +kernel
theorem dX12_highOver_17 : decode cX12_highOver 17 = .ok (.aload_n 0, 1) := by decide +kernel
theorem dX12_highOver_18 : decode cX12_highOver 18 = .ok (.getfield 70, 3) := by decide +kernel
theorem dX12_highOver_21 : decode cX12_highOver 21 = .ok (.aload_n 0, 1) := by decide +kernel
theorem dX12_highOver_22 : decode cX12_highOver 22 = .ok (.iload_n 2, 1) := by decide +kernel
theorem dX12_highOver_23 : decode cX12_highOver 23 = .ok (.invokevirtual 331, 3) := by decide +kernel
theorem dX12_highOver_26 : decode cX12_highOver 26 = .ok (.laload, 1) := by decide +kernel
theorem dX12_highOver_27 : decode cX12_highOver 27 = .ok (.lsub, 1) := by decide +kernel
theorem dX12_highOver_28 : decode cX12_highOver 28 = .ok (.lreturn, 1) := by decide +kernel
theorem dX12_spreadTimes_0 : decode cX12_spreadTimes 0 = .ok (.aload_n 0, 1) := by decide +kernel
theorem dX12_spreadTimes_1 : decode cX12_spreadTimes 1 = .ok (.getfield 70, 3) := by decide +kernel
theorem dX12_spreadTimes_4 : decode cX12_spreadTimes 4 = .ok (.aload_n 0, 1) := by decide +kernel
theorem dX12_spreadTimes_5 : decode cX12_spreadTimes 5 = .ok (.iload_n 1, 1) := by decide +kernel
theorem dX12_spreadTimes_6 : decode cX12_spreadTimes 6 = .ok (.invokevirtual 331, 3) := by decide +kernel
theorem dX12_spreadTimes_9 : decode cX12_spreadTimes 9 = .ok (.laload, 1) := by decide +kernel
theorem dX12_spreadTimes_10 : decode cX12_spreadTimes 10 = .ok (.lstore_n 3, 1) := by decide +kernel
theorem dX12_spreadTimes_11 : decode cX12_spreadTimes 11 = .ok (.aload_n 0, 1) := by decide +kernel
theorem dX12_spreadTimes_12 : decode cX12_spreadTimes 12 = .ok (.getfield 73, 3) := by decide +kernel
theorem dX12_spreadTimes_15 : decode cX12_spreadTimes 15 = .ok (.aload_n 0, 1) := by decide +kernel
theorem dX12_spreadTimes_16 : decode cX12_spreadTimes 16 = .ok (.iload_n 1, 1) := by decide +kernel
theorem dX12_spreadTimes_17 : decode cX12_spreadTimes 17 = .ok (.invokevirtual 331, 3) := by decide +kernel
theorem dX12_spreadTimes_20 : decode cX12_spreadTimes 20 = .ok (.laload, 1) := by decide +kernel
theorem dX12_spreadTimes_21 : decode cX12_spreadTimes 21 = .ok (.lstore 5, 2) := by decide +kernel
theorem dX12_spreadTimes_23 : decode cX12_spreadTimes 23 = .ok (.aload_n 0, 1) := by decide +kernel
theorem dX12_spreadTimes_24 : decode cX12_spreadTimes 24 = .ok (.getfield 70, 3) := by decide +kernel
theorem dX12_spreadTimes_27 : decode cX12_spreadTimes 27 = .ok (.aload_n 0, 1) := by decide +kernel
theorem dX12_spreadTimes_28 : decode cX12_spreadTimes 28 = .ok (.iload_n 2, 1) := by decide +kernel
theorem dX12_spreadTimes_29 : decode cX12_spreadTimes 29 = .ok (.invokevirtual 331, 3) := by decide +kernel
theorem dX12_spreadTimes_32 : decode cX12_spreadTimes 32 = .ok (.laload, 1) := by decide +kernel
theorem dX12_spreadTimes_33 : decode cX12_spreadTimes 33 = .ok (.lstore 7, 2) := by decide +kernel
theorem dX12_spreadTimes_35 : decode cX12_spreadTimes 35 = .ok (.aload_n 0, 1) := by decide +kernel
theorem dX12_spreadTimes_36 : decode cX12_spreadTimes 36 = .ok (.getfield 73, 3) := by decide +kernel
theorem dX12_spreadTimes_39 : decode cX12_spreadTimes 39 = .ok (.aload_n 0, 1) := by decide +kernel
theorem dX12_spreadTimes_40 : decode cX12_spreadTimes 40 = .ok (.iload_n 2, 1) := by decide +kernel
theorem dX12_spreadTimes_41 : decode cX12_spreadTimes 41 = .ok (.invokevirtual 331, 3) := by decide +kernel
theorem dX12_spreadTimes_44 : decode cX12_spreadTimes 44 = .ok (.laload, 1) := by decide +kernel
theorem dX12_spreadTimes_45 : decode cX12_spreadTimes 45 = .ok (.lstore 9, 2) := by decide +kernel
theorem dX12_spreadTimes_47 : decode cX12_spreadTimes 47 = .ok (.aload_n 0, 1) := by decide +kernel
theorem dX12_spreadTimes_48 : decode cX12_spreadTimes 48 = .ok (.getfield 107, 3) := by decide +kernel
theorem dX12_spreadTimes_51 : decode cX12_spreadTimes 51 = .ok (.iload_n 1, 1) := by decide +kernel
theorem dX12_spreadTimes_52 : decode cX12_spreadTimes 52 = .ok (.laload, 1) := by decide +kernel
theorem dX12_spreadTimes_53 : decode cX12_spreadTimes 53 = .ok (.lstore 11, 2) := by decide +kernel
theorem dX12_spreadTimes_55 : decode cX12_spreadTimes 55 = .ok (.aload_n 0, 1) := by decide +kernel
theorem dX12_spreadTimes_56 : decode cX12_spreadTimes 56 = .ok (.getfield 110, 3) := by decide +kernel
theorem dX12_spreadTimes_59 : decode cX12_spreadTimes 59 = .ok (.iload_n 1, 1) := by decide +kernel
theorem dX12_spreadTimes_60 : decode cX12_spreadTimes 60 = .ok (.laload, 1) := by decide +kernel
theorem dX12_spreadTimes_61 : decode cX12_spreadTimes 61 = .ok (.lstore 13, 2) := by decide +kernel
theorem dX12_spreadTimes_63 : decode cX12_spreadTimes 63 = .ok (.aload_n 0, 1) := by decide +kernel
theorem dX12_spreadTimes_64 : decode cX12_spreadTimes 64 = .ok (.getfield 107, 3) := by decide +kernel
theorem dX12_spreadTimes_67 : decode cX12_spreadTimes 67 = .ok (.iload_n 2, 1) := by decide +kernel
theorem dX12_spreadTimes_68 : decode cX12_spreadTimes 68 = .ok (.laload, 1) := by decide +kernel
theorem dX12_spreadTimes_69 : decode cX12_spreadTimes 69 = .ok (.lstore 15, 2) := by decide +kernel
theorem dX12_spreadTimes_71 : decode cX12_spreadTimes 71 = .ok (.aload_n 0, 1) := by decide +kernel
theorem dX12_spreadTimes_72 : decode cX12_spreadTimes 72 = .ok (.getfield 110, 3) := by decide +kernel
theorem dX12_spreadTimes_75 : decode cX12_spreadTimes 75 = .ok (.iload_n 2, 1) := by decide +kernel
theorem dX12_spreadTimes_76 : decode cX12_spreadTimes 76 = .ok (.laload, 1) := by decide +kernel
theorem dX12_spreadTimes_77 : decode cX12_spreadTimes 77 = .ok (.lstore 17, 2) := by decide +kernel
theorem dX12_spreadTimes_79 : decode cX12_spreadTimes 79 = .ok (.aload_n 0, 1) := by decide +kernel
theorem dX12_spreadTimes_80 : decode cX12_spreadTimes 80 = .ok (.lload_n 3, 1) := by decide +kernel
theorem dX12_spreadTimes_81 : decode cX12_spreadTimes 81 = .ok (.lload 15, 2) := by decide +kernel
theorem dX12_spreadTimes_83 : decode cX12_spreadTimes 83 = .ok (.lmul, 1) := by decide +kernel
theorem dX12_spreadTimes_84 : decode cX12_spreadTimes 84 = .ok (.lload_n 3, 1) := by decide +kernel
theorem dX12_spreadTimes_85 : decode cX12_spreadTimes 85 = .ok (.lload 17, 2) := by decide +kernel
theorem dX12_spreadTimes_87 : decode cX12_spreadTimes 87 = .ok (.lmul, 1) := by decide +kernel
theorem dX12_spreadTimes_88 : decode cX12_spreadTimes 88 = .ok (.lload 5, 2) := by decide +kernel
theorem dX12_spreadTimes_90 : decode cX12_spreadTimes 90 = .ok (.lload 15, 2) := by decide +kernel
theorem dX12_spreadTimes_92 : decode cX12_spreadTimes 92 = .ok (.lmul, 1) := by decide +kernel
theorem dX12_spreadTimes_93 : decode cX12_spreadTimes 93 = .ok (.lload 5, 2) := by decide +kernel
theorem dX12_spreadTimes_95 : decode cX12_spreadTimes 95 = .ok (.lload 17, 2) := by decide +kernel
theorem dX12_spreadTimes_97 : decode cX12_spreadTimes 97 = .ok (.lmul, 1) := by decide +kernel
theorem dX12_spreadTimes_98 : decode cX12_spreadTimes 98 = .ok (.invokestatic 396, 3) := by decide +kernel
theorem dX12_spreadTimes_101 : decode cX12_spreadTimes 101 = .ok (.lload 7, 2) := by decide +kernel
theorem dX12_spreadTimes_103 : decode cX12_spreadTimes 103 = .ok (.lload 11, 2) := by decide +kernel
theorem dX12_spreadTimes_105 : decode cX12_spreadTimes 105 = .ok (.lmul, 1) := by decide +kernel
theorem dX12_spreadTimes_106 : decode cX12_spreadTimes 106 = .ok (.lload 7, 2) := by decide +kernel
theorem dX12_spreadTimes_108 : decode cX12_spreadTimes 108 = .ok (.lload 13, 2) := by decide +kernel
theorem dX12_spreadTimes_110 : decode cX12_spreadTimes 110 = .ok (.lmul, 1) := by decide +kernel
theorem dX12_spreadTimes_111 : decode cX12_spreadTimes 111 = .ok (.lload 9, 2) := by decide +kernel
theorem dX12_spreadTimes_113 : decode cX12_spreadTimes 113 = .ok (.lload 11, 2) := by decide +kernel
theorem dX12_spreadTimes_115 : decode cX12_spreadTimes 115 = .ok (.lmul, 1) := by decide +kernel
theorem dX12_spreadTimes_116 : decode cX12_spreadTimes 116 = .ok (.lload 9, 2) := by decide +kernel
theorem dX12_spreadTimes_118 : decode cX12_spreadTimes 118 = .ok (.lload 13, 2) := by decide +kernel
theorem dX12_spreadTimes_120 : decode cX12_spreadTimes 120 = .ok (.lmul, 1) := by decide +kernel
theorem dX12_spreadTimes_121 : decode cX12_spreadTimes 121 = .ok (.invokestatic 396, 3) := by decide +kernel
theorem dX12_spreadTimes_124 : decode cX12_spreadTimes 124 = .ok (.ladd, 1) := by decide +kernel
theorem dX12_spreadTimes_125 : decode cX12_spreadTimes 125 = .ok (.lload 11, 2) := by decide +kernel
theorem dX12_spreadTimes_127 : decode cX12_spreadTimes 127 = .ok (.lload 15, 2) := by decide +kernel
theorem dX12_spreadTimes_129 : decode cX12_spreadTimes 129 = .ok (.lmul, 1) := by decide +kernel
theorem dX12_spreadTimes_130 : decode cX12_spreadTimes 130 = .ok (.lload 11, 2) := by decide +kernel
theorem dX12_spreadTimes_132 : decode cX12_spreadTimes 132 = .ok (.lload 17, 2) := by decide +kernel
theorem dX12_spreadTimes_134 : decode cX12_spreadTimes 134 = .ok (.lmul, 1) := by decide +kernel
theorem dX12_spreadTimes_135 : decode cX12_spreadTimes 135 = .ok (.lload 13, 2) := by decide +kernel
theorem dX12_spreadTimes_137 : decode cX12_spreadTimes 137 = .ok (.lload 15, 2) := by decide +kernel
theorem dX12_spreadTimes_139 : decode cX12_spreadTimes 139 = .ok (.lmul, 1) := by decide +kernel
theorem dX12_spreadTimes_140 : decode cX12_spreadTimes 140 = .ok (.lload 13, 2) := by decide +kernel
theorem dX12_spreadTimes_142 : decode cX12_spreadTimes 142 = .ok (.lload 17, 2) := by decide +kernel
theorem dX12_spreadTimes_144 : decode cX12_spreadTimes 144 = .ok (.lmul, 1) := by decide +kernel
theorem dX12_spreadTimes_145 : decode cX12_spreadTimes 145 = .ok (.invokestatic 396, 3) := by decide +kernel
theorem dX12_spreadTimes_148 : decode cX12_spreadTimes 148 = .ok (.ladd, 1) := by decide +kernel
theorem dX12_spreadTimes_149 : decode cX12_spreadTimes 149 = .ok (.putfield 379, 3) := by decide +kernel
theorem dX12_spreadTimes_152 : decode cX12_spreadTimes 152 = .ok (.aload_n 0, 1) := by decide +kernel
theorem dX12_spreadTimes_153 : decode cX12_spreadTimes 153 = .ok (.lload_n 3, 1) := by decide +kernel
theorem dX12_spreadTimes_154 : decode cX12_spreadTimes 154 = .ok (.lload 15, 2) := by decide +kernel
theorem dX12_spreadTimes_156 : decode cX12_spreadTimes 156 = .ok (.lmul, 1) := by decide +kernel
theorem dX12_spreadTimes_157 : decode cX12_spreadTimes 157 = .ok (.lload_n 3, 1) := by decide +kernel
theorem dX12_spreadTimes_158 : decode cX12_spreadTimes 158 = .ok (.lload 17, 2) := by decide +kernel
theorem dX12_spreadTimes_160 : decode cX12_spreadTimes 160 = .ok (.lmul, 1) := by decide +kernel
theorem dX12_spreadTimes_161 : decode cX12_spreadTimes 161 = .ok (.lload 5, 2) := by decide +kernel
theorem dX12_spreadTimes_163 : decode cX12_spreadTimes 163 = .ok (.lload 15, 2) := by decide +kernel
theorem dX12_spreadTimes_165 : decode cX12_spreadTimes 165 = .ok (.lmul, 1) := by decide +kernel
theorem dX12_spreadTimes_166 : decode cX12_spreadTimes 166 = .ok (.lload 5, 2) := by decide +kernel
theorem dX12_spreadTimes_168 : decode cX12_spreadTimes 168 = .ok (.lload 17, 2) := by decide +kernel
theorem dX12_spreadTimes_170 : decode cX12_spreadTimes 170 = .ok (.lmul, 1) := by decide +kernel
theorem dX12_spreadTimes_171 : decode cX12_spreadTimes 171 = .ok (.invokestatic 400, 3) := by decide +kernel
theorem dX12_spreadTimes_174 : decode cX12_spreadTimes 174 = .ok (.lload 7, 2) := by decide +kernel
theorem dX12_spreadTimes_176 : decode cX12_spreadTimes 176 = .ok (.lload 11, 2) := by decide +kernel
theorem dX12_spreadTimes_178 : decode cX12_spreadTimes 178 = .ok (.lmul, 1) := by decide +kernel
theorem dX12_spreadTimes_179 : decode cX12_spreadTimes 179 = .ok (.lload 7, 2) := by decide +kernel
theorem dX12_spreadTimes_181 : decode cX12_spreadTimes 181 = .ok (.lload 13, 2) := by decide +kernel
theorem dX12_spreadTimes_183 : decode cX12_spreadTimes 183 = .ok (.lmul, 1) := by decide +kernel
theorem dX12_spreadTimes_184 : decode cX12_spreadTimes 184 = .ok (.lload 9, 2) := by decide +kernel
theorem dX12_spreadTimes_186 : decode cX12_spreadTimes 186 = .ok (.lload 11, 2) := by decide +kernel
theorem dX12_spreadTimes_188 : decode cX12_spreadTimes 188 = .ok (.lmul, 1) := by decide +kernel
theorem dX12_spreadTimes_189 : decode cX12_spreadTimes 189 = .ok (.lload 9, 2) := by decide +kernel
theorem dX12_spreadTimes_191 : decode cX12_spreadTimes 191 = .ok (.lload 13, 2) := by decide +kernel
theorem dX12_spreadTimes_193 : decode cX12_spreadTimes 193 = .ok (.lmul, 1) := by decide +kernel
theorem dX12_spreadTimes_194 : decode cX12_spreadTimes 194 = .ok (.invokestatic 400, 3) := by decide +kernel
theorem dX12_spreadTimes_197 : decode cX12_spreadTimes 197 = .ok (.ladd, 1) := by decide +kernel
theorem dX12_spreadTimes_198 : decode cX12_spreadTimes 198 = .ok (.lload 11, 2) := by decide +kernel
theorem dX12_spreadTimes_200 : decode cX12_spreadTimes 200 = .ok (.lload 15, 2) := by decide +kernel
theorem dX12_spreadTimes_202 : decode cX12_spreadTimes 202 = .ok (.lmul, 1) := by decide +kernel
theorem dX12_spreadTimes_203 : decode cX12_spreadTimes 203 = .ok (.lload 11, 2) := by decide +kernel
theorem dX12_spreadTimes_205 : decode cX12_spreadTimes 205 = .ok (.lload 17, 2) := by decide +kernel
theorem dX12_spreadTimes_207 : decode cX12_spreadTimes 207 = .ok (.lmul, 1) := by decide +kernel
theorem dX12_spreadTimes_208 : decode cX12_spreadTimes 208 = .ok (.lload 13, 2) := by decide +kernel
theorem dX12_spreadTimes_210 : decode cX12_spreadTimes 210 = .ok (.lload 15, 2) := by decide +kernel
theorem dX12_spreadTimes_212 : decode cX12_spreadTimes 212 = .ok (.lmul, 1) := by decide +kernel
theorem dX12_spreadTimes_213 : decode cX12_spreadTimes 213 = .ok (.lload 13, 2) := by decide +kernel
theorem dX12_spreadTimes_215 : decode cX12_spreadTimes 215 = .ok (.lload 17, 2) := by decide +kernel
theorem dX12_spreadTimes_217 : decode cX12_spreadTimes 217 = .ok (.lmul, 1) := by decide +kernel
theorem dX12_spreadTimes_218 : decode cX12_spreadTimes 218 = .ok (.invokestatic 400, 3) := by decide +kernel
theorem dX12_spreadTimes_221 : decode cX12_spreadTimes 221 = .ok (.ladd, 1) := by decide +kernel
theorem dX12_spreadTimes_222 : decode cX12_spreadTimes 222 = .ok (.putfield 382, 3) := by decide +kernel
theorem dX12_spreadTimes_225 : decode cX12_spreadTimes 225 = .ok (.return_, 1) := by decide +kernel
theorem dX12_spreadPick_0 : decode cX12_spreadPick 0 = .ok (.aload_n 0, 1) := by decide +kernel
theorem dX12_spreadPick_1 : decode cX12_spreadPick 1 = .ok (.aload_n 0, 1) := by decide +kernel
theorem dX12_spreadPick_2 : decode cX12_spreadPick 2 = .ok (.getfield 107, 3) := by decide +kernel
theorem dX12_spreadPick_5 : decode cX12_spreadPick 5 = .ok (.iload_n 1, 1) := by decide +kernel
theorem dX12_spreadPick_6 : decode cX12_spreadPick 6 = .ok (.laload, 1) := by decide +kernel
theorem dX12_spreadPick_7 : decode cX12_spreadPick 7 = .ok (.aload_n 0, 1) := by decide +kernel
theorem dX12_spreadPick_8 : decode cX12_spreadPick 8 = .ok (.getfield 107, 3) := by decide +kernel
theorem dX12_spreadPick_11 : decode cX12_spreadPick 11 = .ok (.iload_n 2, 1) := by decide +kernel
theorem dX12_spreadPick_12 : decode cX12_spreadPick 12 = .ok (.laload, 1) := by decide +kernel
theorem dX12_spreadPick_13 : decode cX12_spreadPick 13 = .ok (.invokestatic 314, 3) := by decide +kernel
theorem dX12_spreadPick_16 : decode cX12_spreadPick 16 = .ok (.putfield 379, 3) := by decide +kernel
theorem dX12_spreadPick_19 : decode cX12_spreadPick 19 = .ok (.aload_n 0, 1) := by decide +kernel
theorem dX12_spreadPick_20 : decode cX12_spreadPick 20 = .ok (.aload_n 0, 1) := by decide +kernel
theorem dX12_spreadPick_21 : decode cX12_spreadPick 21 = .ok (.getfield 110, 3) := by decide +kernel
theorem dX12_spreadPick_24 : decode cX12_spreadPick 24 = .ok (.iload_n 1, 1) := by decide +kernel
theorem dX12_spreadPick_25 : decode cX12_spreadPick 25 = .ok (.laload, 1) := by decide +kernel
theorem dX12_spreadPick_26 : decode cX12_spreadPick 26 = .ok (.aload_n 0, 1) := by decide +kernel
theorem dX12_spreadPick_27 : decode cX12_spreadPick 27 = .ok (.getfield 110, 3) := by decide +kernel
theorem dX12_spreadPick_30 : decode cX12_spreadPick 30 = .ok (.iload_n 2, 1) := by decide +kernel
theorem dX12_spreadPick_31 : decode cX12_spreadPick 31 = .ok (.laload, 1) := by decide +kernel
theorem dX12_spreadPick_32 : decode cX12_spreadPick 32 = .ok (.invokestatic 318, 3) := by decide +kernel
theorem dX12_spreadPick_35 : decode cX12_spreadPick 35 = .ok (.putfield 382, 3) := by decide +kernel
theorem dX12_spreadPick_38 : decode cX12_spreadPick 38 = .ok (.iload_n 3, 1) := by decide +kernel
theorem dX12_spreadPick_39 : decode cX12_spreadPick 39 = .ok (.ifCond .ne 4, 3) := by decide +kernel
theorem dX12_spreadPick_43 : decode cX12_spreadPick 43 = .ok (.aload_n 0, 1) := by decide +kernel
theorem dX12_spreadPick_44 : decode cX12_spreadPick 44 = .ok (.aload_n 0, 1) := by decide +kernel
theorem dX12_spreadPick_45 : decode cX12_spreadPick 45 = .ok (.getfield 379, 3) := by decide +kernel
theorem dX12_spreadPick_48 : decode cX12_spreadPick 48 = .ok (.aload_n 0, 1) := by decide +kernel
theorem dX12_spreadPick_49 : decode cX12_spreadPick 49 = .ok (.iload_n 2, 1) := by decide +kernel
theorem dX12_spreadPick_50 : decode cX12_spreadPick 50 = .ok (.iload_n 1, 1) := by decide +kernel
theorem dX12_spreadPick_51 : decode cX12_spreadPick 51 = .ok (.invokevirtual 403, 3) := by decide +kernel
theorem dX12_spreadPick_54 : decode cX12_spreadPick 54 = .ok (.aload_n 0, 1) := by decide +kernel
theorem dX12_spreadPick_55 : decode cX12_spreadPick 55 = .ok (.iload_n 1, 1) := by decide +kernel
theorem dX12_spreadPick_56 : decode cX12_spreadPick 56 = .ok (.iload_n 2, 1) := by decide +kernel
theorem dX12_spreadPick_57 : decode cX12_spreadPick 57 = .ok (.invokevirtual 403, 3) := by decide +kernel
theorem dX12_spreadPick_60 : decode cX12_spreadPick 60 = .ok (.invokestatic 314, 3) := by decide +kernel
theorem dX12_spreadPick_63 : decode cX12_spreadPick 63 = .ok (.invokestatic 314, 3) := by decide +kernel
theorem dX12_spreadPick_66 : decode cX12_spreadPick 66 = .ok (.putfield 379, 3) := by decide +kernel
theorem dX12_spreadPick_69 : decode cX12_spreadPick 69 = .ok (.aload_n 0, 1) := by decide +kernel
theorem dX12_spreadPick_70 : decode cX12_spreadPick 70 = .ok (.aload_n 0, 1) := by decide +kernel
theorem dX12_spreadPick_71 : decode cX12_spreadPick 71 = .ok (.getfield 382, 3) := by decide +kernel
theorem dX12_spreadPick_74 : decode cX12_spreadPick 74 = .ok (.aload_n 0, 1) := by decide +kernel
theorem dX12_spreadPick_75 : decode cX12_spreadPick 75 = .ok (.iload_n 2, 1) := by decide +kernel
theorem dX12_spreadPick_76 : decode cX12_spreadPick 76 = .ok (.iload_n 1, 1) := by decide +kernel
theorem dX12_spreadPick_77 : decode cX12_spreadPick 77 = .ok (.invokevirtual 407, 3) := by decide +kernel
theorem dX12_spreadPick_80 : decode cX12_spreadPick 80 = .ok (.aload_n 0, 1) := by decide +kernel
theorem dX12_spreadPick_81 : decode cX12_spreadPick 81 = .ok (.iload_n 1, 1) := by decide +kernel
theorem dX12_spreadPick_82 : decode cX12_spreadPick 82 = .ok (.iload_n 2, 1) := by decide +kernel
theorem dX12_spreadPick_83 : decode cX12_spreadPick 83 = .ok (.invokevirtual 407, 3) := by decide +kernel
theorem dX12_spreadPick_86 : decode cX12_spreadPick 86 = .ok (.invokestatic 318, 3) := by decide +kernel
theorem dX12_spreadPick_89 : decode cX12_spreadPick 89 = .ok (.invokestatic 318, 3) := by decide +kernel
theorem dX12_spreadPick_92 : decode cX12_spreadPick 92 = .ok (.putfield 382, 3) := by decide +kernel
theorem dX12_spreadPick_95 : decode cX12_spreadPick 95 = .ok (.return_, 1) := by decide +kernel
theorem dX12_spreadPick_42 : decode cX12_spreadPick 42 = .ok (.return_, 1) := by decide +kernel
theorem dX12_spreadUsual_0 : decode cX12_spreadUsual 0 = .ok (.iload_n 2, 1) := by decide +kernel
theorem dX12_spreadUsual_1 : decode cX12_spreadUsual 1 = .ok (.ifCond .ne 12, 3) := by decide +kernel
theorem dX12_spreadUsual_4 : decode cX12_spreadUsual 4 = .ok (.aload_n 0, 1) := by decide +kernel
theorem dX12_spreadUsual_5 : decode cX12_spreadUsual 5 = .ok (.getfield 42, 3) := by decide +kernel
theorem dX12_spreadUsual_8 : decode cX12_spreadUsual 8 = .ok (.iload_n 1, 1) := by decide +kernel
theorem dX12_spreadUsual_9 : decode cX12_spreadUsual 9 = .ok (.iaload, 1) := by decide +kernel
theorem dX12_spreadUsual_10 : decode cX12_spreadUsual 10 = .ok (.goto 9, 3) := by decide +kernel
theorem dX12_spreadUsual_19 : decode cX12_spreadUsual 19 = .ok (.istore_n 3, 1) := by decide +kernel
theorem dX12_spreadUsual_20 : decode cX12_spreadUsual 20 = .ok (.iload_n 2, 1) := by decide +kernel
theorem dX12_spreadUsual_21 : decode cX12_spreadUsual 21 = .ok (.ifCond .ne 12, 3) := by decide +kernel
theorem dX12_spreadUsual_24 : decode cX12_spreadUsual 24 = .ok (.aload_n 0, 1) := by decide +kernel
theorem dX12_spreadUsual_25 : decode cX12_spreadUsual 25 = .ok (.getfield 45, 3) := by decide +kernel
theorem dX12_spreadUsual_28 : decode cX12_spreadUsual 28 = .ok (.iload_n 1, 1) := by decide +kernel
theorem dX12_spreadUsual_29 : decode cX12_spreadUsual 29 = .ok (.iaload, 1) := by decide +kernel
theorem dX12_spreadUsual_30 : decode cX12_spreadUsual 30 = .ok (.goto 9, 3) := by decide +kernel
theorem dX12_spreadUsual_39 : decode cX12_spreadUsual 39 = .ok (.istore 4, 2) := by decide +kernel
theorem dX12_spreadUsual_41 : decode cX12_spreadUsual 41 = .ok (.aload_n 0, 1) := by decide +kernel
theorem dX12_spreadUsual_42 : decode cX12_spreadUsual 42 = .ok (.aload_n 0, 1) := by decide +kernel
theorem dX12_spreadUsual_43 : decode cX12_spreadUsual 43 = .ok (.getfield 107, 3) := by decide +kernel
theorem dX12_spreadUsual_46 : decode cX12_spreadUsual 46 = .ok (.iload_n 3, 1) := by decide +kernel
theorem dX12_spreadUsual_47 : decode cX12_spreadUsual 47 = .ok (.laload, 1) := by decide +kernel
theorem dX12_spreadUsual_48 : decode cX12_spreadUsual 48 = .ok (.aload_n 0, 1) := by decide +kernel
theorem dX12_spreadUsual_49 : decode cX12_spreadUsual 49 = .ok (.iload_n 3, 1) := by decide +kernel
theorem dX12_spreadUsual_50 : decode cX12_spreadUsual 50 = .ok (.iload 4, 2) := by decide +kernel
theorem dX12_spreadUsual_52 : decode cX12_spreadUsual 52 = .ok (.invokevirtual 403, 3) := by decide +kernel
theorem dX12_spreadUsual_55 : decode cX12_spreadUsual 55 = .ok (.invokestatic 314, 3) := by decide +kernel
theorem dX12_spreadUsual_58 : decode cX12_spreadUsual 58 = .ok (.putfield 379, 3) := by decide +kernel
theorem dX12_spreadUsual_61 : decode cX12_spreadUsual 61 = .ok (.aload_n 0, 1) := by decide +kernel
theorem dX12_spreadUsual_62 : decode cX12_spreadUsual 62 = .ok (.aload_n 0, 1) := by decide +kernel
theorem dX12_spreadUsual_63 : decode cX12_spreadUsual 63 = .ok (.getfield 110, 3) := by decide +kernel
theorem dX12_spreadUsual_66 : decode cX12_spreadUsual 66 = .ok (.iload_n 3, 1) := by decide +kernel
theorem dX12_spreadUsual_67 : decode cX12_spreadUsual 67 = .ok (.laload, 1) := by decide +kernel
theorem dX12_spreadUsual_68 : decode cX12_spreadUsual 68 = .ok (.aload_n 0, 1) := by decide +kernel
theorem dX12_spreadUsual_69 : decode cX12_spreadUsual 69 = .ok (.iload_n 3, 1) := by decide +kernel
theorem dX12_spreadUsual_70 : decode cX12_spreadUsual 70 = .ok (.iload 4, 2) := by decide +kernel
theorem dX12_spreadUsual_72 : decode cX12_spreadUsual 72 = .ok (.invokevirtual 407, 3) := by decide +kernel
theorem dX12_spreadUsual_75 : decode cX12_spreadUsual 75 = .ok (.invokestatic 318, 3) := by decide +kernel
theorem dX12_spreadUsual_78 : decode cX12_spreadUsual 78 = .ok (.putfield 382, 3) := by decide +kernel
theorem dX12_spreadUsual_81 : decode cX12_spreadUsual 81 = .ok (.return_, 1) := by decide +kernel
theorem dX12_spreadUsual_13 : decode cX12_spreadUsual 13 = .ok (.aload_n 0, 1) := by decide +kernel
theorem dX12_spreadUsual_14 : decode cX12_spreadUsual 14 = .ok (.getfield 45, 3) := by decide +kernel
theorem dX12_spreadUsual_17 : decode cX12_spreadUsual 17 = .ok (.iload_n 1, 1) := by decide +kernel
theorem dX12_spreadUsual_18 : decode cX12_spreadUsual 18 = .ok (.iaload, 1) := by decide +kernel
theorem dX12_spreadUsual_33 : decode cX12_spreadUsual 33 = .ok (.aload_n 0, 1) := by decide +kernel
theorem dX12_spreadUsual_34 : decode cX12_spreadUsual 34 = .ok (.getfield 42, 3) := by decide +kernel
theorem dX12_spreadUsual_37 : decode cX12_spreadUsual 37 = .ok (.iload_n 1, 1) := by decide +kernel
theorem dX12_spreadUsual_38 : decode cX12_spreadUsual 38 = .ok (.iaload, 1) := by decide +kernel
theorem rg_498 : 45 ∈ [45, 46] := by decide
theorem rg_499 : 46 ∈ [45, 46] := by decide
theorem rg_500 : 0 = (0 : Int32).toInt := by decide
theorem rg_501 : 1 = (1 : Int32).toInt := by decide
theorem rg_502 : ¬ (1 : Int32).toInt = 0 := by decide
def ow_n_errsV : List Cond := []
def vs_n_errsV : List Cond := .code yX12_errs cX12_errs 4 (some .boolean) :: (ow_n_errsV)
theorem vg_n_errsV : vs_n_errsV.all goodWord = true := by decide +kernel
theorem dd_n_errsV : yX12_errs.cls ≠ "java/lang/invoke/MethodHandle" ∧ yX12_errs.cls ≠ "java/lang/invoke/VarHandle" ∧ (parseMethodDescriptor yX12_errs.desc).map (fun d => d.parameters.length) = some 2 := by decide +kernel
def rm_n_errsV : Room := { frames := 0, cells := 0, slots := 0, locals := 0 }
set_option maxHeartbeats 4000000 in
set_option maxRecDepth 100000 in
theorem n_errsV (l : Launch) (dC : Nat → ClassId) (dI : Nat → Nat → Nat) (x : Int64) (y : Int64)  (sz : Nat) : Met l yX12_errs vs_n_errsV rm_n_errsV (va_Pc [.long x, .long y] (wSt dC dI [] [] sz)) (va_Qi (fun (r : Int32) (_ : Unit) => (r.toInt = 1 ∧ ¬ (x = 0 ∧ y = 0)) ∨ (r.toInt = 0 ∧ x = 0 ∧ y = 0)) (fun (_ : Unit) => wEn dC dI (va_A [] sz) [] []) (va_A ([]) sz)) 0 0 (va_A ([]) sz) := by
  refine Met.ofW (cc := cX12_errs) (maxL := 4) (ret := (some .boolean)) (by decide) rfl ?_
  intro p e s m args below meth c s₁ B hml hv
  obtain ⟨rfl, hsz, hP, hK, hD0, hE⟩ := hv
  have hx := B.exec
  have hb := B.bytes
  have hr := B.returns
  have hts := atoms_spec (ws := vs_n_errsV) B.pre
  have hown : s.vm.findClass RX12 = some m.cls := findClass_of_methodNamed B.named
  have hlocks := B.notSynchronized
  subst hsz
  have hD := hD0.self (sz := s.heap.size)
  generalize hAe : va_A ([]) s.heap.size = A at hD ⊢
  have hA : ∀ q : Nat, s.heap.size ≤ q → A q := fun q h => by rw [← hAe]; exact Or.inr h
  have hl := lv_entry ([.long x, .long y]) (n := 4) (Nat.le_of_ble_eq_true rfl)
  rw [lg_entry_eq]
  generalize (lg_sl ([.long x, .long y]) ++ List.replicate (4 - (lg_sl ([.long x, .long y])).length) Slot.unset).toArray = ls at hl ⊢
  have hl : lv_has ls 4 [(0, .long x), (2, .long y)] := hl
  have ho := fun w (h : w ∈ ow_n_errsV) => hts w (List.mem_cons_of_mem _ h)
  refine zQ (fun Q hQ => ?_)
  refine zH (A := A) (ws := []) (fun H hP hS => ?_) hP
  refine lv_lload_n hx hb dX12_errs_0 rfl (lv_at hl 0 rfl) ?_
  refine lv_lconst (v := 0) hx hb dX12_errs_1 (by decide) ?_
  refine W.lcmp hx hb dX12_errs_2 ?_
  refine lv_topi (fun z1_ ez1_ => ?_)
  refine lv_if_ne (tgt := 12) hx hb dX12_errs_3 rfl (fun c2_ => ?_) (fun c2_ => ?_)
  · have tc2_ := (show z1_.toInt ≠ 0 from ti_ne rfl rg_11 c2_)
    have lc2_ : ¬ x = 0 := fun h => c2_ (by rw [ez1_]; exact (lg_cmp_eq x 0).mpr h)
    refine lv_iconst (v := 1) hx hb dX12_errs_12 rg_6 ?_
    refine lv_goto (tgt := 17) hx hb dX12_errs_13 rfl ?_
    rw [hQ]
    exact W.zret (v := 1) hx hb hr rfl (fun t ht hW => ⟨⟨1, (), rfl, (Or.inl ⟨rg_18, (fun h9 => absurd h9.1 lc2_)⟩), wEn_of empP (hK.sub [] rfl) empD ht hW⟩, hS.F ht⟩) hS.2.2 dX12_errs_17
  · have tc2_ := (show z1_.toInt = 0 from ti_eq rfl rg_11 c2_)
    have lc2_ : x = 0 := (lg_cmp_eq x 0).mp (by rw [← ez1_]; exact c2_)
    refine lv_lload_n hx hb dX12_errs_6 rfl (lv_at hl 1 rfl) ?_
    refine lv_lconst (v := 0) hx hb dX12_errs_7 (by decide) ?_
    refine W.lcmp hx hb dX12_errs_8 ?_
    refine lv_topi (fun z3_ ez3_ => ?_)
    refine lv_if_eq (tgt := 16) hx hb dX12_errs_9 rfl (fun c4_ => ?_) (fun c4_ => ?_)
    · have tc4_ := (show z3_.toInt = 0 from ti_eq rfl rg_11 c4_)
      have lc4_ : y = 0 := (lg_cmp_eq y 0).mp (by rw [← ez3_]; exact c4_)
      refine lv_iconst (v := 0) hx hb dX12_errs_16 rg_0 ?_
      rw [hQ]
      exact W.zret (v := 0) hx hb hr rfl (fun t ht hW => ⟨⟨0, (), rfl, (Or.inr ⟨rg_11, lc2_, lc4_⟩), wEn_of empP (hK.sub [] rfl) empD ht hW⟩, hS.F ht⟩) hS.2.2 dX12_errs_17
    · have tc4_ := (show z3_.toInt ≠ 0 from ti_ne rfl rg_11 c4_)
      have lc4_ : ¬ y = 0 := fun h => c4_ (by rw [ez3_]; exact (lg_cmp_eq y 0).mpr h)
      refine lv_iconst (v := 1) hx hb dX12_errs_12 rg_6 ?_
      refine lv_goto (tgt := 17) hx hb dX12_errs_13 rfl ?_
      rw [hQ]
      exact W.zret (v := 1) hx hb hr rfl (fun t ht hW => ⟨⟨1, (), rfl, (Or.inl ⟨rg_18, (fun h9 => absurd h9.2 lc4_)⟩), wEn_of empP (hK.sub [] rfl) empD ht hW⟩, hS.F ht⟩) hS.2.2 dX12_errs_17
def ow_n_leastOfV : List Cond := []
def vs_n_leastOfV : List Cond := .code yX12_leastOf cX12_leastOf 8 (some .long) :: (ow_n_leastOfV ++ (([.methodLink RX12 314 yX12_lesser, .static yX12_lesser, .initialized yX12_lesser.cls] : List Cond) ++ (vs_n_lesserV)))
theorem vg_n_leastOfV : vs_n_leastOfV.all goodWord = true := by decide +kernel
theorem dd_n_leastOfV : yX12_leastOf.cls ≠ "java/lang/invoke/MethodHandle" ∧ yX12_leastOf.cls ≠ "java/lang/invoke/VarHandle" ∧ (parseMethodDescriptor yX12_leastOf.desc).map (fun d => d.parameters.length) = some 4 := by decide +kernel
def rm_n_leastOfV : Room := { frames := 1, cells := 0, slots := 0, locals := 23 }
theorem gd_n_leastOfV_314_n_lesserV : GoodIn vs_n_leastOfV (va_wsS RX12 314 yX12_lesser vs_n_lesserV) := goodIn_app (goodIn_sub (fun w h => (List.mem_cons_of_mem _ (List.mem_append_right _ (List.mem_append_left _ h)))) (by decide +kernel)) (goodIn_sub (fun w h => (List.mem_cons_of_mem _ (List.mem_append_right _ (List.mem_append_right _ h)))) vg_n_lesserV)
set_option maxHeartbeats 4000000 in
set_option maxRecDepth 100000 in
theorem n_leastOfV (l : Launch) (dC : Nat → ClassId) (dI : Nat → Nat → Nat) (x0 : Int64) (x1 : Int64) (x2 : Int64) (x3 : Int64)  (sz : Nat) : Met l yX12_leastOf vs_n_leastOfV rm_n_leastOfV (va_Pc [.long x0, .long x1, .long x2, .long x3] (wSt dC dI [] [] sz)) (va_Ql (fun (r : Int64) (_ : Unit) => r = lo4 x0 x1 x2 x3) (fun (_ : Unit) => wEn dC dI (va_A [] sz) [] []) (va_A ([]) sz)) 0 0 (va_A ([]) sz) := by
  refine Met.ofW (cc := cX12_leastOf) (maxL := 8) (ret := (some .long)) (by decide) rfl ?_
  intro p e s m args below meth c s₁ B hml hv
  obtain ⟨rfl, hsz, hP, hK, hD0, hE⟩ := hv
  have hx := B.exec
  have hb := B.bytes
  have hr := B.returns
  have hts := atoms_spec (ws := vs_n_leastOfV) B.pre
  have hown : s.vm.findClass RX12 = some m.cls := findClass_of_methodNamed B.named
  have hlocks := B.notSynchronized
  subst hsz
  have hD := hD0.self (sz := s.heap.size)
  generalize hAe : va_A ([]) s.heap.size = A at hD ⊢
  have hA : ∀ q : Nat, s.heap.size ≤ q → A q := fun q h => by rw [← hAe]; exact Or.inr h
  have hl := lv_entry ([.long x0, .long x1, .long x2, .long x3]) (n := 8) (Nat.le_of_ble_eq_true rfl)
  rw [lg_entry_eq]
  generalize (lg_sl ([.long x0, .long x1, .long x2, .long x3]) ++ List.replicate (8 - (lg_sl ([.long x0, .long x1, .long x2, .long x3])).length) Slot.unset).toArray = ls at hl ⊢
  have hl : lv_has ls 8 [(0, .long x0), (2, .long x1), (4, .long x2), (6, .long x3)] := hl
  have ho := fun w (h : w ∈ ow_n_leastOfV) => hts w (List.mem_cons_of_mem _ (List.mem_append_left _ h))
  refine zQ (fun Q hQ => ?_)
  refine zH (A := A) (ws := []) (fun H hP hS => ?_) hP
  refine lv_lload_n hx hb dX12_leastOf_0 rfl (lv_at hl 0 rfl) ?_
  refine lv_lload_n hx hb dX12_leastOf_1 rfl (lv_at hl 1 rfl) ?_
  refine zs_l (va_runS (As := [.long x0, .long x1]) (rest := []) ⟨hx, hb, hml, hown, hts⟩ (n_lesserV l dC dI x0 x1  H.size) (va_cwS 2 hts gd_n_leastOfV_314_n_lesserV rfl rfl rfl dd_n_lesserV ⟨Nat.le_of_ble_eq_true rfl, Nat.le_of_ble_eq_true rfl⟩) (preS (A := A) empP (hK.sub (tys' := []) [] rfl) empD hE) rfl rfl hl.1 rfl (lv_room (Nat.le_of_ble_eq_true rfl)) dX12_leastOf_2 ⟨Nat.le_of_ble_eq_true rfl, Nat.le_of_ble_eq_true rfl⟩) hP hD hS hA (fun y1_ H locs hq hP hD hS => ?_)
  have f2_ := hq
  refine W.widen (k := 0) (n := 0) (Nat.le_of_ble_eq_true rfl) (Nat.le_of_ble_eq_true rfl) ?_
  refine lv_lload hx hb dX12_leastOf_5 (lv_at hl 2 rfl) ?_
  refine lv_lload hx hb dX12_leastOf_7 (lv_at hl 3 rfl) ?_
  refine zs_l (va_runS (As := [.long x2, .long x3]) (rest := [.long y1_]) ⟨hx, hb, hml, hown, hts⟩ (n_lesserV l dC dI x2 x3  H.size) (va_cwS 2 hts gd_n_leastOfV_314_n_lesserV rfl rfl rfl dd_n_lesserV ⟨Nat.le_of_ble_eq_true rfl, Nat.le_of_ble_eq_true rfl⟩) (preS (A := A) empP (hK.sub (tys' := []) [] rfl) empD hE) rfl rfl hl.1 rfl (lv_room (Nat.le_of_ble_eq_true rfl)) dX12_leastOf_9 ⟨Nat.le_of_ble_eq_true rfl, Nat.le_of_ble_eq_true rfl⟩) hP hD hS hA (fun y3_ H locs hq hP hD hS => ?_)
  have f4_ := hq
  refine W.widen (k := 0) (n := 0) (Nat.le_of_ble_eq_true rfl) (Nat.le_of_ble_eq_true rfl) ?_
  refine zs_l (va_runS (As := [.long y1_, .long y3_]) (rest := []) ⟨hx, hb, hml, hown, hts⟩ (n_lesserV l dC dI y1_ y3_  H.size) (va_cwS 2 hts gd_n_leastOfV_314_n_lesserV rfl rfl rfl dd_n_lesserV ⟨Nat.le_of_ble_eq_true rfl, Nat.le_of_ble_eq_true rfl⟩) (preS (A := A) empP (hK.sub (tys' := []) [] rfl) empD hE) rfl rfl hl.1 rfl (lv_room (Nat.le_of_ble_eq_true rfl)) dX12_leastOf_12 ⟨Nat.le_of_ble_eq_true rfl, Nat.le_of_ble_eq_true rfl⟩) hP hD hS hA (fun y5_ H locs hq hP hD hS => ?_)
  have f6_ := hq
  refine W.widen (k := 0) (n := 0) (Nat.le_of_ble_eq_true rfl) (Nat.le_of_ble_eq_true rfl) ?_
  rw [hQ]
  exact W.lret (v := y5_) hx hb hr (fun t ht hW => ⟨⟨y5_, (), rfl, (by simp only [lo4, f2_, f4_, f6_]), wEn_of empP (hK.sub [] rfl) empD ht hW⟩, hS.F ht⟩) hS.2.2 dX12_leastOf_15
def ow_n_mostOfV : List Cond := []
def vs_n_mostOfV : List Cond := .code yX12_mostOf cX12_mostOf 8 (some .long) :: (ow_n_mostOfV ++ (([.methodLink RX12 318 yX12_greater, .static yX12_greater, .initialized yX12_greater.cls] : List Cond) ++ (vs_n_greaterV)))
theorem vg_n_mostOfV : vs_n_mostOfV.all goodWord = true := by decide +kernel
theorem dd_n_mostOfV : yX12_mostOf.cls ≠ "java/lang/invoke/MethodHandle" ∧ yX12_mostOf.cls ≠ "java/lang/invoke/VarHandle" ∧ (parseMethodDescriptor yX12_mostOf.desc).map (fun d => d.parameters.length) = some 4 := by decide +kernel
def rm_n_mostOfV : Room := { frames := 1, cells := 0, slots := 0, locals := 23 }
theorem gd_n_mostOfV_318_n_greaterV : GoodIn vs_n_mostOfV (va_wsS RX12 318 yX12_greater vs_n_greaterV) := goodIn_app (goodIn_sub (fun w h => (List.mem_cons_of_mem _ (List.mem_append_right _ (List.mem_append_left _ h)))) (by decide +kernel)) (goodIn_sub (fun w h => (List.mem_cons_of_mem _ (List.mem_append_right _ (List.mem_append_right _ h)))) vg_n_greaterV)
set_option maxHeartbeats 4000000 in
set_option maxRecDepth 100000 in
theorem n_mostOfV (l : Launch) (dC : Nat → ClassId) (dI : Nat → Nat → Nat) (x0 : Int64) (x1 : Int64) (x2 : Int64) (x3 : Int64)  (sz : Nat) : Met l yX12_mostOf vs_n_mostOfV rm_n_mostOfV (va_Pc [.long x0, .long x1, .long x2, .long x3] (wSt dC dI [] [] sz)) (va_Ql (fun (r : Int64) (_ : Unit) => r = hi4 x0 x1 x2 x3) (fun (_ : Unit) => wEn dC dI (va_A [] sz) [] []) (va_A ([]) sz)) 0 0 (va_A ([]) sz) := by
  refine Met.ofW (cc := cX12_mostOf) (maxL := 8) (ret := (some .long)) (by decide) rfl ?_
  intro p e s m args below meth c s₁ B hml hv
  obtain ⟨rfl, hsz, hP, hK, hD0, hE⟩ := hv
  have hx := B.exec
  have hb := B.bytes
  have hr := B.returns
  have hts := atoms_spec (ws := vs_n_mostOfV) B.pre
  have hown : s.vm.findClass RX12 = some m.cls := findClass_of_methodNamed B.named
  have hlocks := B.notSynchronized
  subst hsz
  have hD := hD0.self (sz := s.heap.size)
  generalize hAe : va_A ([]) s.heap.size = A at hD ⊢
  have hA : ∀ q : Nat, s.heap.size ≤ q → A q := fun q h => by rw [← hAe]; exact Or.inr h
  have hl := lv_entry ([.long x0, .long x1, .long x2, .long x3]) (n := 8) (Nat.le_of_ble_eq_true rfl)
  rw [lg_entry_eq]
  generalize (lg_sl ([.long x0, .long x1, .long x2, .long x3]) ++ List.replicate (8 - (lg_sl ([.long x0, .long x1, .long x2, .long x3])).length) Slot.unset).toArray = ls at hl ⊢
  have hl : lv_has ls 8 [(0, .long x0), (2, .long x1), (4, .long x2), (6, .long x3)] := hl
  have ho := fun w (h : w ∈ ow_n_mostOfV) => hts w (List.mem_cons_of_mem _ (List.mem_append_left _ h))
  refine zQ (fun Q hQ => ?_)
  refine zH (A := A) (ws := []) (fun H hP hS => ?_) hP
  refine lv_lload_n hx hb dX12_mostOf_0 rfl (lv_at hl 0 rfl) ?_
  refine lv_lload_n hx hb dX12_mostOf_1 rfl (lv_at hl 1 rfl) ?_
  refine zs_l (va_runS (As := [.long x0, .long x1]) (rest := []) ⟨hx, hb, hml, hown, hts⟩ (n_greaterV l dC dI x0 x1  H.size) (va_cwS 2 hts gd_n_mostOfV_318_n_greaterV rfl rfl rfl dd_n_greaterV ⟨Nat.le_of_ble_eq_true rfl, Nat.le_of_ble_eq_true rfl⟩) (preS (A := A) empP (hK.sub (tys' := []) [] rfl) empD hE) rfl rfl hl.1 rfl (lv_room (Nat.le_of_ble_eq_true rfl)) dX12_mostOf_2 ⟨Nat.le_of_ble_eq_true rfl, Nat.le_of_ble_eq_true rfl⟩) hP hD hS hA (fun y1_ H locs hq hP hD hS => ?_)
  have f2_ := hq
  refine W.widen (k := 0) (n := 0) (Nat.le_of_ble_eq_true rfl) (Nat.le_of_ble_eq_true rfl) ?_
  refine lv_lload hx hb dX12_mostOf_5 (lv_at hl 2 rfl) ?_
  refine lv_lload hx hb dX12_mostOf_7 (lv_at hl 3 rfl) ?_
  refine zs_l (va_runS (As := [.long x2, .long x3]) (rest := [.long y1_]) ⟨hx, hb, hml, hown, hts⟩ (n_greaterV l dC dI x2 x3  H.size) (va_cwS 2 hts gd_n_mostOfV_318_n_greaterV rfl rfl rfl dd_n_greaterV ⟨Nat.le_of_ble_eq_true rfl, Nat.le_of_ble_eq_true rfl⟩) (preS (A := A) empP (hK.sub (tys' := []) [] rfl) empD hE) rfl rfl hl.1 rfl (lv_room (Nat.le_of_ble_eq_true rfl)) dX12_mostOf_9 ⟨Nat.le_of_ble_eq_true rfl, Nat.le_of_ble_eq_true rfl⟩) hP hD hS hA (fun y3_ H locs hq hP hD hS => ?_)
  have f4_ := hq
  refine W.widen (k := 0) (n := 0) (Nat.le_of_ble_eq_true rfl) (Nat.le_of_ble_eq_true rfl) ?_
  refine zs_l (va_runS (As := [.long y1_, .long y3_]) (rest := []) ⟨hx, hb, hml, hown, hts⟩ (n_greaterV l dC dI y1_ y3_  H.size) (va_cwS 2 hts gd_n_mostOfV_318_n_greaterV rfl rfl rfl dd_n_greaterV ⟨Nat.le_of_ble_eq_true rfl, Nat.le_of_ble_eq_true rfl⟩) (preS (A := A) empP (hK.sub (tys' := []) [] rfl) empD hE) rfl rfl hl.1 rfl (lv_room (Nat.le_of_ble_eq_true rfl)) dX12_mostOf_12 ⟨Nat.le_of_ble_eq_true rfl, Nat.le_of_ble_eq_true rfl⟩) hP hD hS hA (fun y5_ H locs hq hP hD hS => ?_)
  have f6_ := hq
  refine W.widen (k := 0) (n := 0) (Nat.le_of_ble_eq_true rfl) (Nat.le_of_ble_eq_true rfl) ?_
  rw [hQ]
  exact W.lret (v := y5_) hx hb hr (fun t ht hW => ⟨⟨y5_, (), rfl, (by simp only [hi4, f2_, f4_, f6_]), wEn_of empP (hK.sub [] rfl) empD ht hW⟩, hS.F ht⟩) hS.2.2 dX12_mostOf_15
def ow_n_lowOver : List Cond := [.fieldLink RX12 70 "NearEnoughModel" "sLeast" "[J", .fieldLink RX12 107 "NearEnoughModel" "low" "[J", .fieldLink RX12 73 "NearEnoughModel" "sMost" "[J"]
def vs_n_lowOver : List Cond := .code yX12_lowOver cX12_lowOver 3 (some .long) :: (ow_n_lowOver ++ (([.methodLink RX12 331 yX12_at0, .instanceMethod yX12_at0, .selects RX12 yX12_at0 yX12_at0, .initialized RX12] : List Cond) ++ (vs_n_at0 ++ (wsX120))))
theorem vg_n_lowOver : vs_n_lowOver.all goodWord = true := by decide +kernel
theorem dd_n_lowOver : yX12_lowOver.cls = RX12 ∧ yX12_lowOver.cls ≠ "java/lang/invoke/MethodHandle" ∧ yX12_lowOver.cls ≠ "java/lang/invoke/VarHandle" ∧ (parseMethodDescriptor yX12_lowOver.desc).map (fun d => d.parameters.length) = some 2 := by decide +kernel
def rm_n_lowOver : Room := { frames := 1, cells := 0, slots := 0, locals := 21 }
theorem gd_n_lowOver_331_n_at0 : GoodIn vs_n_lowOver (wsV RX12 331 RX12 yX12_at0 vs_n_at0) := goodIn_app (goodIn_sub (fun w h => (List.mem_cons_of_mem _ (List.mem_append_right _ (List.mem_append_left _ h)))) (by decide +kernel)) (goodIn_sub (fun w h => (List.mem_cons_of_mem _ (List.mem_append_right _ (List.mem_append_right _ (List.mem_append_left _ h))))) vg_n_at0)
set_option maxHeartbeats 4000000 in
set_option maxRecDepth 100000 in
theorem n_lowOver (l : Launch) (dC : Nat → ClassId) (dI : Nat → Nat → Nat) (h : Nat) (ad : Nat → Nat) (cl : Nat → ClassId) (sz : Nat) (σ : MS) (oa : Int32) (ob : Int32) (hI : Inv σ) (hoa : 0 ≤ oa.toInt ∧ oa.toInt ≤ 11) (hob : 0 ≤ ob.toInt ∧ ob.toInt ≤ 11) : Met l yX12_lowOver vs_n_lowOver rm_n_lowOver (va_Pc [.ref h, .int oa, .int ob] (wSt dC dI (mW h ad cl σ) (mT cl) sz)) (va_Ql (fun (r : Int64) (τ : MS) => σ = τ ∧ r = ovLo (σ.1 29).toNatClampNeg (coJ σ) (σ.2.2.1 43) oa.toNatClampNeg ob.toNatClampNeg) (fun (τ : MS) => wEn dC dI (va_A (mW h ad cl σ) sz) (mW h ad cl τ) []) (va_A (mW h ad cl σ) sz)) 0 0 (va_A (mW h ad cl σ) sz) := by
  refine Met.ofW (cc := cX12_lowOver) (maxL := 3) (ret := (some .long)) (by decide) rfl ?_
  intro p e s m args below meth c s₁ B hml hv
  obtain ⟨rfl, hsz, hP, hK, hD0, hE⟩ := hv
  have hx := B.exec
  have hb := B.bytes
  have hr := B.returns
  have hts := atoms_spec (ws := vs_n_lowOver) B.pre
  have hown : s.vm.findClass RX12 = some m.cls := findClass_of_methodNamed B.named
  have hlocks := B.notSynchronized
  subst hsz
  have hD := hD0.self (sz := s.heap.size)
  generalize hAe : va_A (mW h ad cl σ) s.heap.size = A at hD ⊢
  have hA : ∀ q : Nat, s.heap.size ≤ q → A q := fun q h => by rw [← hAe]; exact Or.inr h
  have hl := lv_entry ([.ref h, .int oa, .int ob]) (n := 3) (Nat.le_of_ble_eq_true rfl)
  rw [lg_entry_eq]
  generalize (lg_sl ([.ref h, .int oa, .int ob]) ++ List.replicate (3 - (lg_sl ([.ref h, .int oa, .int ob])).length) Slot.unset).toArray = ls at hl ⊢
  have hl : lv_has ls 3 [(0, .ref h), (1, .int oa), (2, .int ob)] := hl
  have ho := fun w (h : w ∈ ow_n_lowOver) => hts w (List.mem_cons_of_mem _ (List.mem_append_left _ h))
  have hin12 : ∀ w ∈ u_ws RX12 TX12 59, w ∈ vs_n_lowOver := fun w h => (List.mem_cons_of_mem _ (List.mem_append_right _ (List.mem_append_right _ (List.mem_append_right _ h))))
  refine zQ (fun Q hQ => ?_)
  refine zH (A := A) (ws := mW h ad cl σ) (fun H hP hS => ?_) hP
  have bσ_29 : 0 ≤ (σ.1 29).toInt ∧ (σ.1 29).toInt ≤ 1 := hI.1 29
  refine lv_aload_n hx hb dX12_lowOver_0 rfl (lv_at hl 0 rfl) ?_
  refine va_get (D := (dC, dI)) (ci := 12) (v := .ref (ad 27)) (C := RX12) (T := TX12) (N := 59) hx hb hts hin12 hown hK hP 0 rfl rfl 27 (Nat.le_of_ble_eq_true rfl) (ho (.fieldLink RX12 70 "NearEnoughModel" "sLeast" "[J") (List.mem_of_getElem? (i := 0) rfl)) (fun _ h9 => h9) rfl dX12_lowOver_1 ?_
  refine lv_aload_n hx hb dX12_lowOver_4 rfl (lv_at hl 0 rfl) ?_
  refine lv_iload_n hx hb dX12_lowOver_5 rfl (lv_at hl 1 rfl) ?_
  have o1 : 0 ≤ oa.toInt := by omega
  have o2 : oa.toInt ≤ 11 := by omega
  refine zy_i (va_runV (As := [.int oa]) (rest := [.ref (ad 27)]) ⟨hx, hb, hml, hown, hts⟩ (n_at0 l dC dI h ad cl H.size σ oa hI ⟨o1, o2⟩) (cwV 1 hts gd_n_lowOver_331_n_at0 rfl rfl rfl dd_n_at0 ⟨Nat.le_of_ble_eq_true rfl, Nat.le_of_ble_eq_true rfl⟩) (preV hP hK hD hE (ci := 12) (q0 := 0) rfl rfl) rfl rfl hl.1 rfl (lv_room (Nat.le_of_ble_eq_true rfl)) dX12_lowOver_6 ⟨Nat.le_of_ble_eq_true rfl, Nat.le_of_ble_eq_true rfl⟩) hD hS hA (fun z2_ τ1_ H locs hq hP hD hS => ?_)
  obtain ⟨rfl, f3_⟩ := hq
  refine W.widen (k := 0) (n := 0) (Nat.le_of_ble_eq_true rfl) (Nat.le_of_ble_eq_true rfl) ?_
  have o3 : z2_.toInt = 12 * (σ.1 29).toInt + oa.toInt := by omega
  have Xz2_ : z2_.toNatClampNeg = 12 * (σ.1 29).toNatClampNeg + oa.toNatClampNeg := at0x (hI.1 29).1 o1 o3
  have o4 : 0 ≤ z2_.toInt := by omega
  have o5 : z2_.toInt < ((24 : Nat) : Int) := by omega
  refine va_lald hx hb hK hP 19 18 rfl rfl (ti_inx o4 o5) dX12_lowOver_9 ?_
  refine lv_topl (fun y4_ ey4_ => ?_)
  refine lv_aload_n hx hb dX12_lowOver_10 rfl (lv_at hl 0 rfl) ?_
  refine va_get (D := (dC, dI)) (ci := 12) (v := .ref (ad 43)) (C := RX12) (T := TX12) (N := 59) hx hb hts hin12 hown hK hP 0 rfl rfl 43 (Nat.le_of_ble_eq_true rfl) (ho (.fieldLink RX12 107 "NearEnoughModel" "low" "[J") (List.mem_of_getElem? (i := 1) rfl)) (fun _ h9 => h9) rfl dX12_lowOver_11 ?_
  refine lv_iload_n hx hb dX12_lowOver_14 rfl (lv_at hl 1 rfl) ?_
  have o6 : oa.toInt < ((12 : Nat) : Int) := by omega
  refine va_lald hx hb hK hP 31 30 rfl rfl (ti_inx o1 o6) dX12_lowOver_15 ?_
  refine lv_topl (fun y5_ ey5_ => ?_)
  refine lv_ladd hx hb dX12_lowOver_16 ?_
  refine lv_topl (fun y6_ ey6_ => ?_)
  refine lv_aload_n hx hb dX12_lowOver_17 rfl (lv_at hl 0 rfl) ?_
  refine va_get (D := (dC, dI)) (ci := 12) (v := .ref (ad 28)) (C := RX12) (T := TX12) (N := 59) hx hb hts hin12 hown hK hP 0 rfl rfl 28 (Nat.le_of_ble_eq_true rfl) (ho (.fieldLink RX12 73 "NearEnoughModel" "sMost" "[J") (List.mem_of_getElem? (i := 2) rfl)) (fun _ h9 => h9) rfl dX12_lowOver_18 ?_
  refine lv_aload_n hx hb dX12_lowOver_21 rfl (lv_at hl 0 rfl) ?_
  refine lv_iload_n hx hb dX12_lowOver_22 rfl (lv_at hl 2 rfl) ?_
  have o7 : 0 ≤ ob.toInt := by omega
  have o8 : ob.toInt ≤ 11 := by omega
  refine zy_i (va_runV (As := [.int ob]) (rest := [.ref (ad 28), .long y6_]) ⟨hx, hb, hml, hown, hts⟩ (n_at0 l dC dI h ad cl H.size σ ob hI ⟨o7, o8⟩) (cwV 1 hts gd_n_lowOver_331_n_at0 rfl rfl rfl dd_n_at0 ⟨Nat.le_of_ble_eq_true rfl, Nat.le_of_ble_eq_true rfl⟩) (preV hP hK hD hE (ci := 12) (q0 := 0) rfl rfl) rfl rfl hl.1 rfl (lv_room (Nat.le_of_ble_eq_true rfl)) dX12_lowOver_23 ⟨Nat.le_of_ble_eq_true rfl, Nat.le_of_ble_eq_true rfl⟩) hD hS hA (fun z8_ τ7_ H locs hq hP hD hS => ?_)
  obtain ⟨rfl, f9_⟩ := hq
  refine W.widen (k := 0) (n := 0) (Nat.le_of_ble_eq_true rfl) (Nat.le_of_ble_eq_true rfl) ?_
  have o9 : z8_.toInt = 12 * (σ.1 29).toInt + ob.toInt := by omega
  have Xz8_ : z8_.toNatClampNeg = 12 * (σ.1 29).toNatClampNeg + ob.toNatClampNeg := at0x (hI.1 29).1 o7 o9
  have o10 : 0 ≤ z8_.toInt := by omega
  have o11 : z8_.toInt < ((24 : Nat) : Int) := by omega
  refine va_lald hx hb hK hP 20 19 rfl rfl (ti_inx o10 o11) dX12_lowOver_26 ?_
  refine lv_topl (fun y10_ ey10_ => ?_)
  refine lv_lsub hx hb dX12_lowOver_27 ?_
  refine lv_topl (fun y11_ ey11_ => ?_)
  rw [hQ]
  exact W.lret (v := y11_) hx hb hr (fun t ht hW => ⟨⟨y11_, σ, rfl, ⟨rfl, (by simp only [ovLo, ey4_, ey5_, ey6_, ey10_, ey11_, Xz2_, Xz8_] <;> rfl)⟩, wEn_of hP (hK.sub [] rfl) hD ht hW⟩, hS.F ht⟩) hS.2.2 dX12_lowOver_28
def ow_n_highOver : List Cond := [.fieldLink RX12 73 "NearEnoughModel" "sMost" "[J", .fieldLink RX12 110 "NearEnoughModel" "high0" "[J", .fieldLink RX12 70 "NearEnoughModel" "sLeast" "[J"]
def vs_n_highOver : List Cond := .code yX12_highOver cX12_highOver 3 (some .long) :: (ow_n_highOver ++ (([.methodLink RX12 331 yX12_at0, .instanceMethod yX12_at0, .selects RX12 yX12_at0 yX12_at0, .initialized RX12] : List Cond) ++ (vs_n_at0 ++ (wsX120))))
theorem vg_n_highOver : vs_n_highOver.all goodWord = true := by decide +kernel
theorem dd_n_highOver : yX12_highOver.cls = RX12 ∧ yX12_highOver.cls ≠ "java/lang/invoke/MethodHandle" ∧ yX12_highOver.cls ≠ "java/lang/invoke/VarHandle" ∧ (parseMethodDescriptor yX12_highOver.desc).map (fun d => d.parameters.length) = some 2 := by decide +kernel
def rm_n_highOver : Room := { frames := 1, cells := 0, slots := 0, locals := 21 }
theorem gd_n_highOver_331_n_at0 : GoodIn vs_n_highOver (wsV RX12 331 RX12 yX12_at0 vs_n_at0) := goodIn_app (goodIn_sub (fun w h => (List.mem_cons_of_mem _ (List.mem_append_right _ (List.mem_append_left _ h)))) (by decide +kernel)) (goodIn_sub (fun w h => (List.mem_cons_of_mem _ (List.mem_append_right _ (List.mem_append_right _ (List.mem_append_left _ h))))) vg_n_at0)
set_option maxHeartbeats 4000000 in
set_option maxRecDepth 100000 in
theorem n_highOver (l : Launch) (dC : Nat → ClassId) (dI : Nat → Nat → Nat) (h : Nat) (ad : Nat → Nat) (cl : Nat → ClassId) (sz : Nat) (σ : MS) (oa : Int32) (ob : Int32) (hI : Inv σ) (hoa : 0 ≤ oa.toInt ∧ oa.toInt ≤ 11) (hob : 0 ≤ ob.toInt ∧ ob.toInt ≤ 11) : Met l yX12_highOver vs_n_highOver rm_n_highOver (va_Pc [.ref h, .int oa, .int ob] (wSt dC dI (mW h ad cl σ) (mT cl) sz)) (va_Ql (fun (r : Int64) (τ : MS) => σ = τ ∧ r = ovHi (σ.1 29).toNatClampNeg (coJ σ) (σ.2.2.1 44) oa.toNatClampNeg ob.toNatClampNeg) (fun (τ : MS) => wEn dC dI (va_A (mW h ad cl σ) sz) (mW h ad cl τ) []) (va_A (mW h ad cl σ) sz)) 0 0 (va_A (mW h ad cl σ) sz) := by
  refine Met.ofW (cc := cX12_highOver) (maxL := 3) (ret := (some .long)) (by decide) rfl ?_
  intro p e s m args below meth c s₁ B hml hv
  obtain ⟨rfl, hsz, hP, hK, hD0, hE⟩ := hv
  have hx := B.exec
  have hb := B.bytes
  have hr := B.returns
  have hts := atoms_spec (ws := vs_n_highOver) B.pre
  have hown : s.vm.findClass RX12 = some m.cls := findClass_of_methodNamed B.named
  have hlocks := B.notSynchronized
  subst hsz
  have hD := hD0.self (sz := s.heap.size)
  generalize hAe : va_A (mW h ad cl σ) s.heap.size = A at hD ⊢
  have hA : ∀ q : Nat, s.heap.size ≤ q → A q := fun q h => by rw [← hAe]; exact Or.inr h
  have hl := lv_entry ([.ref h, .int oa, .int ob]) (n := 3) (Nat.le_of_ble_eq_true rfl)
  rw [lg_entry_eq]
  generalize (lg_sl ([.ref h, .int oa, .int ob]) ++ List.replicate (3 - (lg_sl ([.ref h, .int oa, .int ob])).length) Slot.unset).toArray = ls at hl ⊢
  have hl : lv_has ls 3 [(0, .ref h), (1, .int oa), (2, .int ob)] := hl
  have ho := fun w (h : w ∈ ow_n_highOver) => hts w (List.mem_cons_of_mem _ (List.mem_append_left _ h))
  have hin12 : ∀ w ∈ u_ws RX12 TX12 59, w ∈ vs_n_highOver := fun w h => (List.mem_cons_of_mem _ (List.mem_append_right _ (List.mem_append_right _ (List.mem_append_right _ h))))
  refine zQ (fun Q hQ => ?_)
  refine zH (A := A) (ws := mW h ad cl σ) (fun H hP hS => ?_) hP
  have bσ_29 : 0 ≤ (σ.1 29).toInt ∧ (σ.1 29).toInt ≤ 1 := hI.1 29
  refine lv_aload_n hx hb dX12_highOver_0 rfl (lv_at hl 0 rfl) ?_
  refine va_get (D := (dC, dI)) (ci := 12) (v := .ref (ad 28)) (C := RX12) (T := TX12) (N := 59) hx hb hts hin12 hown hK hP 0 rfl rfl 28 (Nat.le_of_ble_eq_true rfl) (ho (.fieldLink RX12 73 "NearEnoughModel" "sMost" "[J") (List.mem_of_getElem? (i := 0) rfl)) (fun _ h9 => h9) rfl dX12_highOver_1 ?_
  refine lv_aload_n hx hb dX12_highOver_4 rfl (lv_at hl 0 rfl) ?_
  refine lv_iload_n hx hb dX12_highOver_5 rfl (lv_at hl 1 rfl) ?_
  have o1 : 0 ≤ oa.toInt := by omega
  have o2 : oa.toInt ≤ 11 := by omega
  refine zy_i (va_runV (As := [.int oa]) (rest := [.ref (ad 28)]) ⟨hx, hb, hml, hown, hts⟩ (n_at0 l dC dI h ad cl H.size σ oa hI ⟨o1, o2⟩) (cwV 1 hts gd_n_highOver_331_n_at0 rfl rfl rfl dd_n_at0 ⟨Nat.le_of_ble_eq_true rfl, Nat.le_of_ble_eq_true rfl⟩) (preV hP hK hD hE (ci := 12) (q0 := 0) rfl rfl) rfl rfl hl.1 rfl (lv_room (Nat.le_of_ble_eq_true rfl)) dX12_highOver_6 ⟨Nat.le_of_ble_eq_true rfl, Nat.le_of_ble_eq_true rfl⟩) hD hS hA (fun z2_ τ1_ H locs hq hP hD hS => ?_)
  obtain ⟨rfl, f3_⟩ := hq
  refine W.widen (k := 0) (n := 0) (Nat.le_of_ble_eq_true rfl) (Nat.le_of_ble_eq_true rfl) ?_
  have o3 : z2_.toInt = 12 * (σ.1 29).toInt + oa.toInt := by omega
  have Xz2_ : z2_.toNatClampNeg = 12 * (σ.1 29).toNatClampNeg + oa.toNatClampNeg := at0x (hI.1 29).1 o1 o3
  have o4 : 0 ≤ z2_.toInt := by omega
  have o5 : z2_.toInt < ((24 : Nat) : Int) := by omega
  refine va_lald hx hb hK hP 20 19 rfl rfl (ti_inx o4 o5) dX12_highOver_9 ?_
  refine lv_topl (fun y4_ ey4_ => ?_)
  refine lv_aload_n hx hb dX12_highOver_10 rfl (lv_at hl 0 rfl) ?_
  refine va_get (D := (dC, dI)) (ci := 12) (v := .ref (ad 44)) (C := RX12) (T := TX12) (N := 59) hx hb hts hin12 hown hK hP 0 rfl rfl 44 (Nat.le_of_ble_eq_true rfl) (ho (.fieldLink RX12 110 "NearEnoughModel" "high0" "[J") (List.mem_of_getElem? (i := 1) rfl)) (fun _ h9 => h9) rfl dX12_highOver_11 ?_
  refine lv_iload_n hx hb dX12_highOver_14 rfl (lv_at hl 1 rfl) ?_
  have o6 : oa.toInt < ((12 : Nat) : Int) := by omega
  refine va_lald hx hb hK hP 32 31 rfl rfl (ti_inx o1 o6) dX12_highOver_15 ?_
  refine lv_topl (fun y5_ ey5_ => ?_)
  refine lv_ladd hx hb dX12_highOver_16 ?_
  refine lv_topl (fun y6_ ey6_ => ?_)
  refine lv_aload_n hx hb dX12_highOver_17 rfl (lv_at hl 0 rfl) ?_
  refine va_get (D := (dC, dI)) (ci := 12) (v := .ref (ad 27)) (C := RX12) (T := TX12) (N := 59) hx hb hts hin12 hown hK hP 0 rfl rfl 27 (Nat.le_of_ble_eq_true rfl) (ho (.fieldLink RX12 70 "NearEnoughModel" "sLeast" "[J") (List.mem_of_getElem? (i := 2) rfl)) (fun _ h9 => h9) rfl dX12_highOver_18 ?_
  refine lv_aload_n hx hb dX12_highOver_21 rfl (lv_at hl 0 rfl) ?_
  refine lv_iload_n hx hb dX12_highOver_22 rfl (lv_at hl 2 rfl) ?_
  have o7 : 0 ≤ ob.toInt := by omega
  have o8 : ob.toInt ≤ 11 := by omega
  refine zy_i (va_runV (As := [.int ob]) (rest := [.ref (ad 27), .long y6_]) ⟨hx, hb, hml, hown, hts⟩ (n_at0 l dC dI h ad cl H.size σ ob hI ⟨o7, o8⟩) (cwV 1 hts gd_n_highOver_331_n_at0 rfl rfl rfl dd_n_at0 ⟨Nat.le_of_ble_eq_true rfl, Nat.le_of_ble_eq_true rfl⟩) (preV hP hK hD hE (ci := 12) (q0 := 0) rfl rfl) rfl rfl hl.1 rfl (lv_room (Nat.le_of_ble_eq_true rfl)) dX12_highOver_23 ⟨Nat.le_of_ble_eq_true rfl, Nat.le_of_ble_eq_true rfl⟩) hD hS hA (fun z8_ τ7_ H locs hq hP hD hS => ?_)
  obtain ⟨rfl, f9_⟩ := hq
  refine W.widen (k := 0) (n := 0) (Nat.le_of_ble_eq_true rfl) (Nat.le_of_ble_eq_true rfl) ?_
  have o9 : z8_.toInt = 12 * (σ.1 29).toInt + ob.toInt := by omega
  have Xz8_ : z8_.toNatClampNeg = 12 * (σ.1 29).toNatClampNeg + ob.toNatClampNeg := at0x (hI.1 29).1 o7 o9
  have o10 : 0 ≤ z8_.toInt := by omega
  have o11 : z8_.toInt < ((24 : Nat) : Int) := by omega
  refine va_lald hx hb hK hP 19 18 rfl rfl (ti_inx o10 o11) dX12_highOver_26 ?_
  refine lv_topl (fun y10_ ey10_ => ?_)
  refine lv_lsub hx hb dX12_highOver_27 ?_
  refine lv_topl (fun y11_ ey11_ => ?_)
  rw [hQ]
  exact W.lret (v := y11_) hx hb hr (fun t ht hW => ⟨⟨y11_, σ, rfl, ⟨rfl, (by simp only [ovHi, ey4_, ey5_, ey6_, ey10_, ey11_, Xz2_, Xz8_] <;> rfl)⟩, wEn_of hP (hK.sub [] rfl) hD ht hW⟩, hS.F ht⟩) hS.2.2 dX12_highOver_28
def ow_n_spreadTimes : List Cond := [.fieldLink RX12 70 "NearEnoughModel" "sLeast" "[J", .fieldLink RX12 73 "NearEnoughModel" "sMost" "[J", .fieldLink RX12 107 "NearEnoughModel" "low" "[J", .fieldLink RX12 110 "NearEnoughModel" "high0" "[J", .fieldLink RX12 379 "NearEnoughModel" "spanLow" "J", .fieldLink RX12 382 "NearEnoughModel" "spanHigh" "J"]
def vs_n_spreadTimes : List Cond := .code yX12_spreadTimes cX12_spreadTimes 19 none :: (ow_n_spreadTimes ++ (([.methodLink RX12 331 yX12_at0, .instanceMethod yX12_at0, .selects RX12 yX12_at0 yX12_at0, .initialized RX12] : List Cond) ++ (vs_n_at0 ++ (([.methodLink RX12 396 yX12_leastOf, .static yX12_leastOf, .initialized yX12_leastOf.cls] : List Cond) ++ (vs_n_leastOfV ++ (([.methodLink RX12 400 yX12_mostOf, .static yX12_mostOf, .initialized yX12_mostOf.cls] : List Cond) ++ (vs_n_mostOfV ++ (wsX120))))))))
theorem vg_n_spreadTimes : vs_n_spreadTimes.all goodWord = true := by decide +kernel
theorem dd_n_spreadTimes : yX12_spreadTimes.cls = RX12 ∧ yX12_spreadTimes.cls ≠ "java/lang/invoke/MethodHandle" ∧ yX12_spreadTimes.cls ≠ "java/lang/invoke/VarHandle" ∧ (parseMethodDescriptor yX12_spreadTimes.desc).map (fun d => d.parameters.length) = some 2 := by decide +kernel
def rm_n_spreadTimes : Room := { frames := 2, cells := 0, slots := 0, locals := 50 }
theorem gd_n_spreadTimes_331_n_at0 : GoodIn vs_n_spreadTimes (wsV RX12 331 RX12 yX12_at0 vs_n_at0) := goodIn_app (goodIn_sub (fun w h => (List.mem_cons_of_mem _ (List.mem_append_right _ (List.mem_append_left _ h)))) (by decide +kernel)) (goodIn_sub (fun w h => (List.mem_cons_of_mem _ (List.mem_append_right _ (List.mem_append_right _ (List.mem_append_left _ h))))) vg_n_at0)
theorem gd_n_spreadTimes_396_n_leastOfV : GoodIn vs_n_spreadTimes (va_wsS RX12 396 yX12_leastOf vs_n_leastOfV) := goodIn_app (goodIn_sub (fun w h => (List.mem_cons_of_mem _ (List.mem_append_right _ (List.mem_append_right _ (List.mem_append_right _ (List.mem_append_left _ h)))))) (by decide +kernel)) (goodIn_sub (fun w h => (List.mem_cons_of_mem _ (List.mem_append_right _ (List.mem_append_right _ (List.mem_append_right _ (List.mem_append_right _ (List.mem_append_left _ h))))))) vg_n_leastOfV)
theorem gd_n_spreadTimes_400_n_mostOfV : GoodIn vs_n_spreadTimes (va_wsS RX12 400 yX12_mostOf vs_n_mostOfV) := goodIn_app (goodIn_sub (fun w h => (List.mem_cons_of_mem _ (List.mem_append_right _ (List.mem_append_right _ (List.mem_append_right _ (List.mem_append_right _ (List.mem_append_right _ (List.mem_append_left _ h)))))))) (by decide +kernel)) (goodIn_sub (fun w h => (List.mem_cons_of_mem _ (List.mem_append_right _ (List.mem_append_right _ (List.mem_append_right _ (List.mem_append_right _ (List.mem_append_right _ (List.mem_append_right _ (List.mem_append_left _ h))))))))) vg_n_mostOfV)
set_option maxHeartbeats 4000000 in
set_option maxRecDepth 100000 in
theorem n_spreadTimes (l : Launch) (dC : Nat → ClassId) (dI : Nat → Nat → Nat) (h : Nat) (ad : Nat → Nat) (cl : Nat → ClassId) (sz : Nat) (σ : MS) (oa : Int32) (ob : Int32) (hI : Inv σ) (hoa : 0 ≤ oa.toInt ∧ oa.toInt ≤ 11) (hob : 0 ≤ ob.toInt ∧ ob.toInt ≤ 11) : Met l yX12_spreadTimes vs_n_spreadTimes rm_n_spreadTimes (va_Pc [.ref h, .int oa, .int ob] (wSt dC dI (mW h ad cl σ) (mT cl) sz)) (va_Qv (fun (τ : MS) => Inv τ ∧ eqx [45, 46] τ σ ∧ τ.2.2.2 45 = tmLo (σ.1 29).toNatClampNeg (coJ σ) (σ.2.2.1 43) (σ.2.2.1 44) oa.toNatClampNeg ob.toNatClampNeg ∧ τ.2.2.2 46 = tmHi (σ.1 29).toNatClampNeg (coJ σ) (σ.2.2.1 43) (σ.2.2.1 44) oa.toNatClampNeg ob.toNatClampNeg) (fun (τ : MS) => wEn dC dI (va_A (mW h ad cl σ) sz) (mW h ad cl τ) []) (va_A (mW h ad cl σ) sz)) 0 0 (va_A (mW h ad cl σ) sz) := by
  refine Met.ofW (cc := cX12_spreadTimes) (maxL := 19) (ret := none) (by decide) rfl ?_
  intro p e s m args below meth c s₁ B hml hv
  obtain ⟨rfl, hsz, hP, hK, hD0, hE⟩ := hv
  have hx := B.exec
  have hb := B.bytes
  have hr := B.returns
  have hts := atoms_spec (ws := vs_n_spreadTimes) B.pre
  have hown : s.vm.findClass RX12 = some m.cls := findClass_of_methodNamed B.named
  have hlocks := B.notSynchronized
  subst hsz
  have hD := hD0.self (sz := s.heap.size)
  generalize hAe : va_A (mW h ad cl σ) s.heap.size = A at hD ⊢
  have hA : ∀ q : Nat, s.heap.size ≤ q → A q := fun q h => by rw [← hAe]; exact Or.inr h
  have hl := lv_entry ([.ref h, .int oa, .int ob]) (n := 19) (Nat.le_of_ble_eq_true rfl)
  rw [lg_entry_eq]
  generalize (lg_sl ([.ref h, .int oa, .int ob]) ++ List.replicate (19 - (lg_sl ([.ref h, .int oa, .int ob])).length) Slot.unset).toArray = ls at hl ⊢
  have hl : lv_has ls 19 [(0, .ref h), (1, .int oa), (2, .int ob)] := hl
  have ho := fun w (h : w ∈ ow_n_spreadTimes) => hts w (List.mem_cons_of_mem _ (List.mem_append_left _ h))
  have hin12 : ∀ w ∈ u_ws RX12 TX12 59, w ∈ vs_n_spreadTimes := fun w h => (List.mem_cons_of_mem _ (List.mem_append_right _ (List.mem_append_right _ (List.mem_append_right _ (List.mem_append_right _ (List.mem_append_right _ (List.mem_append_right _ (List.mem_append_right _ h))))))))
  refine zQ (fun Q hQ => ?_)
  refine zH (A := A) (ws := mW h ad cl σ) (fun H hP hS => ?_) hP
  have bσ_29 : 0 ≤ (σ.1 29).toInt ∧ (σ.1 29).toInt ≤ 1 := hI.1 29
  refine lv_aload_n hx hb dX12_spreadTimes_0 rfl (lv_at hl 0 rfl) ?_
  refine va_get (D := (dC, dI)) (ci := 12) (v := .ref (ad 27)) (C := RX12) (T := TX12) (N := 59) hx hb hts hin12 hown hK hP 0 rfl rfl 27 (Nat.le_of_ble_eq_true rfl) (ho (.fieldLink RX12 70 "NearEnoughModel" "sLeast" "[J") (List.mem_of_getElem? (i := 0) rfl)) (fun _ h9 => h9) rfl dX12_spreadTimes_1 ?_
  refine lv_aload_n hx hb dX12_spreadTimes_4 rfl (lv_at hl 0 rfl) ?_
  refine lv_iload_n hx hb dX12_spreadTimes_5 rfl (lv_at hl 1 rfl) ?_
  have o1 : 0 ≤ oa.toInt := by omega
  have o2 : oa.toInt ≤ 11 := by omega
  refine zy_i (va_runV (As := [.int oa]) (rest := [.ref (ad 27)]) ⟨hx, hb, hml, hown, hts⟩ (n_at0 l dC dI h ad cl H.size σ oa hI ⟨o1, o2⟩) (cwV 1 hts gd_n_spreadTimes_331_n_at0 rfl rfl rfl dd_n_at0 ⟨Nat.le_of_ble_eq_true rfl, Nat.le_of_ble_eq_true rfl⟩) (preV hP hK hD hE (ci := 12) (q0 := 0) rfl rfl) rfl rfl hl.1 rfl (lv_room (Nat.le_of_ble_eq_true rfl)) dX12_spreadTimes_6 ⟨Nat.le_of_ble_eq_true rfl, Nat.le_of_ble_eq_true rfl⟩) hD hS hA (fun z2_ τ1_ H locs hq hP hD hS => ?_)
  obtain ⟨rfl, f3_⟩ := hq
  refine W.widen (k := 0) (n := 0) (Nat.le_of_ble_eq_true rfl) (Nat.le_of_ble_eq_true rfl) ?_
  have o3 : z2_.toInt = 12 * (σ.1 29).toInt + oa.toInt := by omega
  have Xz2_ : z2_.toNatClampNeg = 12 * (σ.1 29).toNatClampNeg + oa.toNatClampNeg := at0x (hI.1 29).1 o1 o3
  have o4 : 0 ≤ z2_.toInt := by omega
  have o5 : z2_.toInt < ((24 : Nat) : Int) := by omega
  refine va_lald hx hb hK hP 19 18 rfl rfl (ti_inx o4 o5) dX12_spreadTimes_9 ?_
  refine lv_topl (fun y4_ ey4_ => ?_)
  refine lv_lstore_n (lv' := [(3, .long y4_), (0, .ref h), (1, .int oa), (2, .int ob)]) hx hb dX12_spreadTimes_10 rfl hl (Nat.le_of_ble_eq_true rfl) rfl (fun ls hl => ?_)
  refine lv_aload_n hx hb dX12_spreadTimes_11 rfl (lv_at hl 1 rfl) ?_
  refine va_get (D := (dC, dI)) (ci := 12) (v := .ref (ad 28)) (C := RX12) (T := TX12) (N := 59) hx hb hts hin12 hown hK hP 0 rfl rfl 28 (Nat.le_of_ble_eq_true rfl) (ho (.fieldLink RX12 73 "NearEnoughModel" "sMost" "[J") (List.mem_of_getElem? (i := 1) rfl)) (fun _ h9 => h9) rfl dX12_spreadTimes_12 ?_
  refine lv_aload_n hx hb dX12_spreadTimes_15 rfl (lv_at hl 1 rfl) ?_
  refine lv_iload_n hx hb dX12_spreadTimes_16 rfl (lv_at hl 2 rfl) ?_
  refine zy_i (va_runV (As := [.int oa]) (rest := [.ref (ad 28)]) ⟨hx, hb, hml, hown, hts⟩ (n_at0 l dC dI h ad cl H.size σ oa hI ⟨o1, o2⟩) (cwV 1 hts gd_n_spreadTimes_331_n_at0 rfl rfl rfl dd_n_at0 ⟨Nat.le_of_ble_eq_true rfl, Nat.le_of_ble_eq_true rfl⟩) (preV hP hK hD hE (ci := 12) (q0 := 0) rfl rfl) rfl rfl hl.1 rfl (lv_room (Nat.le_of_ble_eq_true rfl)) dX12_spreadTimes_17 ⟨Nat.le_of_ble_eq_true rfl, Nat.le_of_ble_eq_true rfl⟩) hD hS hA (fun z6_ τ5_ H locs hq hP hD hS => ?_)
  obtain ⟨rfl, f7_⟩ := hq
  refine W.widen (k := 0) (n := 0) (Nat.le_of_ble_eq_true rfl) (Nat.le_of_ble_eq_true rfl) ?_
  have o6 : z6_.toInt = 12 * (σ.1 29).toInt + oa.toInt := by omega
  have Xz6_ : z6_.toNatClampNeg = 12 * (σ.1 29).toNatClampNeg + oa.toNatClampNeg := at0x (hI.1 29).1 o1 o6
  have o7 : 0 ≤ z6_.toInt := by omega
  have o8 : z6_.toInt < ((24 : Nat) : Int) := by omega
  refine va_lald hx hb hK hP 20 19 rfl rfl (ti_inx o7 o8) dX12_spreadTimes_20 ?_
  refine lv_topl (fun y8_ ey8_ => ?_)
  refine lv_lstore (lv' := [(5, .long y8_), (3, .long y4_), (0, .ref h), (1, .int oa), (2, .int ob)]) hx hb dX12_spreadTimes_21 hl (Nat.le_of_ble_eq_true rfl) rfl (fun ls hl => ?_)
  refine lv_aload_n hx hb dX12_spreadTimes_23 rfl (lv_at hl 2 rfl) ?_
  refine va_get (D := (dC, dI)) (ci := 12) (v := .ref (ad 27)) (C := RX12) (T := TX12) (N := 59) hx hb hts hin12 hown hK hP 0 rfl rfl 27 (Nat.le_of_ble_eq_true rfl) (ho (.fieldLink RX12 70 "NearEnoughModel" "sLeast" "[J") (List.mem_of_getElem? (i := 0) rfl)) (fun _ h9 => h9) rfl dX12_spreadTimes_24 ?_
  refine lv_aload_n hx hb dX12_spreadTimes_27 rfl (lv_at hl 2 rfl) ?_
  refine lv_iload_n hx hb dX12_spreadTimes_28 rfl (lv_at hl 4 rfl) ?_
  have o9 : 0 ≤ ob.toInt := by omega
  have o10 : ob.toInt ≤ 11 := by omega
  refine zy_i (va_runV (As := [.int ob]) (rest := [.ref (ad 27)]) ⟨hx, hb, hml, hown, hts⟩ (n_at0 l dC dI h ad cl H.size σ ob hI ⟨o9, o10⟩) (cwV 1 hts gd_n_spreadTimes_331_n_at0 rfl rfl rfl dd_n_at0 ⟨Nat.le_of_ble_eq_true rfl, Nat.le_of_ble_eq_true rfl⟩) (preV hP hK hD hE (ci := 12) (q0 := 0) rfl rfl) rfl rfl hl.1 rfl (lv_room (Nat.le_of_ble_eq_true rfl)) dX12_spreadTimes_29 ⟨Nat.le_of_ble_eq_true rfl, Nat.le_of_ble_eq_true rfl⟩) hD hS hA (fun z10_ τ9_ H locs hq hP hD hS => ?_)
  obtain ⟨rfl, f11_⟩ := hq
  refine W.widen (k := 0) (n := 0) (Nat.le_of_ble_eq_true rfl) (Nat.le_of_ble_eq_true rfl) ?_
  have o11 : z10_.toInt = 12 * (σ.1 29).toInt + ob.toInt := by omega
  have Xz10_ : z10_.toNatClampNeg = 12 * (σ.1 29).toNatClampNeg + ob.toNatClampNeg := at0x (hI.1 29).1 o9 o11
  have o12 : 0 ≤ z10_.toInt := by omega
  have o13 : z10_.toInt < ((24 : Nat) : Int) := by omega
  refine va_lald hx hb hK hP 19 18 rfl rfl (ti_inx o12 o13) dX12_spreadTimes_32 ?_
  refine lv_topl (fun y12_ ey12_ => ?_)
  refine lv_lstore (lv' := [(7, .long y12_), (5, .long y8_), (3, .long y4_), (0, .ref h), (1, .int oa), (2, .int ob)]) hx hb dX12_spreadTimes_33 hl (Nat.le_of_ble_eq_true rfl) rfl (fun ls hl => ?_)
  refine lv_aload_n hx hb dX12_spreadTimes_35 rfl (lv_at hl 3 rfl) ?_
  refine va_get (D := (dC, dI)) (ci := 12) (v := .ref (ad 28)) (C := RX12) (T := TX12) (N := 59) hx hb hts hin12 hown hK hP 0 rfl rfl 28 (Nat.le_of_ble_eq_true rfl) (ho (.fieldLink RX12 73 "NearEnoughModel" "sMost" "[J") (List.mem_of_getElem? (i := 1) rfl)) (fun _ h9 => h9) rfl dX12_spreadTimes_36 ?_
  refine lv_aload_n hx hb dX12_spreadTimes_39 rfl (lv_at hl 3 rfl) ?_
  refine lv_iload_n hx hb dX12_spreadTimes_40 rfl (lv_at hl 5 rfl) ?_
  refine zy_i (va_runV (As := [.int ob]) (rest := [.ref (ad 28)]) ⟨hx, hb, hml, hown, hts⟩ (n_at0 l dC dI h ad cl H.size σ ob hI ⟨o9, o10⟩) (cwV 1 hts gd_n_spreadTimes_331_n_at0 rfl rfl rfl dd_n_at0 ⟨Nat.le_of_ble_eq_true rfl, Nat.le_of_ble_eq_true rfl⟩) (preV hP hK hD hE (ci := 12) (q0 := 0) rfl rfl) rfl rfl hl.1 rfl (lv_room (Nat.le_of_ble_eq_true rfl)) dX12_spreadTimes_41 ⟨Nat.le_of_ble_eq_true rfl, Nat.le_of_ble_eq_true rfl⟩) hD hS hA (fun z14_ τ13_ H locs hq hP hD hS => ?_)
  obtain ⟨rfl, f15_⟩ := hq
  refine W.widen (k := 0) (n := 0) (Nat.le_of_ble_eq_true rfl) (Nat.le_of_ble_eq_true rfl) ?_
  have o14 : z14_.toInt = 12 * (σ.1 29).toInt + ob.toInt := by omega
  have Xz14_ : z14_.toNatClampNeg = 12 * (σ.1 29).toNatClampNeg + ob.toNatClampNeg := at0x (hI.1 29).1 o9 o14
  have o15 : 0 ≤ z14_.toInt := by omega
  have o16 : z14_.toInt < ((24 : Nat) : Int) := by omega
  refine va_lald hx hb hK hP 20 19 rfl rfl (ti_inx o15 o16) dX12_spreadTimes_44 ?_
  refine lv_topl (fun y16_ ey16_ => ?_)
  refine lv_lstore (lv' := [(9, .long y16_), (7, .long y12_), (5, .long y8_), (3, .long y4_), (0, .ref h), (1, .int oa), (2, .int ob)]) hx hb dX12_spreadTimes_45 hl (Nat.le_of_ble_eq_true rfl) rfl (fun ls hl => ?_)
  refine lv_aload_n hx hb dX12_spreadTimes_47 rfl (lv_at hl 4 rfl) ?_
  refine va_get (D := (dC, dI)) (ci := 12) (v := .ref (ad 43)) (C := RX12) (T := TX12) (N := 59) hx hb hts hin12 hown hK hP 0 rfl rfl 43 (Nat.le_of_ble_eq_true rfl) (ho (.fieldLink RX12 107 "NearEnoughModel" "low" "[J") (List.mem_of_getElem? (i := 2) rfl)) (fun _ h9 => h9) rfl dX12_spreadTimes_48 ?_
  refine lv_iload_n hx hb dX12_spreadTimes_51 rfl (lv_at hl 5 rfl) ?_
  have o17 : oa.toInt < ((12 : Nat) : Int) := by omega
  refine va_lald hx hb hK hP 31 30 rfl rfl (ti_inx o1 o17) dX12_spreadTimes_52 ?_
  refine lv_topl (fun y17_ ey17_ => ?_)
  refine lv_lstore (lv' := [(11, .long y17_), (9, .long y16_), (7, .long y12_), (5, .long y8_), (3, .long y4_), (0, .ref h), (1, .int oa), (2, .int ob)]) hx hb dX12_spreadTimes_53 hl (Nat.le_of_ble_eq_true rfl) rfl (fun ls hl => ?_)
  refine lv_aload_n hx hb dX12_spreadTimes_55 rfl (lv_at hl 5 rfl) ?_
  refine va_get (D := (dC, dI)) (ci := 12) (v := .ref (ad 44)) (C := RX12) (T := TX12) (N := 59) hx hb hts hin12 hown hK hP 0 rfl rfl 44 (Nat.le_of_ble_eq_true rfl) (ho (.fieldLink RX12 110 "NearEnoughModel" "high0" "[J") (List.mem_of_getElem? (i := 3) rfl)) (fun _ h9 => h9) rfl dX12_spreadTimes_56 ?_
  refine lv_iload_n hx hb dX12_spreadTimes_59 rfl (lv_at hl 6 rfl) ?_
  refine va_lald hx hb hK hP 32 31 rfl rfl (ti_inx o1 o17) dX12_spreadTimes_60 ?_
  refine lv_topl (fun y18_ ey18_ => ?_)
  refine lv_lstore (lv' := [(13, .long y18_), (11, .long y17_), (9, .long y16_), (7, .long y12_), (5, .long y8_), (3, .long y4_), (0, .ref h), (1, .int oa), (2, .int ob)]) hx hb dX12_spreadTimes_61 hl (Nat.le_of_ble_eq_true rfl) rfl (fun ls hl => ?_)
  refine lv_aload_n hx hb dX12_spreadTimes_63 rfl (lv_at hl 6 rfl) ?_
  refine va_get (D := (dC, dI)) (ci := 12) (v := .ref (ad 43)) (C := RX12) (T := TX12) (N := 59) hx hb hts hin12 hown hK hP 0 rfl rfl 43 (Nat.le_of_ble_eq_true rfl) (ho (.fieldLink RX12 107 "NearEnoughModel" "low" "[J") (List.mem_of_getElem? (i := 2) rfl)) (fun _ h9 => h9) rfl dX12_spreadTimes_64 ?_
  refine lv_iload_n hx hb dX12_spreadTimes_67 rfl (lv_at hl 8 rfl) ?_
  have o18 : ob.toInt < ((12 : Nat) : Int) := by omega
  refine va_lald hx hb hK hP 31 30 rfl rfl (ti_inx o9 o18) dX12_spreadTimes_68 ?_
  refine lv_topl (fun y19_ ey19_ => ?_)
  refine lv_lstore (lv' := [(15, .long y19_), (13, .long y18_), (11, .long y17_), (9, .long y16_), (7, .long y12_), (5, .long y8_), (3, .long y4_), (0, .ref h), (1, .int oa), (2, .int ob)]) hx hb dX12_spreadTimes_69 hl (Nat.le_of_ble_eq_true rfl) rfl (fun ls hl => ?_)
  refine lv_aload_n hx hb dX12_spreadTimes_71 rfl (lv_at hl 7 rfl) ?_
  refine va_get (D := (dC, dI)) (ci := 12) (v := .ref (ad 44)) (C := RX12) (T := TX12) (N := 59) hx hb hts hin12 hown hK hP 0 rfl rfl 44 (Nat.le_of_ble_eq_true rfl) (ho (.fieldLink RX12 110 "NearEnoughModel" "high0" "[J") (List.mem_of_getElem? (i := 3) rfl)) (fun _ h9 => h9) rfl dX12_spreadTimes_72 ?_
  refine lv_iload_n hx hb dX12_spreadTimes_75 rfl (lv_at hl 9 rfl) ?_
  refine va_lald hx hb hK hP 32 31 rfl rfl (ti_inx o9 o18) dX12_spreadTimes_76 ?_
  refine lv_topl (fun y20_ ey20_ => ?_)
  refine lv_lstore (lv' := [(17, .long y20_), (15, .long y19_), (13, .long y18_), (11, .long y17_), (9, .long y16_), (7, .long y12_), (5, .long y8_), (3, .long y4_), (0, .ref h), (1, .int oa), (2, .int ob)]) hx hb dX12_spreadTimes_77 hl (Nat.le_of_ble_eq_true rfl) rfl (fun ls hl => ?_)
  refine lv_aload_n hx hb dX12_spreadTimes_79 rfl (lv_at hl 8 rfl) ?_
  refine lv_lload_n hx hb dX12_spreadTimes_80 rfl (lv_at hl 7 rfl) ?_
  refine lv_lload hx hb dX12_spreadTimes_81 (lv_at hl 1 rfl) ?_
  refine lv_lmul hx hb dX12_spreadTimes_83 ?_
  refine lv_topl (fun y21_ ey21_ => ?_)
  refine lv_lload_n hx hb dX12_spreadTimes_84 rfl (lv_at hl 7 rfl) ?_
  refine lv_lload hx hb dX12_spreadTimes_85 (lv_at hl 0 rfl) ?_
  refine lv_lmul hx hb dX12_spreadTimes_87 ?_
  refine lv_topl (fun y22_ ey22_ => ?_)
  refine lv_lload hx hb dX12_spreadTimes_88 (lv_at hl 6 rfl) ?_
  refine lv_lload hx hb dX12_spreadTimes_90 (lv_at hl 1 rfl) ?_
  refine lv_lmul hx hb dX12_spreadTimes_92 ?_
  refine lv_topl (fun y23_ ey23_ => ?_)
  refine lv_lload hx hb dX12_spreadTimes_93 (lv_at hl 6 rfl) ?_
  refine lv_lload hx hb dX12_spreadTimes_95 (lv_at hl 0 rfl) ?_
  refine lv_lmul hx hb dX12_spreadTimes_97 ?_
  refine lv_topl (fun y24_ ey24_ => ?_)
  refine zs_l (va_runS (As := [.long y21_, .long y22_, .long y23_, .long y24_]) (rest := [.ref h]) ⟨hx, hb, hml, hown, hts⟩ (n_leastOfV l dC dI y21_ y22_ y23_ y24_  H.size) (va_cwS 4 hts gd_n_spreadTimes_396_n_leastOfV rfl rfl rfl dd_n_leastOfV ⟨Nat.le_of_ble_eq_true rfl, Nat.le_of_ble_eq_true rfl⟩) (preS (A := A) empP (hK.sub (tys' := []) [] rfl) empD hE) rfl rfl hl.1 rfl (lv_room (Nat.le_of_ble_eq_true rfl)) dX12_spreadTimes_98 ⟨Nat.le_of_ble_eq_true rfl, Nat.le_of_ble_eq_true rfl⟩) hP hD hS hA (fun y25_ H locs hq hP hD hS => ?_)
  have f26_ := hq
  refine W.widen (k := 0) (n := 0) (Nat.le_of_ble_eq_true rfl) (Nat.le_of_ble_eq_true rfl) ?_
  refine lv_lload hx hb dX12_spreadTimes_101 (lv_at hl 5 rfl) ?_
  refine lv_lload hx hb dX12_spreadTimes_103 (lv_at hl 3 rfl) ?_
  refine lv_lmul hx hb dX12_spreadTimes_105 ?_
  refine lv_topl (fun y27_ ey27_ => ?_)
  refine lv_lload hx hb dX12_spreadTimes_106 (lv_at hl 5 rfl) ?_
  refine lv_lload hx hb dX12_spreadTimes_108 (lv_at hl 2 rfl) ?_
  refine lv_lmul hx hb dX12_spreadTimes_110 ?_
  refine lv_topl (fun y28_ ey28_ => ?_)
  refine lv_lload hx hb dX12_spreadTimes_111 (lv_at hl 4 rfl) ?_
  refine lv_lload hx hb dX12_spreadTimes_113 (lv_at hl 3 rfl) ?_
  refine lv_lmul hx hb dX12_spreadTimes_115 ?_
  refine lv_topl (fun y29_ ey29_ => ?_)
  refine lv_lload hx hb dX12_spreadTimes_116 (lv_at hl 4 rfl) ?_
  refine lv_lload hx hb dX12_spreadTimes_118 (lv_at hl 2 rfl) ?_
  refine lv_lmul hx hb dX12_spreadTimes_120 ?_
  refine lv_topl (fun y30_ ey30_ => ?_)
  refine zs_l (va_runS (As := [.long y27_, .long y28_, .long y29_, .long y30_]) (rest := [.long y25_, .ref h]) ⟨hx, hb, hml, hown, hts⟩ (n_leastOfV l dC dI y27_ y28_ y29_ y30_  H.size) (va_cwS 4 hts gd_n_spreadTimes_396_n_leastOfV rfl rfl rfl dd_n_leastOfV ⟨Nat.le_of_ble_eq_true rfl, Nat.le_of_ble_eq_true rfl⟩) (preS (A := A) empP (hK.sub (tys' := []) [] rfl) empD hE) rfl rfl hl.1 rfl (lv_room (Nat.le_of_ble_eq_true rfl)) dX12_spreadTimes_121 ⟨Nat.le_of_ble_eq_true rfl, Nat.le_of_ble_eq_true rfl⟩) hP hD hS hA (fun y31_ H locs hq hP hD hS => ?_)
  have f32_ := hq
  refine W.widen (k := 0) (n := 0) (Nat.le_of_ble_eq_true rfl) (Nat.le_of_ble_eq_true rfl) ?_
  refine lv_ladd hx hb dX12_spreadTimes_124 ?_
  refine lv_topl (fun y33_ ey33_ => ?_)
  refine lv_lload hx hb dX12_spreadTimes_125 (lv_at hl 3 rfl) ?_
  refine lv_lload hx hb dX12_spreadTimes_127 (lv_at hl 1 rfl) ?_
  refine lv_lmul hx hb dX12_spreadTimes_129 ?_
  refine lv_topl (fun y34_ ey34_ => ?_)
  refine lv_lload hx hb dX12_spreadTimes_130 (lv_at hl 3 rfl) ?_
  refine lv_lload hx hb dX12_spreadTimes_132 (lv_at hl 0 rfl) ?_
  refine lv_lmul hx hb dX12_spreadTimes_134 ?_
  refine lv_topl (fun y35_ ey35_ => ?_)
  refine lv_lload hx hb dX12_spreadTimes_135 (lv_at hl 2 rfl) ?_
  refine lv_lload hx hb dX12_spreadTimes_137 (lv_at hl 1 rfl) ?_
  refine lv_lmul hx hb dX12_spreadTimes_139 ?_
  refine lv_topl (fun y36_ ey36_ => ?_)
  refine lv_lload hx hb dX12_spreadTimes_140 (lv_at hl 2 rfl) ?_
  refine lv_lload hx hb dX12_spreadTimes_142 (lv_at hl 0 rfl) ?_
  refine lv_lmul hx hb dX12_spreadTimes_144 ?_
  refine lv_topl (fun y37_ ey37_ => ?_)
  refine zs_l (va_runS (As := [.long y34_, .long y35_, .long y36_, .long y37_]) (rest := [.long y33_, .ref h]) ⟨hx, hb, hml, hown, hts⟩ (n_leastOfV l dC dI y34_ y35_ y36_ y37_  H.size) (va_cwS 4 hts gd_n_spreadTimes_396_n_leastOfV rfl rfl rfl dd_n_leastOfV ⟨Nat.le_of_ble_eq_true rfl, Nat.le_of_ble_eq_true rfl⟩) (preS (A := A) empP (hK.sub (tys' := []) [] rfl) empD hE) rfl rfl hl.1 rfl (lv_room (Nat.le_of_ble_eq_true rfl)) dX12_spreadTimes_145 ⟨Nat.le_of_ble_eq_true rfl, Nat.le_of_ble_eq_true rfl⟩) hP hD hS hA (fun y38_ H locs hq hP hD hS => ?_)
  have f39_ := hq
  refine W.widen (k := 0) (n := 0) (Nat.le_of_ble_eq_true rfl) (Nat.le_of_ble_eq_true rfl) ?_
  refine lv_ladd hx hb dX12_spreadTimes_148 ?_
  refine lv_topl (fun y40_ ey40_ => ?_)
  refine va_put (D := (dC, dI)) (ci := 12) (v := .long y40_) (ty := tyX12 45) (C := RX12) (T := TX12) (N := 59) hx hb hts hin12 tyX12 tyX12_ok nmX12 hown hK hP hD hS 0 rfl rfl 45 (Nat.le_of_ble_eq_true rfl) (ho (.fieldLink RX12 379 "NearEnoughModel" "spanLow" "J") (List.mem_of_getElem? (i := 4) rfl)) (fun _ h9 => h9) rfl (tyX12_ok 45 (Nat.le_of_ble_eq_true rfl)) rfl rfl (Nat.le_of_ble_eq_true rfl) dX12_spreadTimes_149 (fun H locs hP hD hS => ?_)
  have hP : va_P (dC, dI) vwCl (mW h ad cl (sL σ 45 y40_)) H := hP
  have hD : va_D A (mW h ad cl (sL σ 45 y40_)) := hD
  refine lv_aload_n hx hb dX12_spreadTimes_152 rfl (lv_at hl 8 rfl) ?_
  refine lv_lload_n hx hb dX12_spreadTimes_153 rfl (lv_at hl 7 rfl) ?_
  refine lv_lload hx hb dX12_spreadTimes_154 (lv_at hl 1 rfl) ?_
  refine lv_lmul hx hb dX12_spreadTimes_156 ?_
  refine lv_topl (fun y41_ ey41_ => ?_)
  refine lv_lload_n hx hb dX12_spreadTimes_157 rfl (lv_at hl 7 rfl) ?_
  refine lv_lload hx hb dX12_spreadTimes_158 (lv_at hl 0 rfl) ?_
  refine lv_lmul hx hb dX12_spreadTimes_160 ?_
  refine lv_topl (fun y42_ ey42_ => ?_)
  refine lv_lload hx hb dX12_spreadTimes_161 (lv_at hl 6 rfl) ?_
  refine lv_lload hx hb dX12_spreadTimes_163 (lv_at hl 1 rfl) ?_
  refine lv_lmul hx hb dX12_spreadTimes_165 ?_
  refine lv_topl (fun y43_ ey43_ => ?_)
  refine lv_lload hx hb dX12_spreadTimes_166 (lv_at hl 6 rfl) ?_
  refine lv_lload hx hb dX12_spreadTimes_168 (lv_at hl 0 rfl) ?_
  refine lv_lmul hx hb dX12_spreadTimes_170 ?_
  refine lv_topl (fun y44_ ey44_ => ?_)
  refine zs_l (va_runS (As := [.long y41_, .long y42_, .long y43_, .long y44_]) (rest := [.ref h]) ⟨hx, hb, hml, hown, hts⟩ (n_mostOfV l dC dI y41_ y42_ y43_ y44_  H.size) (va_cwS 4 hts gd_n_spreadTimes_400_n_mostOfV rfl rfl rfl dd_n_mostOfV ⟨Nat.le_of_ble_eq_true rfl, Nat.le_of_ble_eq_true rfl⟩) (preS (A := A) empP (hK.sub (tys' := []) [] rfl) empD hE) rfl rfl hl.1 rfl (lv_room (Nat.le_of_ble_eq_true rfl)) dX12_spreadTimes_171 ⟨Nat.le_of_ble_eq_true rfl, Nat.le_of_ble_eq_true rfl⟩) hP hD hS hA (fun y45_ H locs hq hP hD hS => ?_)
  have f46_ := hq
  refine W.widen (k := 0) (n := 0) (Nat.le_of_ble_eq_true rfl) (Nat.le_of_ble_eq_true rfl) ?_
  refine lv_lload hx hb dX12_spreadTimes_174 (lv_at hl 5 rfl) ?_
  refine lv_lload hx hb dX12_spreadTimes_176 (lv_at hl 3 rfl) ?_
  refine lv_lmul hx hb dX12_spreadTimes_178 ?_
  refine lv_topl (fun y47_ ey47_ => ?_)
  refine lv_lload hx hb dX12_spreadTimes_179 (lv_at hl 5 rfl) ?_
  refine lv_lload hx hb dX12_spreadTimes_181 (lv_at hl 2 rfl) ?_
  refine lv_lmul hx hb dX12_spreadTimes_183 ?_
  refine lv_topl (fun y48_ ey48_ => ?_)
  refine lv_lload hx hb dX12_spreadTimes_184 (lv_at hl 4 rfl) ?_
  refine lv_lload hx hb dX12_spreadTimes_186 (lv_at hl 3 rfl) ?_
  refine lv_lmul hx hb dX12_spreadTimes_188 ?_
  refine lv_topl (fun y49_ ey49_ => ?_)
  refine lv_lload hx hb dX12_spreadTimes_189 (lv_at hl 4 rfl) ?_
  refine lv_lload hx hb dX12_spreadTimes_191 (lv_at hl 2 rfl) ?_
  refine lv_lmul hx hb dX12_spreadTimes_193 ?_
  refine lv_topl (fun y50_ ey50_ => ?_)
  refine zs_l (va_runS (As := [.long y47_, .long y48_, .long y49_, .long y50_]) (rest := [.long y45_, .ref h]) ⟨hx, hb, hml, hown, hts⟩ (n_mostOfV l dC dI y47_ y48_ y49_ y50_  H.size) (va_cwS 4 hts gd_n_spreadTimes_400_n_mostOfV rfl rfl rfl dd_n_mostOfV ⟨Nat.le_of_ble_eq_true rfl, Nat.le_of_ble_eq_true rfl⟩) (preS (A := A) empP (hK.sub (tys' := []) [] rfl) empD hE) rfl rfl hl.1 rfl (lv_room (Nat.le_of_ble_eq_true rfl)) dX12_spreadTimes_194 ⟨Nat.le_of_ble_eq_true rfl, Nat.le_of_ble_eq_true rfl⟩) hP hD hS hA (fun y51_ H locs hq hP hD hS => ?_)
  have f52_ := hq
  refine W.widen (k := 0) (n := 0) (Nat.le_of_ble_eq_true rfl) (Nat.le_of_ble_eq_true rfl) ?_
  refine lv_ladd hx hb dX12_spreadTimes_197 ?_
  refine lv_topl (fun y53_ ey53_ => ?_)
  refine lv_lload hx hb dX12_spreadTimes_198 (lv_at hl 3 rfl) ?_
  refine lv_lload hx hb dX12_spreadTimes_200 (lv_at hl 1 rfl) ?_
  refine lv_lmul hx hb dX12_spreadTimes_202 ?_
  refine lv_topl (fun y54_ ey54_ => ?_)
  refine lv_lload hx hb dX12_spreadTimes_203 (lv_at hl 3 rfl) ?_
  refine lv_lload hx hb dX12_spreadTimes_205 (lv_at hl 0 rfl) ?_
  refine lv_lmul hx hb dX12_spreadTimes_207 ?_
  refine lv_topl (fun y55_ ey55_ => ?_)
  refine lv_lload hx hb dX12_spreadTimes_208 (lv_at hl 2 rfl) ?_
  refine lv_lload hx hb dX12_spreadTimes_210 (lv_at hl 1 rfl) ?_
  refine lv_lmul hx hb dX12_spreadTimes_212 ?_
  refine lv_topl (fun y56_ ey56_ => ?_)
  refine lv_lload hx hb dX12_spreadTimes_213 (lv_at hl 2 rfl) ?_
  refine lv_lload hx hb dX12_spreadTimes_215 (lv_at hl 0 rfl) ?_
  refine lv_lmul hx hb dX12_spreadTimes_217 ?_
  refine lv_topl (fun y57_ ey57_ => ?_)
  refine zs_l (va_runS (As := [.long y54_, .long y55_, .long y56_, .long y57_]) (rest := [.long y53_, .ref h]) ⟨hx, hb, hml, hown, hts⟩ (n_mostOfV l dC dI y54_ y55_ y56_ y57_  H.size) (va_cwS 4 hts gd_n_spreadTimes_400_n_mostOfV rfl rfl rfl dd_n_mostOfV ⟨Nat.le_of_ble_eq_true rfl, Nat.le_of_ble_eq_true rfl⟩) (preS (A := A) empP (hK.sub (tys' := []) [] rfl) empD hE) rfl rfl hl.1 rfl (lv_room (Nat.le_of_ble_eq_true rfl)) dX12_spreadTimes_218 ⟨Nat.le_of_ble_eq_true rfl, Nat.le_of_ble_eq_true rfl⟩) hP hD hS hA (fun y58_ H locs hq hP hD hS => ?_)
  have f59_ := hq
  refine W.widen (k := 0) (n := 0) (Nat.le_of_ble_eq_true rfl) (Nat.le_of_ble_eq_true rfl) ?_
  refine lv_ladd hx hb dX12_spreadTimes_221 ?_
  refine lv_topl (fun y60_ ey60_ => ?_)
  refine va_put (D := (dC, dI)) (ci := 12) (v := .long y60_) (ty := tyX12 46) (C := RX12) (T := TX12) (N := 59) hx hb hts hin12 tyX12 tyX12_ok nmX12 hown hK hP hD hS 0 rfl rfl 46 (Nat.le_of_ble_eq_true rfl) (ho (.fieldLink RX12 382 "NearEnoughModel" "spanHigh" "J") (List.mem_of_getElem? (i := 5) rfl)) (fun _ h9 => h9) rfl (tyX12_ok 46 (Nat.le_of_ble_eq_true rfl)) rfl rfl (Nat.le_of_ble_eq_true rfl) dX12_spreadTimes_222 (fun H locs hP hD hS => ?_)
  have hP : va_P (dC, dI) vwCl (mW h ad cl (sL (sL σ 45 y40_) 46 y60_)) H := hP
  have hD : va_D A (mW h ad cl (sL (sL σ 45 y40_) 46 y60_)) := hD
  rw [hQ]
  have R61_ : y40_ = tmLo (σ.1 29).toNatClampNeg (coJ σ) (σ.2.2.1 43) (σ.2.2.1 44) oa.toNatClampNeg ob.toNatClampNeg := by simp only [tmLo, ey4_, ey8_, ey12_, ey16_, ey17_, ey18_, ey19_, ey20_, ey21_, ey22_, ey23_, ey24_, f26_, ey27_, ey28_, ey29_, ey30_, f32_, ey33_, ey34_, ey35_, ey36_, ey37_, f39_, ey40_, ey41_, ey42_, ey43_, ey44_, f46_, ey47_, ey48_, ey49_, ey50_, f52_, ey53_, ey54_, ey55_, ey56_, ey57_, f59_, ey60_, Xz2_, Xz6_, Xz10_, Xz14_] <;> rfl
  have R62_ : y60_ = tmHi (σ.1 29).toNatClampNeg (coJ σ) (σ.2.2.1 43) (σ.2.2.1 44) oa.toNatClampNeg ob.toNatClampNeg := by simp only [tmHi, ey4_, ey8_, ey12_, ey16_, ey17_, ey18_, ey19_, ey20_, ey21_, ey22_, ey23_, ey24_, f26_, ey27_, ey28_, ey29_, ey30_, f32_, ey33_, ey34_, ey35_, ey36_, ey37_, f39_, ey40_, ey41_, ey42_, ey43_, ey44_, f46_, ey47_, ey48_, ey49_, ey50_, f52_, ey53_, ey54_, ey55_, ey56_, ey57_, f59_, ey60_, Xz2_, Xz6_, Xz10_, Xz14_] <;> rfl
  exact W.vret hx hb hr (fun t ht hW => ⟨⟨(sL (sL σ 45 y40_) 46 y60_), rfl, ⟨(Inv.sL (Inv.sL hI)), (eqx.sL (eqx.sL eqx.rf rg_498) rg_499), R61_, R62_⟩, wEn_of hP (hK.sub [] rfl) hD ht hW⟩, hS.F ht⟩) hS.2.2 dX12_spreadTimes_225
def ow_n_spreadPick : List Cond := [.fieldLink RX12 107 "NearEnoughModel" "low" "[J", .fieldLink RX12 379 "NearEnoughModel" "spanLow" "J", .fieldLink RX12 110 "NearEnoughModel" "high0" "[J", .fieldLink RX12 382 "NearEnoughModel" "spanHigh" "J"]
def vs_n_spreadPick : List Cond := .code yX12_spreadPick cX12_spreadPick 4 none :: (ow_n_spreadPick ++ (([.methodLink RX12 314 yX12_lesser, .static yX12_lesser, .initialized yX12_lesser.cls] : List Cond) ++ (vs_n_lesserV ++ (([.methodLink RX12 318 yX12_greater, .static yX12_greater, .initialized yX12_greater.cls] : List Cond) ++ (vs_n_greaterV ++ (([.methodLink RX12 403 yX12_lowOver, .instanceMethod yX12_lowOver, .selects RX12 yX12_lowOver yX12_lowOver, .initialized RX12] : List Cond) ++ (vs_n_lowOver ++ (([.methodLink RX12 407 yX12_highOver, .instanceMethod yX12_highOver, .selects RX12 yX12_highOver yX12_highOver, .initialized RX12] : List Cond) ++ (vs_n_highOver ++ (wsX120))))))))))
theorem vg_n_spreadPick : vs_n_spreadPick.all goodWord = true := by decide +kernel
theorem dd_n_spreadPick : yX12_spreadPick.cls = RX12 ∧ yX12_spreadPick.cls ≠ "java/lang/invoke/MethodHandle" ∧ yX12_spreadPick.cls ≠ "java/lang/invoke/VarHandle" ∧ (parseMethodDescriptor yX12_spreadPick.desc).map (fun d => d.parameters.length) = some 3 := by decide +kernel
def rm_n_spreadPick : Room := { frames := 2, cells := 0, slots := 0, locals := 43 }
theorem gd_n_spreadPick_314_n_lesserV : GoodIn vs_n_spreadPick (va_wsS RX12 314 yX12_lesser vs_n_lesserV) := goodIn_app (goodIn_sub (fun w h => (List.mem_cons_of_mem _ (List.mem_append_right _ (List.mem_append_left _ h)))) (by decide +kernel)) (goodIn_sub (fun w h => (List.mem_cons_of_mem _ (List.mem_append_right _ (List.mem_append_right _ (List.mem_append_left _ h))))) vg_n_lesserV)
theorem gd_n_spreadPick_318_n_greaterV : GoodIn vs_n_spreadPick (va_wsS RX12 318 yX12_greater vs_n_greaterV) := goodIn_app (goodIn_sub (fun w h => (List.mem_cons_of_mem _ (List.mem_append_right _ (List.mem_append_right _ (List.mem_append_right _ (List.mem_append_left _ h)))))) (by decide +kernel)) (goodIn_sub (fun w h => (List.mem_cons_of_mem _ (List.mem_append_right _ (List.mem_append_right _ (List.mem_append_right _ (List.mem_append_right _ (List.mem_append_left _ h))))))) vg_n_greaterV)
theorem gd_n_spreadPick_403_n_lowOver : GoodIn vs_n_spreadPick (wsV RX12 403 RX12 yX12_lowOver vs_n_lowOver) := goodIn_app (goodIn_sub (fun w h => (List.mem_cons_of_mem _ (List.mem_append_right _ (List.mem_append_right _ (List.mem_append_right _ (List.mem_append_right _ (List.mem_append_right _ (List.mem_append_left _ h)))))))) (by decide +kernel)) (goodIn_sub (fun w h => (List.mem_cons_of_mem _ (List.mem_append_right _ (List.mem_append_right _ (List.mem_append_right _ (List.mem_append_right _ (List.mem_append_right _ (List.mem_append_right _ (List.mem_append_left _ h))))))))) vg_n_lowOver)
theorem gd_n_spreadPick_407_n_highOver : GoodIn vs_n_spreadPick (wsV RX12 407 RX12 yX12_highOver vs_n_highOver) := goodIn_app (goodIn_sub (fun w h => (List.mem_cons_of_mem _ (List.mem_append_right _ (List.mem_append_right _ (List.mem_append_right _ (List.mem_append_right _ (List.mem_append_right _ (List.mem_append_right _ (List.mem_append_right _ (List.mem_append_left _ h)))))))))) (by decide +kernel)) (goodIn_sub (fun w h => (List.mem_cons_of_mem _ (List.mem_append_right _ (List.mem_append_right _ (List.mem_append_right _ (List.mem_append_right _ (List.mem_append_right _ (List.mem_append_right _ (List.mem_append_right _ (List.mem_append_right _ (List.mem_append_left _ h))))))))))) vg_n_highOver)
set_option maxHeartbeats 4000000 in
set_option maxRecDepth 100000 in
theorem n_spreadPick (l : Launch) (dC : Nat → ClassId) (dI : Nat → Nat → Nat) (h : Nat) (ad : Nat → Nat) (cl : Nat → ClassId) (sz : Nat) (σ : MS) (oa : Int32) (ob : Int32) (u9 : Int32) (hI : Inv σ) (hoa : 0 ≤ oa.toInt ∧ oa.toInt ≤ 11) (hob : 0 ≤ ob.toInt ∧ ob.toInt ≤ 11) : Met l yX12_spreadPick vs_n_spreadPick rm_n_spreadPick (va_Pc [.ref h, .int oa, .int ob, .int u9] (wSt dC dI (mW h ad cl σ) (mT cl) sz)) (va_Qv (fun (τ : MS) => Inv τ ∧ eqx [45, 46] τ σ ∧ τ.2.2.2 45 = pkLo (σ.1 29).toNatClampNeg (coJ σ) (σ.2.2.1 43) oa.toNatClampNeg ob.toNatClampNeg (¬ u9.toInt = 0) ∧ τ.2.2.2 46 = pkHi (σ.1 29).toNatClampNeg (coJ σ) (σ.2.2.1 44) oa.toNatClampNeg ob.toNatClampNeg (¬ u9.toInt = 0)) (fun (τ : MS) => wEn dC dI (va_A (mW h ad cl σ) sz) (mW h ad cl τ) []) (va_A (mW h ad cl σ) sz)) 0 0 (va_A (mW h ad cl σ) sz) := by
  refine Met.ofW (cc := cX12_spreadPick) (maxL := 4) (ret := none) (by decide) rfl ?_
  intro p e s m args below meth c s₁ B hml hv
  obtain ⟨rfl, hsz, hP, hK, hD0, hE⟩ := hv
  have hx := B.exec
  have hb := B.bytes
  have hr := B.returns
  have hts := atoms_spec (ws := vs_n_spreadPick) B.pre
  have hown : s.vm.findClass RX12 = some m.cls := findClass_of_methodNamed B.named
  have hlocks := B.notSynchronized
  subst hsz
  have hD := hD0.self (sz := s.heap.size)
  generalize hAe : va_A (mW h ad cl σ) s.heap.size = A at hD ⊢
  have hA : ∀ q : Nat, s.heap.size ≤ q → A q := fun q h => by rw [← hAe]; exact Or.inr h
  have hl := lv_entry ([.ref h, .int oa, .int ob, .int u9]) (n := 4) (Nat.le_of_ble_eq_true rfl)
  rw [lg_entry_eq]
  generalize (lg_sl ([.ref h, .int oa, .int ob, .int u9]) ++ List.replicate (4 - (lg_sl ([.ref h, .int oa, .int ob, .int u9])).length) Slot.unset).toArray = ls at hl ⊢
  have hl : lv_has ls 4 [(0, .ref h), (1, .int oa), (2, .int ob), (3, .int u9)] := hl
  have ho := fun w (h : w ∈ ow_n_spreadPick) => hts w (List.mem_cons_of_mem _ (List.mem_append_left _ h))
  have hin12 : ∀ w ∈ u_ws RX12 TX12 59, w ∈ vs_n_spreadPick := fun w h => (List.mem_cons_of_mem _ (List.mem_append_right _ (List.mem_append_right _ (List.mem_append_right _ (List.mem_append_right _ (List.mem_append_right _ (List.mem_append_right _ (List.mem_append_right _ (List.mem_append_right _ (List.mem_append_right _ h))))))))))
  refine zQ (fun Q hQ => ?_)
  refine zH (A := A) (ws := mW h ad cl σ) (fun H hP hS => ?_) hP
  have bσ_29 : 0 ≤ (σ.1 29).toInt ∧ (σ.1 29).toInt ≤ 1 := hI.1 29
  refine lv_aload_n hx hb dX12_spreadPick_0 rfl (lv_at hl 0 rfl) ?_
  refine lv_aload_n hx hb dX12_spreadPick_1 rfl (lv_at hl 0 rfl) ?_
  refine va_get (D := (dC, dI)) (ci := 12) (v := .ref (ad 43)) (C := RX12) (T := TX12) (N := 59) hx hb hts hin12 hown hK hP 0 rfl rfl 43 (Nat.le_of_ble_eq_true rfl) (ho (.fieldLink RX12 107 "NearEnoughModel" "low" "[J") (List.mem_of_getElem? (i := 0) rfl)) (fun _ h9 => h9) rfl dX12_spreadPick_2 ?_
  refine lv_iload_n hx hb dX12_spreadPick_5 rfl (lv_at hl 1 rfl) ?_
  have o1 : 0 ≤ oa.toInt := by omega
  have o2 : oa.toInt < ((12 : Nat) : Int) := by omega
  refine va_lald hx hb hK hP 31 30 rfl rfl (ti_inx o1 o2) dX12_spreadPick_6 ?_
  refine lv_topl (fun y1_ ey1_ => ?_)
  refine lv_aload_n hx hb dX12_spreadPick_7 rfl (lv_at hl 0 rfl) ?_
  refine va_get (D := (dC, dI)) (ci := 12) (v := .ref (ad 43)) (C := RX12) (T := TX12) (N := 59) hx hb hts hin12 hown hK hP 0 rfl rfl 43 (Nat.le_of_ble_eq_true rfl) (ho (.fieldLink RX12 107 "NearEnoughModel" "low" "[J") (List.mem_of_getElem? (i := 0) rfl)) (fun _ h9 => h9) rfl dX12_spreadPick_8 ?_
  refine lv_iload_n hx hb dX12_spreadPick_11 rfl (lv_at hl 2 rfl) ?_
  have o3 : 0 ≤ ob.toInt := by omega
  have o4 : ob.toInt < ((12 : Nat) : Int) := by omega
  refine va_lald hx hb hK hP 31 30 rfl rfl (ti_inx o3 o4) dX12_spreadPick_12 ?_
  refine lv_topl (fun y2_ ey2_ => ?_)
  refine zs_l (va_runS (As := [.long y1_, .long y2_]) (rest := [.ref h]) ⟨hx, hb, hml, hown, hts⟩ (n_lesserV l dC dI y1_ y2_  H.size) (va_cwS 2 hts gd_n_spreadPick_314_n_lesserV rfl rfl rfl dd_n_lesserV ⟨Nat.le_of_ble_eq_true rfl, Nat.le_of_ble_eq_true rfl⟩) (preS (A := A) empP (hK.sub (tys' := []) [] rfl) empD hE) rfl rfl hl.1 rfl (lv_room (Nat.le_of_ble_eq_true rfl)) dX12_spreadPick_13 ⟨Nat.le_of_ble_eq_true rfl, Nat.le_of_ble_eq_true rfl⟩) hP hD hS hA (fun y3_ H locs hq hP hD hS => ?_)
  have f4_ := hq
  refine W.widen (k := 0) (n := 0) (Nat.le_of_ble_eq_true rfl) (Nat.le_of_ble_eq_true rfl) ?_
  refine va_put (D := (dC, dI)) (ci := 12) (v := .long y3_) (ty := tyX12 45) (C := RX12) (T := TX12) (N := 59) hx hb hts hin12 tyX12 tyX12_ok nmX12 hown hK hP hD hS 0 rfl rfl 45 (Nat.le_of_ble_eq_true rfl) (ho (.fieldLink RX12 379 "NearEnoughModel" "spanLow" "J") (List.mem_of_getElem? (i := 1) rfl)) (fun _ h9 => h9) rfl (tyX12_ok 45 (Nat.le_of_ble_eq_true rfl)) rfl rfl (Nat.le_of_ble_eq_true rfl) dX12_spreadPick_16 (fun H locs hP hD hS => ?_)
  have hP : va_P (dC, dI) vwCl (mW h ad cl (sL σ 45 y3_)) H := hP
  have hD : va_D A (mW h ad cl (sL σ 45 y3_)) := hD
  refine lv_aload_n hx hb dX12_spreadPick_19 rfl (lv_at hl 0 rfl) ?_
  refine lv_aload_n hx hb dX12_spreadPick_20 rfl (lv_at hl 0 rfl) ?_
  refine va_get (D := (dC, dI)) (ci := 12) (v := .ref (ad 44)) (C := RX12) (T := TX12) (N := 59) hx hb hts hin12 hown hK hP 0 rfl rfl 44 (Nat.le_of_ble_eq_true rfl) (ho (.fieldLink RX12 110 "NearEnoughModel" "high0" "[J") (List.mem_of_getElem? (i := 2) rfl)) (fun _ h9 => h9) rfl dX12_spreadPick_21 ?_
  refine lv_iload_n hx hb dX12_spreadPick_24 rfl (lv_at hl 1 rfl) ?_
  refine va_lald hx hb hK hP 32 31 rfl rfl (ti_inx o1 o2) dX12_spreadPick_25 ?_
  refine lv_topl (fun y5_ ey5_ => ?_)
  refine lv_aload_n hx hb dX12_spreadPick_26 rfl (lv_at hl 0 rfl) ?_
  refine va_get (D := (dC, dI)) (ci := 12) (v := .ref (ad 44)) (C := RX12) (T := TX12) (N := 59) hx hb hts hin12 hown hK hP 0 rfl rfl 44 (Nat.le_of_ble_eq_true rfl) (ho (.fieldLink RX12 110 "NearEnoughModel" "high0" "[J") (List.mem_of_getElem? (i := 2) rfl)) (fun _ h9 => h9) rfl dX12_spreadPick_27 ?_
  refine lv_iload_n hx hb dX12_spreadPick_30 rfl (lv_at hl 2 rfl) ?_
  refine va_lald hx hb hK hP 32 31 rfl rfl (ti_inx o3 o4) dX12_spreadPick_31 ?_
  refine lv_topl (fun y6_ ey6_ => ?_)
  refine zs_l (va_runS (As := [.long y5_, .long y6_]) (rest := [.ref h]) ⟨hx, hb, hml, hown, hts⟩ (n_greaterV l dC dI y5_ y6_  H.size) (va_cwS 2 hts gd_n_spreadPick_318_n_greaterV rfl rfl rfl dd_n_greaterV ⟨Nat.le_of_ble_eq_true rfl, Nat.le_of_ble_eq_true rfl⟩) (preS (A := A) empP (hK.sub (tys' := []) [] rfl) empD hE) rfl rfl hl.1 rfl (lv_room (Nat.le_of_ble_eq_true rfl)) dX12_spreadPick_32 ⟨Nat.le_of_ble_eq_true rfl, Nat.le_of_ble_eq_true rfl⟩) hP hD hS hA (fun y7_ H locs hq hP hD hS => ?_)
  have f8_ := hq
  refine W.widen (k := 0) (n := 0) (Nat.le_of_ble_eq_true rfl) (Nat.le_of_ble_eq_true rfl) ?_
  refine va_put (D := (dC, dI)) (ci := 12) (v := .long y7_) (ty := tyX12 46) (C := RX12) (T := TX12) (N := 59) hx hb hts hin12 tyX12 tyX12_ok nmX12 hown hK hP hD hS 0 rfl rfl 46 (Nat.le_of_ble_eq_true rfl) (ho (.fieldLink RX12 382 "NearEnoughModel" "spanHigh" "J") (List.mem_of_getElem? (i := 3) rfl)) (fun _ h9 => h9) rfl (tyX12_ok 46 (Nat.le_of_ble_eq_true rfl)) rfl rfl (Nat.le_of_ble_eq_true rfl) dX12_spreadPick_35 (fun H locs hP hD hS => ?_)
  have hP : va_P (dC, dI) vwCl (mW h ad cl (sL (sL σ 45 y3_) 46 y7_)) H := hP
  have hD : va_D A (mW h ad cl (sL (sL σ 45 y3_) 46 y7_)) := hD
  refine lv_iload_n hx hb dX12_spreadPick_38 rfl (lv_at hl 3 rfl) ?_
  refine lv_if_ne (tgt := 43) hx hb dX12_spreadPick_39 rfl (fun c9_ => ?_) (fun c9_ => ?_)
  · have tc9_ := (show u9.toInt ≠ 0 from ti_ne rfl rg_11 c9_)
    refine lv_aload_n hx hb dX12_spreadPick_43 rfl (lv_at hl 0 rfl) ?_
    refine lv_aload_n hx hb dX12_spreadPick_44 rfl (lv_at hl 0 rfl) ?_
    refine va_get (D := (dC, dI)) (ci := 12) (v := .long y3_) (C := RX12) (T := TX12) (N := 59) hx hb hts hin12 hown hK hP 0 rfl rfl 45 (Nat.le_of_ble_eq_true rfl) (ho (.fieldLink RX12 379 "NearEnoughModel" "spanLow" "J") (List.mem_of_getElem? (i := 1) rfl)) (fun _ h9 => h9) rfl dX12_spreadPick_45 ?_
    refine lv_aload_n hx hb dX12_spreadPick_48 rfl (lv_at hl 0 rfl) ?_
    refine lv_iload_n hx hb dX12_spreadPick_49 rfl (lv_at hl 2 rfl) ?_
    refine lv_iload_n hx hb dX12_spreadPick_50 rfl (lv_at hl 1 rfl) ?_
    have o5 : ob.toInt ≤ 11 := by omega
    have o6 : oa.toInt ≤ 11 := by omega
    refine zy_l (va_runV (As := [.int ob, .int oa]) (rest := [.long y3_, .ref h]) ⟨hx, hb, hml, hown, hts⟩ (n_lowOver l dC dI h ad cl H.size (sL (sL σ 45 y3_) 46 y7_) ob oa (Inv.sL (Inv.sL hI)) ⟨o3, o5⟩ ⟨o1, o6⟩) (cwV 2 hts gd_n_spreadPick_403_n_lowOver rfl rfl rfl dd_n_lowOver ⟨Nat.le_of_ble_eq_true rfl, Nat.le_of_ble_eq_true rfl⟩) (preV hP hK hD hE (ci := 12) (q0 := 0) rfl rfl) rfl rfl hl.1 rfl (lv_room (Nat.le_of_ble_eq_true rfl)) dX12_spreadPick_51 ⟨Nat.le_of_ble_eq_true rfl, Nat.le_of_ble_eq_true rfl⟩) hD hS hA (fun y11_ τ10_ H locs hq hP hD hS => ?_)
    obtain ⟨rfl, f12_⟩ := hq
    refine W.widen (k := 0) (n := 0) (Nat.le_of_ble_eq_true rfl) (Nat.le_of_ble_eq_true rfl) ?_
    refine lv_aload_n hx hb dX12_spreadPick_54 rfl (lv_at hl 0 rfl) ?_
    refine lv_iload_n hx hb dX12_spreadPick_55 rfl (lv_at hl 1 rfl) ?_
    refine lv_iload_n hx hb dX12_spreadPick_56 rfl (lv_at hl 2 rfl) ?_
    refine zy_l (va_runV (As := [.int oa, .int ob]) (rest := [.long y11_, .long y3_, .ref h]) ⟨hx, hb, hml, hown, hts⟩ (n_lowOver l dC dI h ad cl H.size (sL (sL σ 45 y3_) 46 y7_) oa ob (Inv.sL (Inv.sL hI)) ⟨o1, o6⟩ ⟨o3, o5⟩) (cwV 2 hts gd_n_spreadPick_403_n_lowOver rfl rfl rfl dd_n_lowOver ⟨Nat.le_of_ble_eq_true rfl, Nat.le_of_ble_eq_true rfl⟩) (preV hP hK hD hE (ci := 12) (q0 := 0) rfl rfl) rfl rfl hl.1 rfl (lv_room (Nat.le_of_ble_eq_true rfl)) dX12_spreadPick_57 ⟨Nat.le_of_ble_eq_true rfl, Nat.le_of_ble_eq_true rfl⟩) hD hS hA (fun y14_ τ13_ H locs hq hP hD hS => ?_)
    obtain ⟨rfl, f15_⟩ := hq
    refine W.widen (k := 0) (n := 0) (Nat.le_of_ble_eq_true rfl) (Nat.le_of_ble_eq_true rfl) ?_
    refine zs_l (va_runS (As := [.long y11_, .long y14_]) (rest := [.long y3_, .ref h]) ⟨hx, hb, hml, hown, hts⟩ (n_lesserV l dC dI y11_ y14_  H.size) (va_cwS 2 hts gd_n_spreadPick_314_n_lesserV rfl rfl rfl dd_n_lesserV ⟨Nat.le_of_ble_eq_true rfl, Nat.le_of_ble_eq_true rfl⟩) (preS (A := A) empP (hK.sub (tys' := []) [] rfl) empD hE) rfl rfl hl.1 rfl (lv_room (Nat.le_of_ble_eq_true rfl)) dX12_spreadPick_60 ⟨Nat.le_of_ble_eq_true rfl, Nat.le_of_ble_eq_true rfl⟩) hP hD hS hA (fun y16_ H locs hq hP hD hS => ?_)
    have f17_ := hq
    refine W.widen (k := 0) (n := 0) (Nat.le_of_ble_eq_true rfl) (Nat.le_of_ble_eq_true rfl) ?_
    refine zs_l (va_runS (As := [.long y3_, .long y16_]) (rest := [.ref h]) ⟨hx, hb, hml, hown, hts⟩ (n_lesserV l dC dI y3_ y16_  H.size) (va_cwS 2 hts gd_n_spreadPick_314_n_lesserV rfl rfl rfl dd_n_lesserV ⟨Nat.le_of_ble_eq_true rfl, Nat.le_of_ble_eq_true rfl⟩) (preS (A := A) empP (hK.sub (tys' := []) [] rfl) empD hE) rfl rfl hl.1 rfl (lv_room (Nat.le_of_ble_eq_true rfl)) dX12_spreadPick_63 ⟨Nat.le_of_ble_eq_true rfl, Nat.le_of_ble_eq_true rfl⟩) hP hD hS hA (fun y18_ H locs hq hP hD hS => ?_)
    have f19_ := hq
    refine W.widen (k := 0) (n := 0) (Nat.le_of_ble_eq_true rfl) (Nat.le_of_ble_eq_true rfl) ?_
    refine va_put (D := (dC, dI)) (ci := 12) (v := .long y18_) (ty := tyX12 45) (C := RX12) (T := TX12) (N := 59) hx hb hts hin12 tyX12 tyX12_ok nmX12 hown hK hP hD hS 0 rfl rfl 45 (Nat.le_of_ble_eq_true rfl) (ho (.fieldLink RX12 379 "NearEnoughModel" "spanLow" "J") (List.mem_of_getElem? (i := 1) rfl)) (fun _ h9 => h9) rfl (tyX12_ok 45 (Nat.le_of_ble_eq_true rfl)) rfl rfl (Nat.le_of_ble_eq_true rfl) dX12_spreadPick_66 (fun H locs hP hD hS => ?_)
    have hP : va_P (dC, dI) vwCl (mW h ad cl (sL (sL σ 45 y18_) 46 y7_)) H := hP
    have hD : va_D A (mW h ad cl (sL (sL σ 45 y18_) 46 y7_)) := hD
    refine lv_aload_n hx hb dX12_spreadPick_69 rfl (lv_at hl 0 rfl) ?_
    refine lv_aload_n hx hb dX12_spreadPick_70 rfl (lv_at hl 0 rfl) ?_
    refine va_get (D := (dC, dI)) (ci := 12) (v := .long y7_) (C := RX12) (T := TX12) (N := 59) hx hb hts hin12 hown hK hP 0 rfl rfl 46 (Nat.le_of_ble_eq_true rfl) (ho (.fieldLink RX12 382 "NearEnoughModel" "spanHigh" "J") (List.mem_of_getElem? (i := 3) rfl)) (fun _ h9 => h9) rfl dX12_spreadPick_71 ?_
    refine lv_aload_n hx hb dX12_spreadPick_74 rfl (lv_at hl 0 rfl) ?_
    refine lv_iload_n hx hb dX12_spreadPick_75 rfl (lv_at hl 2 rfl) ?_
    refine lv_iload_n hx hb dX12_spreadPick_76 rfl (lv_at hl 1 rfl) ?_
    refine zy_l (va_runV (As := [.int ob, .int oa]) (rest := [.long y7_, .ref h]) ⟨hx, hb, hml, hown, hts⟩ (n_highOver l dC dI h ad cl H.size (sL (sL σ 45 y18_) 46 y7_) ob oa (Inv.sL (Inv.sL hI)) ⟨o3, o5⟩ ⟨o1, o6⟩) (cwV 2 hts gd_n_spreadPick_407_n_highOver rfl rfl rfl dd_n_highOver ⟨Nat.le_of_ble_eq_true rfl, Nat.le_of_ble_eq_true rfl⟩) (preV hP hK hD hE (ci := 12) (q0 := 0) rfl rfl) rfl rfl hl.1 rfl (lv_room (Nat.le_of_ble_eq_true rfl)) dX12_spreadPick_77 ⟨Nat.le_of_ble_eq_true rfl, Nat.le_of_ble_eq_true rfl⟩) hD hS hA (fun y21_ τ20_ H locs hq hP hD hS => ?_)
    obtain ⟨rfl, f22_⟩ := hq
    refine W.widen (k := 0) (n := 0) (Nat.le_of_ble_eq_true rfl) (Nat.le_of_ble_eq_true rfl) ?_
    refine lv_aload_n hx hb dX12_spreadPick_80 rfl (lv_at hl 0 rfl) ?_
    refine lv_iload_n hx hb dX12_spreadPick_81 rfl (lv_at hl 1 rfl) ?_
    refine lv_iload_n hx hb dX12_spreadPick_82 rfl (lv_at hl 2 rfl) ?_
    refine zy_l (va_runV (As := [.int oa, .int ob]) (rest := [.long y21_, .long y7_, .ref h]) ⟨hx, hb, hml, hown, hts⟩ (n_highOver l dC dI h ad cl H.size (sL (sL σ 45 y18_) 46 y7_) oa ob (Inv.sL (Inv.sL hI)) ⟨o1, o6⟩ ⟨o3, o5⟩) (cwV 2 hts gd_n_spreadPick_407_n_highOver rfl rfl rfl dd_n_highOver ⟨Nat.le_of_ble_eq_true rfl, Nat.le_of_ble_eq_true rfl⟩) (preV hP hK hD hE (ci := 12) (q0 := 0) rfl rfl) rfl rfl hl.1 rfl (lv_room (Nat.le_of_ble_eq_true rfl)) dX12_spreadPick_83 ⟨Nat.le_of_ble_eq_true rfl, Nat.le_of_ble_eq_true rfl⟩) hD hS hA (fun y24_ τ23_ H locs hq hP hD hS => ?_)
    obtain ⟨rfl, f25_⟩ := hq
    refine W.widen (k := 0) (n := 0) (Nat.le_of_ble_eq_true rfl) (Nat.le_of_ble_eq_true rfl) ?_
    refine zs_l (va_runS (As := [.long y21_, .long y24_]) (rest := [.long y7_, .ref h]) ⟨hx, hb, hml, hown, hts⟩ (n_greaterV l dC dI y21_ y24_  H.size) (va_cwS 2 hts gd_n_spreadPick_318_n_greaterV rfl rfl rfl dd_n_greaterV ⟨Nat.le_of_ble_eq_true rfl, Nat.le_of_ble_eq_true rfl⟩) (preS (A := A) empP (hK.sub (tys' := []) [] rfl) empD hE) rfl rfl hl.1 rfl (lv_room (Nat.le_of_ble_eq_true rfl)) dX12_spreadPick_86 ⟨Nat.le_of_ble_eq_true rfl, Nat.le_of_ble_eq_true rfl⟩) hP hD hS hA (fun y26_ H locs hq hP hD hS => ?_)
    have f27_ := hq
    refine W.widen (k := 0) (n := 0) (Nat.le_of_ble_eq_true rfl) (Nat.le_of_ble_eq_true rfl) ?_
    refine zs_l (va_runS (As := [.long y7_, .long y26_]) (rest := [.ref h]) ⟨hx, hb, hml, hown, hts⟩ (n_greaterV l dC dI y7_ y26_  H.size) (va_cwS 2 hts gd_n_spreadPick_318_n_greaterV rfl rfl rfl dd_n_greaterV ⟨Nat.le_of_ble_eq_true rfl, Nat.le_of_ble_eq_true rfl⟩) (preS (A := A) empP (hK.sub (tys' := []) [] rfl) empD hE) rfl rfl hl.1 rfl (lv_room (Nat.le_of_ble_eq_true rfl)) dX12_spreadPick_89 ⟨Nat.le_of_ble_eq_true rfl, Nat.le_of_ble_eq_true rfl⟩) hP hD hS hA (fun y28_ H locs hq hP hD hS => ?_)
    have f29_ := hq
    refine W.widen (k := 0) (n := 0) (Nat.le_of_ble_eq_true rfl) (Nat.le_of_ble_eq_true rfl) ?_
    refine va_put (D := (dC, dI)) (ci := 12) (v := .long y28_) (ty := tyX12 46) (C := RX12) (T := TX12) (N := 59) hx hb hts hin12 tyX12 tyX12_ok nmX12 hown hK hP hD hS 0 rfl rfl 46 (Nat.le_of_ble_eq_true rfl) (ho (.fieldLink RX12 382 "NearEnoughModel" "spanHigh" "J") (List.mem_of_getElem? (i := 3) rfl)) (fun _ h9 => h9) rfl (tyX12_ok 46 (Nat.le_of_ble_eq_true rfl)) rfl rfl (Nat.le_of_ble_eq_true rfl) dX12_spreadPick_92 (fun H locs hP hD hS => ?_)
    have hP : va_P (dC, dI) vwCl (mW h ad cl (sL (sL σ 45 y18_) 46 y28_)) H := hP
    have hD : va_D A (mW h ad cl (sL (sL σ 45 y18_) 46 y28_)) := hD
    rw [hQ]
    have o7 : ¬ u9.toInt = 0 := by omega
    have R30_ : y18_ = pkLo (σ.1 29).toNatClampNeg (coJ σ) (σ.2.2.1 43) oa.toNatClampNeg ob.toNatClampNeg (¬ u9.toInt = 0) := by rw [(pk_y (B := (σ.1 29).toNatClampNeg) (J := coJ σ) (L := σ.2.2.1 43) (H := σ.2.2.1 44) (a := oa.toNatClampNeg) (b := ob.toNatClampNeg) o7).1]; simp only [ey1_, ey2_, f4_, ey5_, ey6_, f8_, f12_, f15_, f17_, f19_, f22_, f25_, f27_, f29_] <;> rfl
    have R31_ : y28_ = pkHi (σ.1 29).toNatClampNeg (coJ σ) (σ.2.2.1 44) oa.toNatClampNeg ob.toNatClampNeg (¬ u9.toInt = 0) := by rw [(pk_y (B := (σ.1 29).toNatClampNeg) (J := coJ σ) (L := σ.2.2.1 43) (H := σ.2.2.1 44) (a := oa.toNatClampNeg) (b := ob.toNatClampNeg) o7).2]; simp only [ey1_, ey2_, f4_, ey5_, ey6_, f8_, f12_, f15_, f17_, f19_, f22_, f25_, f27_, f29_] <;> rfl
    exact W.vret hx hb hr (fun t ht hW => ⟨⟨(sL (sL σ 45 y18_) 46 y28_), rfl, ⟨(Inv.sL (Inv.sL hI)), (eqx.sL (eqx.sL eqx.rf rg_498) rg_499), R30_, R31_⟩, wEn_of hP (hK.sub [] rfl) hD ht hW⟩, hS.F ht⟩) hS.2.2 dX12_spreadPick_95
  · have tc9_ := (show u9.toInt = 0 from ti_eq rfl rg_11 c9_)
    rw [hQ]
    have o8 : u9.toInt = 0 := by omega
    have R32_ : y3_ = pkLo (σ.1 29).toNatClampNeg (coJ σ) (σ.2.2.1 43) oa.toNatClampNeg ob.toNatClampNeg (¬ u9.toInt = 0) := by rw [(pk_n (B := (σ.1 29).toNatClampNeg) (J := coJ σ) (L := σ.2.2.1 43) (H := σ.2.2.1 44) (a := oa.toNatClampNeg) (b := ob.toNatClampNeg) (fun h9 => h9 o8)).1]; simp only [ey1_, ey2_, f4_, ey5_, ey6_, f8_] <;> rfl
    have R33_ : y7_ = pkHi (σ.1 29).toNatClampNeg (coJ σ) (σ.2.2.1 44) oa.toNatClampNeg ob.toNatClampNeg (¬ u9.toInt = 0) := by rw [(pk_n (B := (σ.1 29).toNatClampNeg) (J := coJ σ) (L := σ.2.2.1 43) (H := σ.2.2.1 44) (a := oa.toNatClampNeg) (b := ob.toNatClampNeg) (fun h9 => h9 o8)).2]; simp only [ey1_, ey2_, f4_, ey5_, ey6_, f8_] <;> rfl
    exact W.vret hx hb hr (fun t ht hW => ⟨⟨(sL (sL σ 45 y3_) 46 y7_), rfl, ⟨(Inv.sL (Inv.sL hI)), (eqx.sL (eqx.sL eqx.rf rg_498) rg_499), R32_, R33_⟩, wEn_of hP (hK.sub [] rfl) hD ht hW⟩, hS.F ht⟩) hS.2.2 dX12_spreadPick_42
def ow_n_spreadUsual : List Cond := [.fieldLink RX12 42 "NearEnoughModel" "sA" "[I", .fieldLink RX12 45 "NearEnoughModel" "sB" "[I", .fieldLink RX12 107 "NearEnoughModel" "low" "[J", .fieldLink RX12 379 "NearEnoughModel" "spanLow" "J", .fieldLink RX12 110 "NearEnoughModel" "high0" "[J", .fieldLink RX12 382 "NearEnoughModel" "spanHigh" "J"]
def vs_n_spreadUsual : List Cond := .code yX12_spreadUsual cX12_spreadUsual 5 none :: (ow_n_spreadUsual ++ (([.methodLink RX12 403 yX12_lowOver, .instanceMethod yX12_lowOver, .selects RX12 yX12_lowOver yX12_lowOver, .initialized RX12] : List Cond) ++ (vs_n_lowOver ++ (([.methodLink RX12 314 yX12_lesser, .static yX12_lesser, .initialized yX12_lesser.cls] : List Cond) ++ (vs_n_lesserV ++ (([.methodLink RX12 407 yX12_highOver, .instanceMethod yX12_highOver, .selects RX12 yX12_highOver yX12_highOver, .initialized RX12] : List Cond) ++ (vs_n_highOver ++ (([.methodLink RX12 318 yX12_greater, .static yX12_greater, .initialized yX12_greater.cls] : List Cond) ++ (vs_n_greaterV ++ (wsX120))))))))))
theorem vg_n_spreadUsual : vs_n_spreadUsual.all goodWord = true := by decide +kernel
theorem dd_n_spreadUsual : yX12_spreadUsual.cls = RX12 ∧ yX12_spreadUsual.cls ≠ "java/lang/invoke/MethodHandle" ∧ yX12_spreadUsual.cls ≠ "java/lang/invoke/VarHandle" ∧ (parseMethodDescriptor yX12_spreadUsual.desc).map (fun d => d.parameters.length) = some 2 := by decide +kernel
def rm_n_spreadUsual : Room := { frames := 2, cells := 0, slots := 0, locals := 43 }
theorem gd_n_spreadUsual_403_n_lowOver : GoodIn vs_n_spreadUsual (wsV RX12 403 RX12 yX12_lowOver vs_n_lowOver) := goodIn_app (goodIn_sub (fun w h => (List.mem_cons_of_mem _ (List.mem_append_right _ (List.mem_append_left _ h)))) (by decide +kernel)) (goodIn_sub (fun w h => (List.mem_cons_of_mem _ (List.mem_append_right _ (List.mem_append_right _ (List.mem_append_left _ h))))) vg_n_lowOver)
theorem gd_n_spreadUsual_314_n_lesserV : GoodIn vs_n_spreadUsual (va_wsS RX12 314 yX12_lesser vs_n_lesserV) := goodIn_app (goodIn_sub (fun w h => (List.mem_cons_of_mem _ (List.mem_append_right _ (List.mem_append_right _ (List.mem_append_right _ (List.mem_append_left _ h)))))) (by decide +kernel)) (goodIn_sub (fun w h => (List.mem_cons_of_mem _ (List.mem_append_right _ (List.mem_append_right _ (List.mem_append_right _ (List.mem_append_right _ (List.mem_append_left _ h))))))) vg_n_lesserV)
theorem gd_n_spreadUsual_407_n_highOver : GoodIn vs_n_spreadUsual (wsV RX12 407 RX12 yX12_highOver vs_n_highOver) := goodIn_app (goodIn_sub (fun w h => (List.mem_cons_of_mem _ (List.mem_append_right _ (List.mem_append_right _ (List.mem_append_right _ (List.mem_append_right _ (List.mem_append_right _ (List.mem_append_left _ h)))))))) (by decide +kernel)) (goodIn_sub (fun w h => (List.mem_cons_of_mem _ (List.mem_append_right _ (List.mem_append_right _ (List.mem_append_right _ (List.mem_append_right _ (List.mem_append_right _ (List.mem_append_right _ (List.mem_append_left _ h))))))))) vg_n_highOver)
theorem gd_n_spreadUsual_318_n_greaterV : GoodIn vs_n_spreadUsual (va_wsS RX12 318 yX12_greater vs_n_greaterV) := goodIn_app (goodIn_sub (fun w h => (List.mem_cons_of_mem _ (List.mem_append_right _ (List.mem_append_right _ (List.mem_append_right _ (List.mem_append_right _ (List.mem_append_right _ (List.mem_append_right _ (List.mem_append_right _ (List.mem_append_left _ h)))))))))) (by decide +kernel)) (goodIn_sub (fun w h => (List.mem_cons_of_mem _ (List.mem_append_right _ (List.mem_append_right _ (List.mem_append_right _ (List.mem_append_right _ (List.mem_append_right _ (List.mem_append_right _ (List.mem_append_right _ (List.mem_append_right _ (List.mem_append_left _ h))))))))))) vg_n_greaterV)
set_option maxHeartbeats 4000000 in
set_option maxRecDepth 100000 in
theorem n_spreadUsual (l : Launch) (dC : Nat → ClassId) (dI : Nat → Nat → Nat) (h : Nat) (ad : Nat → Nat) (cl : Nat → ClassId) (sz : Nat) (σ : MS) (x9 : Int32) (n9 : Int32) (hI : Inv σ) (hx9 : 0 ≤ x9.toInt ∧ x9.toInt ≤ 23) (hn9 : n9.toInt = 0 ∨ n9.toInt = 1) (ha9 : 0 ≤ (σ.2.1 18 x9.toNatClampNeg).toInt ∧ (σ.2.1 18 x9.toNatClampNeg).toInt ≤ 11) (hb9 : 0 ≤ (σ.2.1 19 x9.toNatClampNeg).toInt ∧ (σ.2.1 19 x9.toNatClampNeg).toInt ≤ 11) : Met l yX12_spreadUsual vs_n_spreadUsual rm_n_spreadUsual (va_Pc [.ref h, .int x9, .int n9] (wSt dC dI (mW h ad cl σ) (mT cl) sz)) (va_Qv (fun (τ : MS) => Inv τ ∧ eqx [45, 46] τ σ ∧ τ.2.2.2 45 = (if n9.toInt = 0 then ls2 (σ.2.2.1 43 (σ.2.1 18 x9.toNatClampNeg).toNatClampNeg) (ovLo (σ.1 29).toNatClampNeg (coJ σ) (σ.2.2.1 43) (σ.2.1 18 x9.toNatClampNeg).toNatClampNeg (σ.2.1 19 x9.toNatClampNeg).toNatClampNeg) else ls2 (σ.2.2.1 43 (σ.2.1 19 x9.toNatClampNeg).toNatClampNeg) (ovLo (σ.1 29).toNatClampNeg (coJ σ) (σ.2.2.1 43) (σ.2.1 19 x9.toNatClampNeg).toNatClampNeg (σ.2.1 18 x9.toNatClampNeg).toNatClampNeg)) ∧ τ.2.2.2 46 = (if n9.toInt = 0 then gt2 (σ.2.2.1 44 (σ.2.1 18 x9.toNatClampNeg).toNatClampNeg) (ovHi (σ.1 29).toNatClampNeg (coJ σ) (σ.2.2.1 44) (σ.2.1 18 x9.toNatClampNeg).toNatClampNeg (σ.2.1 19 x9.toNatClampNeg).toNatClampNeg) else gt2 (σ.2.2.1 44 (σ.2.1 19 x9.toNatClampNeg).toNatClampNeg) (ovHi (σ.1 29).toNatClampNeg (coJ σ) (σ.2.2.1 44) (σ.2.1 19 x9.toNatClampNeg).toNatClampNeg (σ.2.1 18 x9.toNatClampNeg).toNatClampNeg))) (fun (τ : MS) => wEn dC dI (va_A (mW h ad cl σ) sz) (mW h ad cl τ) []) (va_A (mW h ad cl σ) sz)) 0 0 (va_A (mW h ad cl σ) sz) := by
  refine Met.ofW (cc := cX12_spreadUsual) (maxL := 5) (ret := none) (by decide) rfl ?_
  intro p e s m args below meth c s₁ B hml hv
  obtain ⟨rfl, hsz, hP, hK, hD0, hE⟩ := hv
  have hx := B.exec
  have hb := B.bytes
  have hr := B.returns
  have hts := atoms_spec (ws := vs_n_spreadUsual) B.pre
  have hown : s.vm.findClass RX12 = some m.cls := findClass_of_methodNamed B.named
  have hlocks := B.notSynchronized
  subst hsz
  have hD := hD0.self (sz := s.heap.size)
  generalize hAe : va_A (mW h ad cl σ) s.heap.size = A at hD ⊢
  have hA : ∀ q : Nat, s.heap.size ≤ q → A q := fun q h => by rw [← hAe]; exact Or.inr h
  have hl := lv_entry ([.ref h, .int x9, .int n9]) (n := 5) (Nat.le_of_ble_eq_true rfl)
  rw [lg_entry_eq]
  generalize (lg_sl ([.ref h, .int x9, .int n9]) ++ List.replicate (5 - (lg_sl ([.ref h, .int x9, .int n9])).length) Slot.unset).toArray = ls at hl ⊢
  have hl : lv_has ls 5 [(0, .ref h), (1, .int x9), (2, .int n9)] := hl
  have ho := fun w (h : w ∈ ow_n_spreadUsual) => hts w (List.mem_cons_of_mem _ (List.mem_append_left _ h))
  have hin12 : ∀ w ∈ u_ws RX12 TX12 59, w ∈ vs_n_spreadUsual := fun w h => (List.mem_cons_of_mem _ (List.mem_append_right _ (List.mem_append_right _ (List.mem_append_right _ (List.mem_append_right _ (List.mem_append_right _ (List.mem_append_right _ (List.mem_append_right _ (List.mem_append_right _ (List.mem_append_right _ h))))))))))
  refine zQ (fun Q hQ => ?_)
  refine zH (A := A) (ws := mW h ad cl σ) (fun H hP hS => ?_) hP
  have bσ_29 : 0 ≤ (σ.1 29).toInt ∧ (σ.1 29).toInt ≤ 1 := hI.1 29
  rcases (show n9.toInt = 0 ∨ n9.toInt = 1 by omega) with t_sp | t_sp
  · obtain rfl : n9 = 0 := Int32.toInt_inj.mp (t_sp.trans rg_500)
    have kk1_ : (0 : Int32).toInt = 0 := rg_11
    have hl : lv_has ls 5 [(0, .ref h), (1, .int x9), (2, .int 0)] := hl
    refine lv_iload_n hx hb dX12_spreadUsual_0 rfl (lv_at hl 2 rfl) ?_
    refine lv_if_ne (tgt := 13) hx hb dX12_spreadUsual_1 rfl (fun cc => absurd cc (by decide)) (fun _ => ?_)
    refine lv_aload_n hx hb dX12_spreadUsual_4 rfl (lv_at hl 0 rfl) ?_
    refine va_get (D := (dC, dI)) (ci := 12) (v := .ref (ad 18)) (C := RX12) (T := TX12) (N := 59) hx hb hts hin12 hown hK hP 0 rfl rfl 18 (Nat.le_of_ble_eq_true rfl) (ho (.fieldLink RX12 42 "NearEnoughModel" "sA" "[I") (List.mem_of_getElem? (i := 0) rfl)) (fun _ h9 => h9) rfl dX12_spreadUsual_5 ?_
    refine lv_iload_n hx hb dX12_spreadUsual_8 rfl (lv_at hl 1 rfl) ?_
    have o1 : 0 ≤ x9.toInt := by omega
    have o2 : x9.toInt < ((24 : Nat) : Int) := by omega
    refine va_iald hx hb hK hP 10 9 rfl rfl (ti_inx o1 o2) dX12_spreadUsual_9 ?_
    refine lv_topi (fun z2_ ez2_ => ?_)
    have gz2_ : z2_.toInt = ((σ.2.1 18) (Int32.toNatClampNeg x9)).toInt := congrArg Int32.toInt (ez2_.trans (congrFun rfl (Int32.toNatClampNeg x9)))
    have bz2_ : (-1) ≤ z2_.toInt ∧ z2_.toInt ≤ 11 := by rw [ez2_]; exact (hI.2 18) _ (cl_lt (n := 24) o1 o2)
    refine lv_goto (tgt := 19) hx hb dX12_spreadUsual_10 rfl ?_
    refine lv_istore_n (lv' := [(3, .int z2_), (0, .ref h), (1, .int x9), (2, .int 0)]) hx hb dX12_spreadUsual_19 rfl hl (Nat.le_of_ble_eq_true rfl) rfl (fun ls hl => ?_)
    refine lv_iload_n hx hb dX12_spreadUsual_20 rfl (lv_at hl 3 rfl) ?_
    refine lv_if_ne (tgt := 33) hx hb dX12_spreadUsual_21 rfl (fun cc => absurd cc (by decide)) (fun _ => ?_)
    refine lv_aload_n hx hb dX12_spreadUsual_24 rfl (lv_at hl 1 rfl) ?_
    refine va_get (D := (dC, dI)) (ci := 12) (v := .ref (ad 19)) (C := RX12) (T := TX12) (N := 59) hx hb hts hin12 hown hK hP 0 rfl rfl 19 (Nat.le_of_ble_eq_true rfl) (ho (.fieldLink RX12 45 "NearEnoughModel" "sB" "[I") (List.mem_of_getElem? (i := 1) rfl)) (fun _ h9 => h9) rfl dX12_spreadUsual_25 ?_
    refine lv_iload_n hx hb dX12_spreadUsual_28 rfl (lv_at hl 2 rfl) ?_
    refine va_iald hx hb hK hP 11 10 rfl rfl (ti_inx o1 o2) dX12_spreadUsual_29 ?_
    refine lv_topi (fun z3_ ez3_ => ?_)
    have gz3_ : z3_.toInt = ((σ.2.1 19) (Int32.toNatClampNeg x9)).toInt := congrArg Int32.toInt (ez3_.trans (congrFun rfl (Int32.toNatClampNeg x9)))
    have bz3_ : (-99) ≤ z3_.toInt ∧ z3_.toInt ≤ 99 := by rw [ez3_]; exact (hI.2 19) _ (cl_lt (n := 24) o1 o2)
    refine lv_goto (tgt := 39) hx hb dX12_spreadUsual_30 rfl ?_
    refine lv_istore (lv' := [(4, .int z3_), (3, .int z2_), (0, .ref h), (1, .int x9), (2, .int 0)]) hx hb dX12_spreadUsual_39 hl (Nat.le_of_ble_eq_true rfl) rfl (fun ls hl => ?_)
    refine lv_aload_n hx hb dX12_spreadUsual_41 rfl (lv_at hl 2 rfl) ?_
    refine lv_aload_n hx hb dX12_spreadUsual_42 rfl (lv_at hl 2 rfl) ?_
    refine va_get (D := (dC, dI)) (ci := 12) (v := .ref (ad 43)) (C := RX12) (T := TX12) (N := 59) hx hb hts hin12 hown hK hP 0 rfl rfl 43 (Nat.le_of_ble_eq_true rfl) (ho (.fieldLink RX12 107 "NearEnoughModel" "low" "[J") (List.mem_of_getElem? (i := 2) rfl)) (fun _ h9 => h9) rfl dX12_spreadUsual_43 ?_
    refine lv_iload_n hx hb dX12_spreadUsual_46 rfl (lv_at hl 1 rfl) ?_
    have o3 : 0 ≤ z2_.toInt := by omega
    have o4 : z2_.toInt < ((12 : Nat) : Int) := by omega
    refine va_lald hx hb hK hP 31 30 rfl rfl (ti_inx o3 o4) dX12_spreadUsual_47 ?_
    refine lv_topl (fun y4_ ey4_ => ?_)
    refine lv_aload_n hx hb dX12_spreadUsual_48 rfl (lv_at hl 2 rfl) ?_
    refine lv_iload_n hx hb dX12_spreadUsual_49 rfl (lv_at hl 1 rfl) ?_
    refine lv_iload hx hb dX12_spreadUsual_50 (lv_at hl 0 rfl) ?_
    have o5 : z2_.toInt ≤ 11 := by omega
    have o6 : 0 ≤ z3_.toInt := by omega
    have o7 : z3_.toInt ≤ 11 := by omega
    refine zy_l (va_runV (As := [.int z2_, .int z3_]) (rest := [.long y4_, .ref h]) ⟨hx, hb, hml, hown, hts⟩ (n_lowOver l dC dI h ad cl H.size σ z2_ z3_ hI ⟨o3, o5⟩ ⟨o6, o7⟩) (cwV 2 hts gd_n_spreadUsual_403_n_lowOver rfl rfl rfl dd_n_lowOver ⟨Nat.le_of_ble_eq_true rfl, Nat.le_of_ble_eq_true rfl⟩) (preV hP hK hD hE (ci := 12) (q0 := 0) rfl rfl) rfl rfl hl.1 rfl (lv_room (Nat.le_of_ble_eq_true rfl)) dX12_spreadUsual_52 ⟨Nat.le_of_ble_eq_true rfl, Nat.le_of_ble_eq_true rfl⟩) hD hS hA (fun y6_ τ5_ H locs hq hP hD hS => ?_)
    obtain ⟨rfl, f7_⟩ := hq
    refine W.widen (k := 0) (n := 0) (Nat.le_of_ble_eq_true rfl) (Nat.le_of_ble_eq_true rfl) ?_
    refine zs_l (va_runS (As := [.long y4_, .long y6_]) (rest := [.ref h]) ⟨hx, hb, hml, hown, hts⟩ (n_lesserV l dC dI y4_ y6_  H.size) (va_cwS 2 hts gd_n_spreadUsual_314_n_lesserV rfl rfl rfl dd_n_lesserV ⟨Nat.le_of_ble_eq_true rfl, Nat.le_of_ble_eq_true rfl⟩) (preS (A := A) empP (hK.sub (tys' := []) [] rfl) empD hE) rfl rfl hl.1 rfl (lv_room (Nat.le_of_ble_eq_true rfl)) dX12_spreadUsual_55 ⟨Nat.le_of_ble_eq_true rfl, Nat.le_of_ble_eq_true rfl⟩) hP hD hS hA (fun y8_ H locs hq hP hD hS => ?_)
    have f9_ := hq
    refine W.widen (k := 0) (n := 0) (Nat.le_of_ble_eq_true rfl) (Nat.le_of_ble_eq_true rfl) ?_
    refine va_put (D := (dC, dI)) (ci := 12) (v := .long y8_) (ty := tyX12 45) (C := RX12) (T := TX12) (N := 59) hx hb hts hin12 tyX12 tyX12_ok nmX12 hown hK hP hD hS 0 rfl rfl 45 (Nat.le_of_ble_eq_true rfl) (ho (.fieldLink RX12 379 "NearEnoughModel" "spanLow" "J") (List.mem_of_getElem? (i := 3) rfl)) (fun _ h9 => h9) rfl (tyX12_ok 45 (Nat.le_of_ble_eq_true rfl)) rfl rfl (Nat.le_of_ble_eq_true rfl) dX12_spreadUsual_58 (fun H locs hP hD hS => ?_)
    have hP : va_P (dC, dI) vwCl (mW h ad cl (sL σ 45 y8_)) H := hP
    have hD : va_D A (mW h ad cl (sL σ 45 y8_)) := hD
    refine lv_aload_n hx hb dX12_spreadUsual_61 rfl (lv_at hl 2 rfl) ?_
    refine lv_aload_n hx hb dX12_spreadUsual_62 rfl (lv_at hl 2 rfl) ?_
    refine va_get (D := (dC, dI)) (ci := 12) (v := .ref (ad 44)) (C := RX12) (T := TX12) (N := 59) hx hb hts hin12 hown hK hP 0 rfl rfl 44 (Nat.le_of_ble_eq_true rfl) (ho (.fieldLink RX12 110 "NearEnoughModel" "high0" "[J") (List.mem_of_getElem? (i := 4) rfl)) (fun _ h9 => h9) rfl dX12_spreadUsual_63 ?_
    refine lv_iload_n hx hb dX12_spreadUsual_66 rfl (lv_at hl 1 rfl) ?_
    refine va_lald hx hb hK hP 32 31 rfl rfl (ti_inx o3 o4) dX12_spreadUsual_67 ?_
    refine lv_topl (fun y10_ ey10_ => ?_)
    refine lv_aload_n hx hb dX12_spreadUsual_68 rfl (lv_at hl 2 rfl) ?_
    refine lv_iload_n hx hb dX12_spreadUsual_69 rfl (lv_at hl 1 rfl) ?_
    refine lv_iload hx hb dX12_spreadUsual_70 (lv_at hl 0 rfl) ?_
    refine zy_l (va_runV (As := [.int z2_, .int z3_]) (rest := [.long y10_, .ref h]) ⟨hx, hb, hml, hown, hts⟩ (n_highOver l dC dI h ad cl H.size (sL σ 45 y8_) z2_ z3_ (Inv.sL hI) ⟨o3, o5⟩ ⟨o6, o7⟩) (cwV 2 hts gd_n_spreadUsual_407_n_highOver rfl rfl rfl dd_n_highOver ⟨Nat.le_of_ble_eq_true rfl, Nat.le_of_ble_eq_true rfl⟩) (preV hP hK hD hE (ci := 12) (q0 := 0) rfl rfl) rfl rfl hl.1 rfl (lv_room (Nat.le_of_ble_eq_true rfl)) dX12_spreadUsual_72 ⟨Nat.le_of_ble_eq_true rfl, Nat.le_of_ble_eq_true rfl⟩) hD hS hA (fun y12_ τ11_ H locs hq hP hD hS => ?_)
    obtain ⟨rfl, f13_⟩ := hq
    refine W.widen (k := 0) (n := 0) (Nat.le_of_ble_eq_true rfl) (Nat.le_of_ble_eq_true rfl) ?_
    refine zs_l (va_runS (As := [.long y10_, .long y12_]) (rest := [.ref h]) ⟨hx, hb, hml, hown, hts⟩ (n_greaterV l dC dI y10_ y12_  H.size) (va_cwS 2 hts gd_n_spreadUsual_318_n_greaterV rfl rfl rfl dd_n_greaterV ⟨Nat.le_of_ble_eq_true rfl, Nat.le_of_ble_eq_true rfl⟩) (preS (A := A) empP (hK.sub (tys' := []) [] rfl) empD hE) rfl rfl hl.1 rfl (lv_room (Nat.le_of_ble_eq_true rfl)) dX12_spreadUsual_75 ⟨Nat.le_of_ble_eq_true rfl, Nat.le_of_ble_eq_true rfl⟩) hP hD hS hA (fun y14_ H locs hq hP hD hS => ?_)
    have f15_ := hq
    refine W.widen (k := 0) (n := 0) (Nat.le_of_ble_eq_true rfl) (Nat.le_of_ble_eq_true rfl) ?_
    refine va_put (D := (dC, dI)) (ci := 12) (v := .long y14_) (ty := tyX12 46) (C := RX12) (T := TX12) (N := 59) hx hb hts hin12 tyX12 tyX12_ok nmX12 hown hK hP hD hS 0 rfl rfl 46 (Nat.le_of_ble_eq_true rfl) (ho (.fieldLink RX12 382 "NearEnoughModel" "spanHigh" "J") (List.mem_of_getElem? (i := 5) rfl)) (fun _ h9 => h9) rfl (tyX12_ok 46 (Nat.le_of_ble_eq_true rfl)) rfl rfl (Nat.le_of_ble_eq_true rfl) dX12_spreadUsual_78 (fun H locs hP hD hS => ?_)
    have hP : va_P (dC, dI) vwCl (mW h ad cl (sL (sL σ 45 y8_) 46 y14_)) H := hP
    have hD : va_D A (mW h ad cl (sL (sL σ 45 y8_) 46 y14_)) := hD
    rw [hQ]
    have R16_ : y8_ = (if (0 : Int32).toInt = 0 then ls2 (σ.2.2.1 43 (σ.2.1 18 x9.toNatClampNeg).toNatClampNeg) (ovLo (σ.1 29).toNatClampNeg (coJ σ) (σ.2.2.1 43) (σ.2.1 18 x9.toNatClampNeg).toNatClampNeg (σ.2.1 19 x9.toNatClampNeg).toNatClampNeg) else ls2 (σ.2.2.1 43 (σ.2.1 19 x9.toNatClampNeg).toNatClampNeg) (ovLo (σ.1 29).toNatClampNeg (coJ σ) (σ.2.2.1 43) (σ.2.1 19 x9.toNatClampNeg).toNatClampNeg (σ.2.1 18 x9.toNatClampNeg).toNatClampNeg)) := by rw [if_pos rg_11]; simp only [ez2_, ez3_, ey4_, f7_, f9_, ey10_, f13_, f15_] <;> rfl
    have R17_ : y14_ = (if (0 : Int32).toInt = 0 then gt2 (σ.2.2.1 44 (σ.2.1 18 x9.toNatClampNeg).toNatClampNeg) (ovHi (σ.1 29).toNatClampNeg (coJ σ) (σ.2.2.1 44) (σ.2.1 18 x9.toNatClampNeg).toNatClampNeg (σ.2.1 19 x9.toNatClampNeg).toNatClampNeg) else gt2 (σ.2.2.1 44 (σ.2.1 19 x9.toNatClampNeg).toNatClampNeg) (ovHi (σ.1 29).toNatClampNeg (coJ σ) (σ.2.2.1 44) (σ.2.1 19 x9.toNatClampNeg).toNatClampNeg (σ.2.1 18 x9.toNatClampNeg).toNatClampNeg)) := by rw [if_pos rg_11]; simp only [ez2_, ez3_, ey4_, f7_, f9_, ey10_, f13_, f15_] <;> rfl
    exact W.vret hx hb hr (fun t ht hW => ⟨⟨(sL (sL σ 45 y8_) 46 y14_), rfl, ⟨(Inv.sL (Inv.sL hI)), (eqx.sL (eqx.sL eqx.rf rg_498) rg_499), R16_, R17_⟩, wEn_of hP (hK.sub [] rfl) hD ht hW⟩, hS.F ht⟩) hS.2.2 dX12_spreadUsual_81
  · obtain rfl : n9 = 1 := Int32.toInt_inj.mp (t_sp.trans rg_501)
    have kk18_ : (1 : Int32).toInt = 1 := rg_18
    have hl : lv_has ls 5 [(0, .ref h), (1, .int x9), (2, .int 1)] := hl
    refine lv_iload_n hx hb dX12_spreadUsual_0 rfl (lv_at hl 2 rfl) ?_
    refine lv_if_ne (tgt := 13) hx hb dX12_spreadUsual_1 rfl (fun _ => ?_) (fun cc => absurd cc (by decide))
    refine lv_aload_n hx hb dX12_spreadUsual_13 rfl (lv_at hl 0 rfl) ?_
    refine va_get (D := (dC, dI)) (ci := 12) (v := .ref (ad 19)) (C := RX12) (T := TX12) (N := 59) hx hb hts hin12 hown hK hP 0 rfl rfl 19 (Nat.le_of_ble_eq_true rfl) (ho (.fieldLink RX12 45 "NearEnoughModel" "sB" "[I") (List.mem_of_getElem? (i := 1) rfl)) (fun _ h9 => h9) rfl dX12_spreadUsual_14 ?_
    refine lv_iload_n hx hb dX12_spreadUsual_17 rfl (lv_at hl 1 rfl) ?_
    have o8 : 0 ≤ x9.toInt := by omega
    have o9 : x9.toInt < ((24 : Nat) : Int) := by omega
    refine va_iald hx hb hK hP 11 10 rfl rfl (ti_inx o8 o9) dX12_spreadUsual_18 ?_
    refine lv_topi (fun z19_ ez19_ => ?_)
    have gz19_ : z19_.toInt = ((σ.2.1 19) (Int32.toNatClampNeg x9)).toInt := congrArg Int32.toInt (ez19_.trans (congrFun rfl (Int32.toNatClampNeg x9)))
    have bz19_ : (-99) ≤ z19_.toInt ∧ z19_.toInt ≤ 99 := by rw [ez19_]; exact (hI.2 19) _ (cl_lt (n := 24) o8 o9)
    refine lv_istore_n (lv' := [(3, .int z19_), (0, .ref h), (1, .int x9), (2, .int 1)]) hx hb dX12_spreadUsual_19 rfl hl (Nat.le_of_ble_eq_true rfl) rfl (fun ls hl => ?_)
    refine lv_iload_n hx hb dX12_spreadUsual_20 rfl (lv_at hl 3 rfl) ?_
    refine lv_if_ne (tgt := 33) hx hb dX12_spreadUsual_21 rfl (fun _ => ?_) (fun cc => absurd cc (by decide))
    refine lv_aload_n hx hb dX12_spreadUsual_33 rfl (lv_at hl 1 rfl) ?_
    refine va_get (D := (dC, dI)) (ci := 12) (v := .ref (ad 18)) (C := RX12) (T := TX12) (N := 59) hx hb hts hin12 hown hK hP 0 rfl rfl 18 (Nat.le_of_ble_eq_true rfl) (ho (.fieldLink RX12 42 "NearEnoughModel" "sA" "[I") (List.mem_of_getElem? (i := 0) rfl)) (fun _ h9 => h9) rfl dX12_spreadUsual_34 ?_
    refine lv_iload_n hx hb dX12_spreadUsual_37 rfl (lv_at hl 2 rfl) ?_
    refine va_iald hx hb hK hP 10 9 rfl rfl (ti_inx o8 o9) dX12_spreadUsual_38 ?_
    refine lv_topi (fun z20_ ez20_ => ?_)
    have gz20_ : z20_.toInt = ((σ.2.1 18) (Int32.toNatClampNeg x9)).toInt := congrArg Int32.toInt (ez20_.trans (congrFun rfl (Int32.toNatClampNeg x9)))
    have bz20_ : (-1) ≤ z20_.toInt ∧ z20_.toInt ≤ 11 := by rw [ez20_]; exact (hI.2 18) _ (cl_lt (n := 24) o8 o9)
    refine lv_istore (lv' := [(4, .int z20_), (3, .int z19_), (0, .ref h), (1, .int x9), (2, .int 1)]) hx hb dX12_spreadUsual_39 hl (Nat.le_of_ble_eq_true rfl) rfl (fun ls hl => ?_)
    refine lv_aload_n hx hb dX12_spreadUsual_41 rfl (lv_at hl 2 rfl) ?_
    refine lv_aload_n hx hb dX12_spreadUsual_42 rfl (lv_at hl 2 rfl) ?_
    refine va_get (D := (dC, dI)) (ci := 12) (v := .ref (ad 43)) (C := RX12) (T := TX12) (N := 59) hx hb hts hin12 hown hK hP 0 rfl rfl 43 (Nat.le_of_ble_eq_true rfl) (ho (.fieldLink RX12 107 "NearEnoughModel" "low" "[J") (List.mem_of_getElem? (i := 2) rfl)) (fun _ h9 => h9) rfl dX12_spreadUsual_43 ?_
    refine lv_iload_n hx hb dX12_spreadUsual_46 rfl (lv_at hl 1 rfl) ?_
    have o10 : 0 ≤ z19_.toInt := by omega
    have o11 : z19_.toInt < ((12 : Nat) : Int) := by omega
    refine va_lald hx hb hK hP 31 30 rfl rfl (ti_inx o10 o11) dX12_spreadUsual_47 ?_
    refine lv_topl (fun y21_ ey21_ => ?_)
    refine lv_aload_n hx hb dX12_spreadUsual_48 rfl (lv_at hl 2 rfl) ?_
    refine lv_iload_n hx hb dX12_spreadUsual_49 rfl (lv_at hl 1 rfl) ?_
    refine lv_iload hx hb dX12_spreadUsual_50 (lv_at hl 0 rfl) ?_
    have o12 : z19_.toInt ≤ 11 := by omega
    have o13 : 0 ≤ z20_.toInt := by omega
    have o14 : z20_.toInt ≤ 11 := by omega
    refine zy_l (va_runV (As := [.int z19_, .int z20_]) (rest := [.long y21_, .ref h]) ⟨hx, hb, hml, hown, hts⟩ (n_lowOver l dC dI h ad cl H.size σ z19_ z20_ hI ⟨o10, o12⟩ ⟨o13, o14⟩) (cwV 2 hts gd_n_spreadUsual_403_n_lowOver rfl rfl rfl dd_n_lowOver ⟨Nat.le_of_ble_eq_true rfl, Nat.le_of_ble_eq_true rfl⟩) (preV hP hK hD hE (ci := 12) (q0 := 0) rfl rfl) rfl rfl hl.1 rfl (lv_room (Nat.le_of_ble_eq_true rfl)) dX12_spreadUsual_52 ⟨Nat.le_of_ble_eq_true rfl, Nat.le_of_ble_eq_true rfl⟩) hD hS hA (fun y23_ τ22_ H locs hq hP hD hS => ?_)
    obtain ⟨rfl, f24_⟩ := hq
    refine W.widen (k := 0) (n := 0) (Nat.le_of_ble_eq_true rfl) (Nat.le_of_ble_eq_true rfl) ?_
    refine zs_l (va_runS (As := [.long y21_, .long y23_]) (rest := [.ref h]) ⟨hx, hb, hml, hown, hts⟩ (n_lesserV l dC dI y21_ y23_  H.size) (va_cwS 2 hts gd_n_spreadUsual_314_n_lesserV rfl rfl rfl dd_n_lesserV ⟨Nat.le_of_ble_eq_true rfl, Nat.le_of_ble_eq_true rfl⟩) (preS (A := A) empP (hK.sub (tys' := []) [] rfl) empD hE) rfl rfl hl.1 rfl (lv_room (Nat.le_of_ble_eq_true rfl)) dX12_spreadUsual_55 ⟨Nat.le_of_ble_eq_true rfl, Nat.le_of_ble_eq_true rfl⟩) hP hD hS hA (fun y25_ H locs hq hP hD hS => ?_)
    have f26_ := hq
    refine W.widen (k := 0) (n := 0) (Nat.le_of_ble_eq_true rfl) (Nat.le_of_ble_eq_true rfl) ?_
    refine va_put (D := (dC, dI)) (ci := 12) (v := .long y25_) (ty := tyX12 45) (C := RX12) (T := TX12) (N := 59) hx hb hts hin12 tyX12 tyX12_ok nmX12 hown hK hP hD hS 0 rfl rfl 45 (Nat.le_of_ble_eq_true rfl) (ho (.fieldLink RX12 379 "NearEnoughModel" "spanLow" "J") (List.mem_of_getElem? (i := 3) rfl)) (fun _ h9 => h9) rfl (tyX12_ok 45 (Nat.le_of_ble_eq_true rfl)) rfl rfl (Nat.le_of_ble_eq_true rfl) dX12_spreadUsual_58 (fun H locs hP hD hS => ?_)
    have hP : va_P (dC, dI) vwCl (mW h ad cl (sL σ 45 y25_)) H := hP
    have hD : va_D A (mW h ad cl (sL σ 45 y25_)) := hD
    refine lv_aload_n hx hb dX12_spreadUsual_61 rfl (lv_at hl 2 rfl) ?_
    refine lv_aload_n hx hb dX12_spreadUsual_62 rfl (lv_at hl 2 rfl) ?_
    refine va_get (D := (dC, dI)) (ci := 12) (v := .ref (ad 44)) (C := RX12) (T := TX12) (N := 59) hx hb hts hin12 hown hK hP 0 rfl rfl 44 (Nat.le_of_ble_eq_true rfl) (ho (.fieldLink RX12 110 "NearEnoughModel" "high0" "[J") (List.mem_of_getElem? (i := 4) rfl)) (fun _ h9 => h9) rfl dX12_spreadUsual_63 ?_
    refine lv_iload_n hx hb dX12_spreadUsual_66 rfl (lv_at hl 1 rfl) ?_
    refine va_lald hx hb hK hP 32 31 rfl rfl (ti_inx o10 o11) dX12_spreadUsual_67 ?_
    refine lv_topl (fun y27_ ey27_ => ?_)
    refine lv_aload_n hx hb dX12_spreadUsual_68 rfl (lv_at hl 2 rfl) ?_
    refine lv_iload_n hx hb dX12_spreadUsual_69 rfl (lv_at hl 1 rfl) ?_
    refine lv_iload hx hb dX12_spreadUsual_70 (lv_at hl 0 rfl) ?_
    refine zy_l (va_runV (As := [.int z19_, .int z20_]) (rest := [.long y27_, .ref h]) ⟨hx, hb, hml, hown, hts⟩ (n_highOver l dC dI h ad cl H.size (sL σ 45 y25_) z19_ z20_ (Inv.sL hI) ⟨o10, o12⟩ ⟨o13, o14⟩) (cwV 2 hts gd_n_spreadUsual_407_n_highOver rfl rfl rfl dd_n_highOver ⟨Nat.le_of_ble_eq_true rfl, Nat.le_of_ble_eq_true rfl⟩) (preV hP hK hD hE (ci := 12) (q0 := 0) rfl rfl) rfl rfl hl.1 rfl (lv_room (Nat.le_of_ble_eq_true rfl)) dX12_spreadUsual_72 ⟨Nat.le_of_ble_eq_true rfl, Nat.le_of_ble_eq_true rfl⟩) hD hS hA (fun y29_ τ28_ H locs hq hP hD hS => ?_)
    obtain ⟨rfl, f30_⟩ := hq
    refine W.widen (k := 0) (n := 0) (Nat.le_of_ble_eq_true rfl) (Nat.le_of_ble_eq_true rfl) ?_
    refine zs_l (va_runS (As := [.long y27_, .long y29_]) (rest := [.ref h]) ⟨hx, hb, hml, hown, hts⟩ (n_greaterV l dC dI y27_ y29_  H.size) (va_cwS 2 hts gd_n_spreadUsual_318_n_greaterV rfl rfl rfl dd_n_greaterV ⟨Nat.le_of_ble_eq_true rfl, Nat.le_of_ble_eq_true rfl⟩) (preS (A := A) empP (hK.sub (tys' := []) [] rfl) empD hE) rfl rfl hl.1 rfl (lv_room (Nat.le_of_ble_eq_true rfl)) dX12_spreadUsual_75 ⟨Nat.le_of_ble_eq_true rfl, Nat.le_of_ble_eq_true rfl⟩) hP hD hS hA (fun y31_ H locs hq hP hD hS => ?_)
    have f32_ := hq
    refine W.widen (k := 0) (n := 0) (Nat.le_of_ble_eq_true rfl) (Nat.le_of_ble_eq_true rfl) ?_
    refine va_put (D := (dC, dI)) (ci := 12) (v := .long y31_) (ty := tyX12 46) (C := RX12) (T := TX12) (N := 59) hx hb hts hin12 tyX12 tyX12_ok nmX12 hown hK hP hD hS 0 rfl rfl 46 (Nat.le_of_ble_eq_true rfl) (ho (.fieldLink RX12 382 "NearEnoughModel" "spanHigh" "J") (List.mem_of_getElem? (i := 5) rfl)) (fun _ h9 => h9) rfl (tyX12_ok 46 (Nat.le_of_ble_eq_true rfl)) rfl rfl (Nat.le_of_ble_eq_true rfl) dX12_spreadUsual_78 (fun H locs hP hD hS => ?_)
    have hP : va_P (dC, dI) vwCl (mW h ad cl (sL (sL σ 45 y25_) 46 y31_)) H := hP
    have hD : va_D A (mW h ad cl (sL (sL σ 45 y25_) 46 y31_)) := hD
    rw [hQ]
    have R33_ : y25_ = (if (1 : Int32).toInt = 0 then ls2 (σ.2.2.1 43 (σ.2.1 18 x9.toNatClampNeg).toNatClampNeg) (ovLo (σ.1 29).toNatClampNeg (coJ σ) (σ.2.2.1 43) (σ.2.1 18 x9.toNatClampNeg).toNatClampNeg (σ.2.1 19 x9.toNatClampNeg).toNatClampNeg) else ls2 (σ.2.2.1 43 (σ.2.1 19 x9.toNatClampNeg).toNatClampNeg) (ovLo (σ.1 29).toNatClampNeg (coJ σ) (σ.2.2.1 43) (σ.2.1 19 x9.toNatClampNeg).toNatClampNeg (σ.2.1 18 x9.toNatClampNeg).toNatClampNeg)) := by rw [if_neg rg_502]; simp only [ez19_, ez20_, ey21_, f24_, f26_, ey27_, f30_, f32_] <;> rfl
    have R34_ : y31_ = (if (1 : Int32).toInt = 0 then gt2 (σ.2.2.1 44 (σ.2.1 18 x9.toNatClampNeg).toNatClampNeg) (ovHi (σ.1 29).toNatClampNeg (coJ σ) (σ.2.2.1 44) (σ.2.1 18 x9.toNatClampNeg).toNatClampNeg (σ.2.1 19 x9.toNatClampNeg).toNatClampNeg) else gt2 (σ.2.2.1 44 (σ.2.1 19 x9.toNatClampNeg).toNatClampNeg) (ovHi (σ.1 29).toNatClampNeg (coJ σ) (σ.2.2.1 44) (σ.2.1 19 x9.toNatClampNeg).toNatClampNeg (σ.2.1 18 x9.toNatClampNeg).toNatClampNeg)) := by rw [if_neg rg_502]; simp only [ez19_, ez20_, ey21_, f24_, f26_, ey27_, f30_, f32_] <;> rfl
    exact W.vret hx hb hr (fun t ht hW => ⟨⟨(sL (sL σ 45 y25_) 46 y31_), rfl, ⟨(Inv.sL (Inv.sL hI)), (eqx.sL (eqx.sL eqx.rf rg_498) rg_499), R33_, R34_⟩, wEn_of hP (hK.sub [] rfl) hD ht hW⟩, hS.F ht⟩) hS.2.2 dX12_spreadUsual_81
