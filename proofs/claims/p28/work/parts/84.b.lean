theorem dX8_showChange_0 : decode cX8_showChange 0 = .ok (.iload_n 2, 1) := by decide +kernel
theorem dX8_showChange_1 : decode cX8_showChange 1 = .ok (.tableswitch 132 1 4 #[31, 48, 132, 107], 31) := by decide +kernel
theorem dX8_showChange_133 : decode cX8_showChange 133 = .ok (.return_, 1) := by decide +kernel
theorem dX8_showChange_32 : decode cX8_showChange 32 = .ok (.aload_n 0, 1) := by decide +kernel
theorem dX8_showChange_33 : decode cX8_showChange 33 = .ok (.dup, 1) := by decide +kernel
theorem dX8_showChange_34 : decode cX8_showChange 34 = .ok (.getfield 18, 3) := by decide +kernel
theorem dX8_showChange_37 : decode cX8_showChange 37 = .ok (.lconst 1, 1) := by decide +kernel
theorem dX8_showChange_38 : decode cX8_showChange 38 = .ok (.iload_n 3, 1) := by decide +kernel
theorem dX8_showChange_39 : decode cX8_showChange 39 = .ok (.lshl, 1) := by decide +kernel
theorem dX8_showChange_40 : decode cX8_showChange 40 = .ok (.lconst 1, 1) := by decide +kernel
theorem dX8_showChange_41 : decode cX8_showChange 41 = .ok (.lsub, 1) := by decide +kernel
theorem dX8_showChange_42 : decode cX8_showChange 42 = .ok (.lsub, 1) := by decide +kernel
theorem dX8_showChange_43 : decode cX8_showChange 43 = .ok (.putfield 18, 3) := by decide +kernel
theorem dX8_showChange_46 : decode cX8_showChange 46 = .ok (.goto 87, 3) := by decide +kernel
theorem dX8_showChange_64 : decode cX8_showChange 64 = .ok (.istore 4, 2) := by decide +kernel
theorem dX8_showChange_66 : decode cX8_showChange 66 = .ok (.aload_n 0, 1) := by decide +kernel
theorem dX8_showChange_67 : decode cX8_showChange 67 = .ok (.aload_n 0, 1) := by decide +kernel
theorem dX8_showChange_68 : decode cX8_showChange 68 = .ok (.getfield 9, 3) := by decide +kernel
theorem dX8_showChange_71 : decode cX8_showChange 71 = .ok (.iload 4, 2) := by decide +kernel
theorem dX8_showChange_73 : decode cX8_showChange 73 = .ok (.laload, 1) := by decide +kernel
theorem dX8_showChange_74 : decode cX8_showChange 74 = .ok (.aload_n 0, 1) := by decide +kernel
theorem dX8_showChange_75 : decode cX8_showChange 75 = .ok (.getfield 15, 3) := by decide +kernel
theorem dX8_showChange_78 : decode cX8_showChange 78 = .ok (.iload 4, 2) := by decide +kernel
theorem dX8_showChange_80 : decode cX8_showChange 80 = .ok (.laload, 1) := by decide +kernel
theorem dX8_showChange_81 : decode cX8_showChange 81 = .ok (.invokevirtual 116, 3) := by decide +kernel
theorem dX8_showChange_84 : decode cX8_showChange 84 = .ok (.aload_n 0, 1) := by decide +kernel
theorem dX8_showChange_85 : decode cX8_showChange 85 = .ok (.iload 4, 2) := by decide +kernel
theorem dX8_showChange_102 : decode cX8_showChange 102 = .ok (.invokevirtual 158, 3) := by decide +kernel
theorem dX8_showChange_105 : decode cX8_showChange 105 = .ok (.goto 28, 3) := by decide +kernel
theorem dX8_showChange_87 : decode cX8_showChange 87 = .ok (.iload_n 3, 1) := by decide +kernel
theorem dX8_showChange_88 : decode cX8_showChange 88 = .ok (.ifCond .ne 10, 3) := by decide +kernel
theorem dX8_showChange_98 : decode cX8_showChange 98 = .ok (.aload_n 1, 1) := by decide +kernel
theorem dX8_showChange_99 : decode cX8_showChange 99 = .ok (.getfield 80, 3) := by decide +kernel
theorem dX8_showChange_91 : decode cX8_showChange 91 = .ok (.aload_n 1, 1) := by decide +kernel
theorem dX8_showChange_92 : decode cX8_showChange 92 = .ok (.getfield 113, 3) := by decide +kernel
theorem dX8_showChange_95 : decode cX8_showChange 95 = .ok (.goto 7, 3) := by decide +kernel
theorem dX8_showChange_49 : decode cX8_showChange 49 = .ok (.iload_n 3, 1) := by decide +kernel
theorem dX8_showChange_50 : decode cX8_showChange 50 = .ok (.ifCond .ne 10, 3) := by decide +kernel
theorem dX8_showChange_60 : decode cX8_showChange 60 = .ok (.aload_n 1, 1) := by decide +kernel
theorem dX8_showChange_61 : decode cX8_showChange 61 = .ok (.getfield 113, 3) := by decide +kernel
theorem dX8_showChange_53 : decode cX8_showChange 53 = .ok (.aload_n 1, 1) := by decide +kernel
theorem dX8_showChange_54 : decode cX8_showChange 54 = .ok (.getfield 80, 3) := by decide +kernel
theorem dX8_showChange_57 : decode cX8_showChange 57 = .ok (.goto 7, 3) := by decide +kernel
theorem dX8_showChange_108 : decode cX8_showChange 108 = .ok (.aload_n 0, 1) := by decide +kernel
theorem dX8_showChange_109 : decode cX8_showChange 109 = .ok (.aload_n 1, 1) := by decide +kernel
theorem dX8_showChange_110 : decode cX8_showChange 110 = .ok (.invokevirtual 161, 3) := by decide +kernel
theorem dX8_showChange_113 : decode cX8_showChange 113 = .ok (.aload_n 1, 1) := by decide +kernel
theorem dX8_showChange_114 : decode cX8_showChange 114 = .ok (.getfield 132, 3) := by decide +kernel
theorem dX8_showChange_117 : decode cX8_showChange 117 = .ok (.lsub, 1) := by decide +kernel
theorem dX8_showChange_118 : decode cX8_showChange 118 = .ok (.aload_n 1, 1) := by decide +kernel
theorem dX8_showChange_119 : decode cX8_showChange 119 = .ok (.invokevirtual 161, 3) := by decide +kernel
theorem dX8_showChange_122 : decode cX8_showChange 122 = .ok (.aload_n 1, 1) := by decide +kernel
theorem dX8_showChange_123 : decode cX8_showChange 123 = .ok (.getfield 130, 3) := by decide +kernel
theorem dX8_showChange_126 : decode cX8_showChange 126 = .ok (.lsub, 1) := by decide +kernel
theorem dX8_showChange_127 : decode cX8_showChange 127 = .ok (.invokevirtual 116, 3) := by decide +kernel
theorem dX8_showChange_130 : decode cX8_showChange 130 = .ok (.goto 3, 3) := by decide +kernel
theorem dX8_showRowChange_12 : decode cX8_showRowChange 12 = .ok (.istore 5, 2) := by decide +kernel
theorem dX8_showRowChange_28 : decode cX8_showRowChange 28 = .ok (.lstore 6, 2) := by decide +kernel
theorem dX8_showRowChange_30 : decode cX8_showRowChange 30 = .ok (.aload_n 2, 1) := by decide +kernel
theorem dX8_showRowChange_31 : decode cX8_showRowChange 31 = .ok (.getfield 170, 3) := by decide +kernel
theorem dX8_showRowChange_34 : decode cX8_showRowChange 34 = .ok (.i2l, 1) := by decide +kernel
theorem dX8_showRowChange_35 : decode cX8_showRowChange 35 = .ok (.aload_n 2, 1) := by decide +kernel
theorem dX8_showRowChange_36 : decode cX8_showRowChange 36 = .ok (.getfield 172, 3) := by decide +kernel
theorem dX8_showRowChange_39 : decode cX8_showRowChange 39 = .ok (.i2l, 1) := by decide +kernel
theorem dX8_showRowChange_40 : decode cX8_showRowChange 40 = .ok (.lsub, 1) := by decide +kernel
theorem dX8_showRowChange_41 : decode cX8_showRowChange 41 = .ok (.lstore 8, 2) := by decide +kernel
theorem dX8_showRowChange_43 : decode cX8_showRowChange 43 = .ok (.aload_n 2, 1) := by decide +kernel
theorem dX8_showRowChange_44 : decode cX8_showRowChange 44 = .ok (.getfield 165, 3) := by decide +kernel
theorem dX8_showRowChange_47 : decode cX8_showRowChange 47 = .ok (.aload_n 0, 1) := by decide +kernel
theorem dX8_showRowChange_48 : decode cX8_showRowChange 48 = .ok (.getfield 40, 3) := by decide +kernel
theorem dX8_showRowChange_51 : decode cX8_showRowChange 51 = .ok (.iload 4, 2) := by decide +kernel
theorem dX8_showRowChange_53 : decode cX8_showRowChange 53 = .ok (.aload_n 2, 1) := by decide +kernel
theorem dX8_showRowChange_54 : decode cX8_showRowChange 54 = .ok (.getfield 165, 3) := by decide +kernel
theorem dX8_showRowChange_57 : decode cX8_showRowChange 57 = .ok (.invokevirtual 174, 3) := by decide +kernel
theorem dX8_showRowChange_60 : decode cX8_showRowChange 60 = .ok (.isub, 1) := by decide +kernel
theorem dX8_showRowChange_61 : decode cX8_showRowChange 61 = .ok (.i2l, 1) := by decide +kernel
theorem dX8_showRowChange_62 : decode cX8_showRowChange 62 = .ok (.lstore 10, 2) := by decide +kernel
theorem dX8_showRowChange_64 : decode cX8_showRowChange 64 = .ok (.iload_n 3, 1) := by decide +kernel
theorem dX8_showRowChange_65 : decode cX8_showRowChange 65 = .ok (.tableswitch 162 0 6 #[43, 162, 162, 65, 162, 92, 144], 43) := by decide +kernel
theorem dX8_showRowChange_227 : decode cX8_showRowChange 227 = .ok (.return_, 1) := by decide +kernel
theorem dX8_showRowChange_108 : decode cX8_showRowChange 108 = .ok (.aload_n 0, 1) := by decide +kernel
theorem dX8_showRowChange_109 : decode cX8_showRowChange 109 = .ok (.lload 10, 2) := by decide +kernel
theorem dX8_showRowChange_111 : decode cX8_showRowChange 111 = .ok (.lneg, 1) := by decide +kernel
theorem dX8_showRowChange_112 : decode cX8_showRowChange 112 = .ok (.lload 8, 2) := by decide +kernel
theorem dX8_showRowChange_114 : decode cX8_showRowChange 114 = .ok (.lmul, 1) := by decide +kernel
theorem dX8_showRowChange_115 : decode cX8_showRowChange 115 = .ok (.lconst 1, 1) := by decide +kernel
theorem dX8_showRowChange_116 : decode cX8_showRowChange 116 = .ok (.lsub, 1) := by decide +kernel
theorem dX8_showRowChange_117 : decode cX8_showRowChange 117 = .ok (.lload 10, 2) := by decide +kernel
theorem dX8_showRowChange_119 : decode cX8_showRowChange 119 = .ok (.lload 8, 2) := by decide +kernel
theorem dX8_showRowChange_121 : decode cX8_showRowChange 121 = .ok (.lmul, 1) := by decide +kernel
theorem dX8_showRowChange_122 : decode cX8_showRowChange 122 = .ok (.lconst 1, 1) := by decide +kernel
theorem dX8_showRowChange_123 : decode cX8_showRowChange 123 = .ok (.ladd, 1) := by decide +kernel
theorem dX8_showRowChange_124 : decode cX8_showRowChange 124 = .ok (.invokevirtual 116, 3) := by decide +kernel
theorem dX8_showRowChange_127 : decode cX8_showRowChange 127 = .ok (.goto 100, 3) := by decide +kernel
theorem dX8_showRowChange_130 : decode cX8_showRowChange 130 = .ok (.aload_n 0, 1) := by decide +kernel
theorem dX8_showRowChange_131 : decode cX8_showRowChange 131 = .ok (.dup, 1) := by decide +kernel
theorem dX8_showRowChange_132 : decode cX8_showRowChange 132 = .ok (.getfield 18, 3) := by decide +kernel
theorem dX8_showRowChange_135 : decode cX8_showRowChange 135 = .ok (.lload 6, 2) := by decide +kernel
theorem dX8_showRowChange_137 : decode cX8_showRowChange 137 = .ok (.aload_n 0, 1) := by decide +kernel
theorem dX8_showRowChange_138 : decode cX8_showRowChange 138 = .ok (.getfield 40, 3) := by decide +kernel
theorem dX8_showRowChange_141 : decode cX8_showRowChange 141 = .ok (.iload 4, 2) := by decide +kernel
theorem dX8_showRowChange_143 : decode cX8_showRowChange 143 = .ok (.invokevirtual 98, 3) := by decide +kernel
theorem dX8_showRowChange_146 : decode cX8_showRowChange 146 = .ok (.iconst 1, 1) := by decide +kernel
theorem dX8_showRowChange_147 : decode cX8_showRowChange 147 = .ok (.isub, 1) := by decide +kernel
theorem dX8_showRowChange_148 : decode cX8_showRowChange 148 = .ok (.i2l, 1) := by decide +kernel
theorem dX8_showRowChange_149 : decode cX8_showRowChange 149 = .ok (.lmul, 1) := by decide +kernel
theorem dX8_showRowChange_150 : decode cX8_showRowChange 150 = .ok (.lsub, 1) := by decide +kernel
theorem dX8_showRowChange_151 : decode cX8_showRowChange 151 = .ok (.putfield 18, 3) := by decide +kernel
theorem dX8_showRowChange_154 : decode cX8_showRowChange 154 = .ok (.goto 73, 3) := by decide +kernel
theorem dX8_showRowChange_157 : decode cX8_showRowChange 157 = .ok (.lload 10, 2) := by decide +kernel
theorem dX8_showRowChange_159 : decode cX8_showRowChange 159 = .ok (.lconst 0, 1) := by decide +kernel
theorem dX8_showRowChange_160 : decode cX8_showRowChange 160 = .ok (.lcmp, 1) := by decide +kernel
theorem dX8_showRowChange_161 : decode cX8_showRowChange 161 = .ok (.ifCond .le 66, 3) := by decide +kernel
theorem dX8_showRowChange_164 : decode cX8_showRowChange 164 = .ok (.aload_n 0, 1) := by decide +kernel
theorem dX8_showRowChange_203 : decode cX8_showRowChange 203 = .ok (.invokevirtual 116, 3) := by decide +kernel
theorem dX8_showRowChange_206 : decode cX8_showRowChange 206 = .ok (.goto 21, 3) := by decide +kernel
theorem dX8_showRowChange_185 : decode cX8_showRowChange 185 = .ok (.iload 5, 2) := by decide +kernel
theorem dX8_showRowChange_187 : decode cX8_showRowChange 187 = .ok (.ifCond .eq 15, 3) := by decide +kernel
theorem dX8_showRowChange_202 : decode cX8_showRowChange 202 = .ok (.lconst 0, 1) := by decide +kernel
theorem dX8_showRowChange_190 : decode cX8_showRowChange 190 = .ok (.lload 10, 2) := by decide +kernel
theorem dX8_showRowChange_192 : decode cX8_showRowChange 192 = .ok (.lneg, 1) := by decide +kernel
theorem dX8_showRowChange_193 : decode cX8_showRowChange 193 = .ok (.aload_n 2, 1) := by decide +kernel
theorem dX8_showRowChange_194 : decode cX8_showRowChange 194 = .ok (.getfield 172, 3) := by decide +kernel
theorem dX8_showRowChange_197 : decode cX8_showRowChange 197 = .ok (.i2l, 1) := by decide +kernel
theorem dX8_showRowChange_198 : decode cX8_showRowChange 198 = .ok (.lmul, 1) := by decide +kernel
theorem dX8_showRowChange_199 : decode cX8_showRowChange 199 = .ok (.goto 4, 3) := by decide +kernel
theorem dX8_showRowChange_165 : decode cX8_showRowChange 165 = .ok (.iload 5, 2) := by decide +kernel
theorem dX8_showRowChange_167 : decode cX8_showRowChange 167 = .ok (.ifCond .eq 15, 3) := by decide +kernel
theorem dX8_showRowChange_182 : decode cX8_showRowChange 182 = .ok (.lload 8, 2) := by decide +kernel
theorem dX8_showRowChange_184 : decode cX8_showRowChange 184 = .ok (.lneg, 1) := by decide +kernel
theorem dX8_showRowChange_170 : decode cX8_showRowChange 170 = .ok (.lload 10, 2) := by decide +kernel
theorem dX8_showRowChange_172 : decode cX8_showRowChange 172 = .ok (.lneg, 1) := by decide +kernel
theorem dX8_showRowChange_173 : decode cX8_showRowChange 173 = .ok (.aload_n 2, 1) := by decide +kernel
theorem dX8_showRowChange_174 : decode cX8_showRowChange 174 = .ok (.getfield 170, 3) := by decide +kernel
theorem dX8_showRowChange_177 : decode cX8_showRowChange 177 = .ok (.i2l, 1) := by decide +kernel
theorem dX8_showRowChange_178 : decode cX8_showRowChange 178 = .ok (.lmul, 1) := by decide +kernel
theorem dX8_showRowChange_179 : decode cX8_showRowChange 179 = .ok (.goto 6, 3) := by decide +kernel
theorem dX8_showRowChange_209 : decode cX8_showRowChange 209 = .ok (.aload_n 0, 1) := by decide +kernel
theorem dX8_showRowChange_210 : decode cX8_showRowChange 210 = .ok (.lload 6, 2) := by decide +kernel
theorem dX8_showRowChange_212 : decode cX8_showRowChange 212 = .ok (.lneg, 1) := by decide +kernel
theorem dX8_showRowChange_213 : decode cX8_showRowChange 213 = .ok (.lload 8, 2) := by decide +kernel
theorem dX8_showRowChange_215 : decode cX8_showRowChange 215 = .ok (.lmul, 1) := by decide +kernel
theorem dX8_showRowChange_216 : decode cX8_showRowChange 216 = .ok (.lload 6, 2) := by decide +kernel
theorem dX8_showRowChange_218 : decode cX8_showRowChange 218 = .ok (.lload 8, 2) := by decide +kernel
theorem dX8_showRowChange_220 : decode cX8_showRowChange 220 = .ok (.lmul, 1) := by decide +kernel
theorem dX8_showRowChange_221 : decode cX8_showRowChange 221 = .ok (.invokevirtual 116, 3) := by decide +kernel
theorem dX8_showRowChange_224 : decode cX8_showRowChange 224 = .ok (.goto 3, 3) := by decide +kernel
theorem dX8_showRowChange_14 : decode cX8_showRowChange 14 = .ok (.iload 5, 2) := by decide +kernel
theorem dX8_showRowChange_16 : decode cX8_showRowChange 16 = .ok (.ifCond .eq 11, 3) := by decide +kernel
theorem dX8_showRowChange_27 : decode cX8_showRowChange 27 = .ok (.lconst 1, 1) := by decide +kernel
theorem dX8_showRowChange_19 : decode cX8_showRowChange 19 = .ok (.aload_n 2, 1) := by decide +kernel
theorem dX8_showRowChange_20 : decode cX8_showRowChange 20 = .ok (.getfield 165, 3) := by decide +kernel
theorem dX8_showRowChange_23 : decode cX8_showRowChange 23 = .ok (.i2l, 1) := by decide +kernel
theorem dX8_showRowChange_24 : decode cX8_showRowChange 24 = .ok (.goto 4, 3) := by decide +kernel
theorem dX8_showRowChange_0 : decode cX8_showRowChange 0 = .ok (.aload_n 1, 1) := by decide +kernel
theorem dX8_showRowChange_1 : decode cX8_showRowChange 1 = .ok (.getfield 75, 3) := by decide +kernel
theorem dX8_showRowChange_4 : decode cX8_showRowChange 4 = .ok (.ifCond .ne 7, 3) := by decide +kernel
theorem dX8_showRowChange_11 : decode cX8_showRowChange 11 = .ok (.iconst 0, 1) := by decide +kernel
theorem dX8_showRowChange_7 : decode cX8_showRowChange 7 = .ok (.iconst 1, 1) := by decide +kernel
theorem dX8_showRowChange_8 : decode cX8_showRowChange 8 = .ok (.goto 4, 3) := by decide +kernel
theorem dX8_show_0 : decode cX8_show 0 = .ok (.iload_n 1, 1) := by decide +kernel
theorem dX8_show_1 : decode cX8_show 1 = .ok (.istore_n 2, 1) := by decide +kernel
theorem dX8_show_2 : decode cX8_show 2 = .ok (.iload_n 2, 1) := by decide +kernel
theorem dX8_show_3 : decode cX8_show 3 = .ok (.aload_n 0, 1) := by decide +kernel
theorem dX8_show_4 : decode cX8_show 4 = .ok (.getfield 36, 3) := by decide +kernel
theorem dX8_show_7 : decode cX8_show 7 = .ok (.getfield 63, 3) := by decide +kernel
theorem dX8_show_10 : decode cX8_show 10 = .ok (.if_icmp .ge 153, 3) := by decide +kernel
theorem dX8_show_163 : decode cX8_show 163 = .ok (.iconst (-1), 1) := by decide +kernel
theorem dX8_show_164 : decode cX8_show 164 = .ok (.ireturn, 1) := by decide +kernel
theorem dX8_show_13 : decode cX8_show 13 = .ok (.aload_n 0, 1) := by decide +kernel
theorem dX8_show_14 : decode cX8_show 14 = .ok (.getfield 36, 3) := by decide +kernel
theorem dX8_show_17 : decode cX8_show 17 = .ok (.getfield 68, 3) := by decide +kernel
theorem dX8_show_20 : decode cX8_show 20 = .ok (.iload_n 2, 1) := by decide +kernel
theorem dX8_show_21 : decode cX8_show 21 = .ok (.aaload, 1) := by decide +kernel
theorem dX8_show_22 : decode cX8_show 22 = .ok (.astore_n 3, 1) := by decide +kernel
theorem dX8_show_23 : decode cX8_show 23 = .ok (.aload_n 0, 1) := by decide +kernel
theorem dX8_show_24 : decode cX8_show 24 = .ok (.getfield 40, 3) := by decide +kernel
theorem dX8_show_27 : decode cX8_show 27 = .ok (.iload_n 2, 1) := by decide +kernel
theorem dX8_show_28 : decode cX8_show 28 = .ok (.invokevirtual 72, 3) := by decide +kernel
theorem dX8_show_31 : decode cX8_show 31 = .ok (.istore 4, 2) := by decide +kernel
theorem dX8_show_61 : decode cX8_show 61 = .ok (.aload_n 0, 1) := by decide +kernel
theorem dX8_show_62 : decode cX8_show 62 = .ok (.lconst 0, 1) := by decide +kernel
theorem dX8_show_63 : decode cX8_show 63 = .ok (.putfield 18, 3) := by decide +kernel
theorem dX8_show_66 : decode cX8_show 66 = .ok (.aload_n 0, 1) := by decide +kernel
theorem dX8_show_67 : decode cX8_show 67 = .ok (.lconst 0, 1) := by decide +kernel
theorem dX8_show_68 : decode cX8_show 68 = .ok (.putfield 22, 3) := by decide +kernel
theorem dX8_show_98 : decode cX8_show 98 = .ok (.aload_n 0, 1) := by decide +kernel
theorem dX8_show_99 : decode cX8_show 99 = .ok (.aload_n 3, 1) := by decide +kernel
theorem dX8_show_100 : decode cX8_show 100 = .ok (.iload 4, 2) := by decide +kernel
theorem dX8_show_102 : decode cX8_show 102 = .ok (.aload_n 0, 1) := by decide +kernel
theorem dX8_show_103 : decode cX8_show 103 = .ok (.getfield 40, 3) := by decide +kernel
theorem dX8_show_106 : decode cX8_show 106 = .ok (.iload_n 2, 1) := by decide +kernel
theorem dX8_show_107 : decode cX8_show 107 = .ok (.invokevirtual 98, 3) := by decide +kernel
theorem dX8_show_110 : decode cX8_show 110 = .ok (.invokevirtual 101, 3) := by decide +kernel
theorem dX8_show_113 : decode cX8_show 113 = .ok (.aload_n 0, 1) := by decide +kernel
theorem dX8_show_114 : decode cX8_show 114 = .ok (.getfield 18, 3) := by decide +kernel
theorem dX8_show_117 : decode cX8_show 117 = .ok (.ldc2_w 105, 3) := by decide +kernel
theorem dX8_show_120 : decode cX8_show 120 = .ok (.lcmp, 1) := by decide +kernel
theorem dX8_show_121 : decode cX8_show 121 = .ok (.ifCond .lt 14, 3) := by decide +kernel
theorem dX8_show_135 : decode cX8_show 135 = .ok (.iload_n 2, 1) := by decide +kernel
theorem dX8_show_136 : decode cX8_show 136 = .ok (.ireturn, 1) := by decide +kernel
theorem dX8_show_124 : decode cX8_show 124 = .ok (.aload_n 0, 1) := by decide +kernel
theorem dX8_show_125 : decode cX8_show 125 = .ok (.getfield 22, 3) := by decide +kernel
theorem dX8_show_128 : decode cX8_show 128 = .ok (.ldc2_w 107, 3) := by decide +kernel
theorem dX8_show_131 : decode cX8_show 131 = .ok (.lcmp, 1) := by decide +kernel
theorem dX8_show_132 : decode cX8_show 132 = .ok (.ifCond .le 5, 3) := by decide +kernel
theorem dX8_show_137 : decode cX8_show 137 = .ok (.aload_n 0, 1) := by decide +kernel
theorem dX8_show_138 : decode cX8_show 138 = .ok (.getfield 9, 3) := by decide +kernel
theorem dX8_show_141 : decode cX8_show 141 = .ok (.iload_n 2, 1) := by decide +kernel
theorem dX8_show_142 : decode cX8_show 142 = .ok (.aload_n 0, 1) := by decide +kernel
theorem dX8_show_143 : decode cX8_show 143 = .ok (.getfield 18, 3) := by decide +kernel
theorem dX8_show_146 : decode cX8_show 146 = .ok (.lastore, 1) := by decide +kernel
theorem dX8_show_147 : decode cX8_show 147 = .ok (.aload_n 0, 1) := by decide +kernel
theorem dX8_show_148 : decode cX8_show 148 = .ok (.getfield 15, 3) := by decide +kernel
theorem dX8_show_151 : decode cX8_show 151 = .ok (.iload_n 2, 1) := by decide +kernel
theorem dX8_show_152 : decode cX8_show 152 = .ok (.aload_n 0, 1) := by decide +kernel
theorem dX8_show_153 : decode cX8_show 153 = .ok (.getfield 22, 3) := by decide +kernel
theorem dX8_show_156 : decode cX8_show 156 = .ok (.lastore, 1) := by decide +kernel
theorem dX8_show_157 : decode cX8_show 157 = .ok (.iinc 2 1, 3) := by decide +kernel
theorem dX8_show_160 : decode cX8_show 160 = .ok (.goto (-158), 3) := by decide +kernel
theorem dX8_show_71 : decode cX8_show 71 = .ok (.aload_n 3, 1) := by decide +kernel
theorem dX8_show_72 : decode cX8_show 72 = .ok (.getfield 86, 3) := by decide +kernel
theorem dX8_show_75 : decode cX8_show 75 = .ok (.ifnonnull 11, 3) := by decide +kernel
theorem dX8_show_78 : decode cX8_show 78 = .ok (.aload_n 0, 1) := by decide +kernel
theorem dX8_show_79 : decode cX8_show 79 = .ok (.aload_n 3, 1) := by decide +kernel
theorem dX8_show_80 : decode cX8_show 80 = .ok (.invokevirtual 90, 3) := by decide +kernel
theorem dX8_show_83 : decode cX8_show 83 = .ok (.goto 15, 3) := by decide +kernel
theorem dX8_show_86 : decode cX8_show 86 = .ok (.aload_n 0, 1) := by decide +kernel
theorem dX8_show_87 : decode cX8_show 87 = .ok (.aload_n 3, 1) := by decide +kernel
theorem dX8_show_88 : decode cX8_show 88 = .ok (.aload_n 3, 1) := by decide +kernel
theorem dX8_show_89 : decode cX8_show 89 = .ok (.getfield 86, 3) := by decide +kernel
theorem dX8_show_92 : decode cX8_show 92 = .ok (.iload 4, 2) := by decide +kernel
theorem dX8_show_94 : decode cX8_show 94 = .ok (.iload_n 2, 1) := by decide +kernel
theorem dX8_show_95 : decode cX8_show 95 = .ok (.invokevirtual 94, 3) := by decide +kernel
theorem dX8_show_33 : decode cX8_show 33 = .ok (.aload_n 3, 1) := by decide +kernel
theorem dX8_show_34 : decode cX8_show 34 = .ok (.getfield 75, 3) := by decide +kernel
theorem dX8_show_37 : decode cX8_show 37 = .ok (.bipush 6, 2) := by decide +kernel
theorem dX8_show_39 : decode cX8_show 39 = .ok (.if_icmp .ne 22, 3) := by decide +kernel
theorem dX8_show_42 : decode cX8_show 42 = .ok (.iload 4, 2) := by decide +kernel
theorem dX8_show_44 : decode cX8_show 44 = .ok (.iconst 4, 1) := by decide +kernel
theorem dX8_show_45 : decode cX8_show 45 = .ok (.if_icmp .eq 16, 3) := by decide +kernel
theorem dX8_show_48 : decode cX8_show 48 = .ok (.aload_n 0, 1) := by decide +kernel
theorem dX8_show_49 : decode cX8_show 49 = .ok (.aload_n 3, 1) := by decide +kernel
theorem dX8_show_50 : decode cX8_show 50 = .ok (.getfield 80, 3) := by decide +kernel
theorem dX8_show_53 : decode cX8_show 53 = .ok (.invokevirtual 83, 3) := by decide +kernel
theorem dX8_show_56 : decode cX8_show 56 = .ok (.ifCond .eq 5, 3) := by decide +kernel
theorem dX8_show_59 : decode cX8_show 59 = .ok (.iload_n 2, 1) := by decide +kernel
theorem dX8_show_60 : decode cX8_show 60 = .ok (.ireturn, 1) := by decide +kernel
theorem dX8_restart_0 : decode cX8_restart 0 = .ok (.aload_n 0, 1) := by decide +kernel
theorem dX8_restart_1 : decode cX8_restart 1 = .ok (.getfield 40, 3) := by decide +kernel
theorem dX8_restart_4 : decode cX8_restart 4 = .ok (.iconst 0, 1) := by decide +kernel
theorem dX8_restart_5 : decode cX8_restart 5 = .ok (.invokevirtual 44, 3) := by decide +kernel
theorem dX8_restart_8 : decode cX8_restart 8 = .ok (.pop, 1) := by decide +kernel
theorem dX8_restart_9 : decode cX8_restart 9 = .ok (.aload_n 0, 1) := by decide +kernel
theorem dX8_restart_10 : decode cX8_restart 10 = .ok (.iconst 0, 1) := by decide +kernel
theorem dX8_restart_11 : decode cX8_restart 11 = .ok (.putfield 25, 3) := by decide +kernel
theorem dX8_restart_14 : decode cX8_restart 14 = .ok (.return_, 1) := by decide +kernel
theorem dX8_next_0 : decode cX8_next 0 = .ok (.aload_n 0, 1) := by decide +kernel
theorem dX8_next_1 : decode cX8_next 1 = .ok (.bipush 12, 2) := by decide +kernel
theorem dX8_next_3 : decode cX8_next 3 = .ok (.putfield 33, 3) := by decide +kernel
theorem dX8_next_6 : decode cX8_next 6 = .ok (.iconst 0, 1) := by decide +kernel
theorem dX8_next_7 : decode cX8_next 7 = .ok (.istore_n 1, 1) := by decide +kernel
theorem dX8_next_8 : decode cX8_next 8 = .ok (.iload_n 1, 1) := by decide +kernel
theorem dX8_next_9 : decode cX8_next 9 = .ok (.sipush 4096, 3) := by decide +kernel
theorem dX8_next_12 : decode cX8_next 12 = .ok (.if_icmp .ge 91, 3) := by decide +kernel
theorem dX8_next_103 : decode cX8_next 103 = .ok (.iconst 0, 1) := by decide +kernel
theorem dX8_next_104 : decode cX8_next 104 = .ok (.ireturn, 1) := by decide +kernel
theorem dX8_next_37 : decode cX8_next 37 = .ok (.istore_n 2, 1) := by decide +kernel
theorem dX8_next_38 : decode cX8_next 38 = .ok (.aload_n 0, 1) := by decide +kernel
theorem dX8_next_39 : decode cX8_next 39 = .ok (.iconst 1, 1) := by decide +kernel
theorem dX8_next_40 : decode cX8_next 40 = .ok (.putfield 25, 3) := by decide +kernel
theorem dX8_next_43 : decode cX8_next 43 = .ok (.iload_n 2, 1) := by decide +kernel
theorem dX8_next_44 : decode cX8_next 44 = .ok (.iconst (-1), 1) := by decide +kernel
theorem dX8_next_45 : decode cX8_next 45 = .ok (.if_icmp .ne 5, 3) := by decide +kernel
theorem dX8_next_50 : decode cX8_next 50 = .ok (.aload_n 0, 1) := by decide +kernel
theorem dX8_next_51 : decode cX8_next 51 = .ok (.aload_n 0, 1) := by decide +kernel
theorem dX8_next_52 : decode cX8_next 52 = .ok (.getfield 33, 3) := by decide +kernel
theorem dX8_next_55 : decode cX8_next 55 = .ok (.iload_n 2, 1) := by decide +kernel
theorem dX8_next_56 : decode cX8_next 56 = .ok (.invokestatic 54, 3) := by decide +kernel
theorem dX8_next_59 : decode cX8_next 59 = .ok (.putfield 33, 3) := by decide +kernel
theorem dX8_next_62 : decode cX8_next 62 = .ok (.aload_n 0, 1) := by decide +kernel
theorem dX8_next_63 : decode cX8_next 63 = .ok (.iload_n 2, 1) := by decide +kernel
theorem dX8_next_64 : decode cX8_next 64 = .ok (.invokevirtual 60, 3) := by decide +kernel
theorem dX8_next_67 : decode cX8_next 67 = .ok (.istore_n 3, 1) := by decide +kernel
theorem dX8_next_68 : decode cX8_next 68 = .ok (.aload_n 0, 1) := by decide +kernel
theorem dX8_next_87 : decode cX8_next 87 = .ok (.putfield 29, 3) := by decide +kernel
theorem dX8_next_90 : decode cX8_next 90 = .ok (.iload_n 3, 1) := by decide +kernel
theorem dX8_next_91 : decode cX8_next 91 = .ok (.iconst (-1), 1) := by decide +kernel
theorem dX8_next_92 : decode cX8_next 92 = .ok (.if_icmp .ne 5, 3) := by decide +kernel
theorem dX8_next_97 : decode cX8_next 97 = .ok (.iinc 1 1, 3) := by decide +kernel
theorem dX8_next_100 : decode cX8_next 100 = .ok (.goto (-92), 3) := by decide +kernel
theorem dX8_next_95 : decode cX8_next 95 = .ok (.iconst 1, 1) := by decide +kernel
theorem dX8_next_96 : decode cX8_next 96 = .ok (.ireturn, 1) := by decide +kernel
theorem dX8_next_69 : decode cX8_next 69 = .ok (.iload_n 3, 1) := by decide +kernel
theorem dX8_next_70 : decode cX8_next 70 = .ok (.iconst (-1), 1) := by decide +kernel
theorem dX8_next_71 : decode cX8_next 71 = .ok (.if_icmp .ne 15, 3) := by decide +kernel
theorem dX8_next_86 : decode cX8_next 86 = .ok (.iload_n 3, 1) := by decide +kernel
theorem dX8_next_74 : decode cX8_next 74 = .ok (.aload_n 0, 1) := by decide +kernel
theorem dX8_next_75 : decode cX8_next 75 = .ok (.getfield 36, 3) := by decide +kernel
theorem dX8_next_78 : decode cX8_next 78 = .ok (.getfield 63, 3) := by decide +kernel
theorem dX8_next_81 : decode cX8_next 81 = .ok (.iconst 1, 1) := by decide +kernel
theorem dX8_next_82 : decode cX8_next 82 = .ok (.isub, 1) := by decide +kernel
theorem dX8_next_83 : decode cX8_next 83 = .ok (.goto 4, 3) := by decide +kernel
theorem dX8_next_48 : decode cX8_next 48 = .ok (.iconst 0, 1) := by decide +kernel
theorem dX8_next_49 : decode cX8_next 49 = .ok (.ireturn, 1) := by decide +kernel
theorem dX8_next_15 : decode cX8_next 15 = .ok (.aload_n 0, 1) := by decide +kernel
theorem dX8_next_16 : decode cX8_next 16 = .ok (.getfield 25, 3) := by decide +kernel
theorem dX8_next_19 : decode cX8_next 19 = .ok (.ifCond .eq 17, 3) := by decide +kernel
theorem dX8_next_36 : decode cX8_next 36 = .ok (.iconst 0, 1) := by decide +kernel
theorem dX8_next_22 : decode cX8_next 22 = .ok (.aload_n 0, 1) := by decide +kernel
theorem dX8_next_23 : decode cX8_next 23 = .ok (.getfield 40, 3) := by decide +kernel
theorem dX8_next_26 : decode cX8_next 26 = .ok (.aload_n 0, 1) := by decide +kernel
theorem dX8_next_27 : decode cX8_next 27 = .ok (.getfield 29, 3) := by decide +kernel
theorem dX8_next_30 : decode cX8_next 30 = .ok (.invokevirtual 50, 3) := by decide +kernel
theorem dX8_next_33 : decode cX8_next 33 = .ok (.goto 4, 3) := by decide +kernel
theorem rx_5b0cde361b : Int32.ofInt 4096 = 4096 := by decide
theorem rx_5cf37c826d : (4096 : Int32).toInt = 4096 := by decide
theorem rx_1067990115 : (0 : Int) ≤ (12 : Int32).toInt ∧ (12 : Int32).toInt ≤ 12 := by decide
def ow_k_showChange : List Cond := [.fieldLink RX8 18 "NearEnough$Shown" "least" "J", .fieldLink RX8 9 "NearEnough$Shown" "low" "[J", .fieldLink RX8 15 "NearEnough$Shown" "high" "[J", .fieldLink RX8 80 "NearEnough$Step" "a" "I", .fieldLink RX8 113 "NearEnough$Step" "b" "I", .fieldLink RX8 132 "NearEnough$Step" "high" "J", .fieldLink RX8 130 "NearEnough$Step" "low" "J"]
def vs_k_showChange : List Cond := .code yX8_showChange cX8_showChange 5 none :: (ow_k_showChange ++ (([.methodLink RX8 116 yX8_set, .instanceMethod yX8_set, .selects RX8 yX8_set yX8_set, .initialized RX8] : List Cond) ++ (vs_k_set ++ (([.methodLink RX8 158 yX8_widenByTaking, .instanceMethod yX8_widenByTaking, .selects RX8 yX8_widenByTaking yX8_widenByTaking, .initialized RX8] : List Cond) ++ (vs_k_widen ++ (([.methodLink RX8 161 yX9_middle, .instanceMethod yX9_middle, .selects RX9 yX9_middle yX9_middle, .initialized RX9] : List Cond) ++ (vs_k_middle ++ (wsX80 ++ (wsX90)))))))))
theorem vg_k_showChange : vs_k_showChange.all goodWord = true := by decide +kernel
theorem dd_k_showChange : yX8_showChange.cls = RX8 ∧ yX8_showChange.cls ≠ "java/lang/invoke/MethodHandle" ∧ yX8_showChange.cls ≠ "java/lang/invoke/VarHandle" ∧ (parseMethodDescriptor yX8_showChange.desc).map (fun d => d.parameters.length) = some 3 := by decide +kernel
def rm_k_showChange : Room := { frames := 2, cells := 0, slots := 0, locals := 48 }
theorem gd_k_showChange_116_k_set : GoodIn vs_k_showChange (wsV RX8 116 RX8 yX8_set vs_k_set) := goodIn_app (goodIn_sub (fun w h => (List.mem_cons_of_mem _ (List.mem_append_right _ (List.mem_append_left _ h)))) (by decide +kernel)) (goodIn_sub (fun w h => (List.mem_cons_of_mem _ (List.mem_append_right _ (List.mem_append_right _ (List.mem_append_left _ h))))) vg_k_set)
theorem gd_k_showChange_158_k_widen : GoodIn vs_k_showChange (wsV RX8 158 RX8 yX8_widenByTaking vs_k_widen) := goodIn_app (goodIn_sub (fun w h => (List.mem_cons_of_mem _ (List.mem_append_right _ (List.mem_append_right _ (List.mem_append_right _ (List.mem_append_left _ h)))))) (by decide +kernel)) (goodIn_sub (fun w h => (List.mem_cons_of_mem _ (List.mem_append_right _ (List.mem_append_right _ (List.mem_append_right _ (List.mem_append_right _ (List.mem_append_left _ h))))))) vg_k_widen)
theorem gd_k_showChange_161_k_middle : GoodIn vs_k_showChange (wsV RX8 161 RX9 yX9_middle vs_k_middle) := goodIn_app (goodIn_sub (fun w h => (List.mem_cons_of_mem _ (List.mem_append_right _ (List.mem_append_right _ (List.mem_append_right _ (List.mem_append_right _ (List.mem_append_right _ (List.mem_append_left _ h)))))))) (by decide +kernel)) (goodIn_sub (fun w h => (List.mem_cons_of_mem _ (List.mem_append_right _ (List.mem_append_right _ (List.mem_append_right _ (List.mem_append_right _ (List.mem_append_right _ (List.mem_append_right _ (List.mem_append_left _ h))))))))) vg_k_middle)
set_option maxHeartbeats 4000000 in
set_option maxRecDepth 100000 in
theorem k_showChange (l : Launch) (dC : Nat → ClassId) (dI : Nat → Nat → Nat) (κ : CE) (sz : Nat) (σ : MS) (a : Nat) (t_a : TT) (g_a : IsStep κ a t_a) (x : Int32) (y : Int32) (hk : PInv κ) (hI : CInv σ)  : Met l yX8_showChange vs_k_showChange rm_k_showChange (va_Pc [.ref (kA κ 21), .ref a, .int x, .int y] (wSy dC dI (cW κ σ) (cT κ) sz)) (va_Qv (fun (τ : MS) => CInv τ ∧ True) (fun (τ : MS) => wEn dC dI (va_A (cW κ σ) sz) (cW κ τ) []) (va_A (cW κ σ) sz)) 0 0 (va_A (cW κ σ) sz) := by
  refine Met.ofW (cc := cX8_showChange) (maxL := 5) (ret := none) (by decide +kernel) rfl ?_
  intro p e s m args below meth c s₁ B hml hv
  obtain ⟨rfl, hsz, hP, hK, hD0, hE⟩ := hv
  have hx := B.exec
  have hb := B.bytes
  have hr := B.returns
  have hts := atoms_spec (ws := vs_k_showChange) B.pre
  have hown : s.vm.findClass RX8 = some m.cls := findClass_of_methodNamed B.named
  have hlocks := B.notSynchronized
  subst hsz
  have hD := hD0.self (sz := s.heap.size)
  generalize hAe : va_A (cW κ σ) s.heap.size = A at hD ⊢
  have hA : ∀ q : Nat, s.heap.size ≤ q → A q := fun q h => by rw [← hAe]; exact Or.inr h
  have hl := lv_entry ([.ref (kA κ 21), .ref a, .int x, .int y]) (n := 5) (Nat.le_of_ble_eq_true rfl)
  rw [lg_entry_eq]
  generalize (lg_sl ([.ref (kA κ 21), .ref a, .int x, .int y]) ++ List.replicate (5 - (lg_sl ([.ref (kA κ 21), .ref a, .int x, .int y])).length) Slot.unset).toArray = ls at hl ⊢
  have hl : lv_has ls 5 [(0, .ref (kA κ 21)), (1, .ref a), (2, .int x), (3, .int y)] := hl
  have ho := fun w (h : w ∈ ow_k_showChange) => hts w (List.mem_cons_of_mem _ (List.mem_append_left _ h))
  have hin8 : ∀ w ∈ u_ws RX8 TX8 9, w ∈ vs_k_showChange := fun w h => (List.mem_cons_of_mem _ (List.mem_append_right _ (List.mem_append_right _ (List.mem_append_right _ (List.mem_append_right _ (List.mem_append_right _ (List.mem_append_right _ (List.mem_append_right _ (List.mem_append_left _ h)))))))))
  have hin9 : ∀ w ∈ u_ws RX9 TX9 11, w ∈ vs_k_showChange := fun w h => (List.mem_cons_of_mem _ (List.mem_append_right _ (List.mem_append_right _ (List.mem_append_right _ (List.mem_append_right _ (List.mem_append_right _ (List.mem_append_right _ (List.mem_append_right _ (List.mem_append_right _ h)))))))))
  refine zQ (fun Q hQ => ?_)
  refine zH (A := A) (ws := (cW κ σ)) (fun H hP hS => ?_) hP
  have hk0 := hk.1
  have hk1 := hk.2.1
  have hk2 := hk.2.2.1
  refine lv_iload_n hx hb dX8_showChange_0 rfl (lv_at hl 2 rfl) ?_
  by_cases c_lo : x.toInt < 1
  · refine lv_tableOut (tgt := 133) hx hb dX8_showChange_1 (Or.inl c_lo) rfl ?_
    rw [hQ]
    exact W.vret hx hb hr (fun t ht hW => ⟨⟨σ, rfl, ⟨hI, trivial⟩, wEn_of hP (hK.sub [] rfl) hD ht hW⟩, hS.F ht⟩) hS.2.2 dX8_showChange_133
  · by_cases c_hi : 4 < x.toInt
    · refine lv_tableOut (tgt := 133) hx hb dX8_showChange_1 (Or.inr c_hi) rfl ?_
      rw [hQ]
      exact W.vret hx hb hr (fun t ht hW => ⟨⟨σ, rfl, ⟨hI, trivial⟩, wEn_of hP (hK.sub [] rfl) hD ht hW⟩, hS.F ht⟩) hS.2.2 dX8_showChange_133
    · rcases (show x.toInt = 1 ∨ x.toInt = 2 ∨ x.toInt = 3 ∨ x.toInt = 4 by omega) with t_sw | t_sw | t_sw | t_sw
      · refine lv_tableIn (tgt := 32) (off := 31) hx hb dX8_showChange_1 (by rw [t_sw]; decide) (by rw [t_sw]; decide) (by rw [t_sw]; decide) (by decide) ?_
        refine lv_aload_n hx hb dX8_showChange_32 rfl (lv_at hl 0 rfl) ?_
        refine lv_dup hx hb dX8_showChange_33 rfl ?_
        refine va_get (D := (dC, dI)) (ci := 8) (v := .long (σ.2.2.2 22)) (C := RX8) (T := TX8) (N := 9) hx hb hts hin8 hown hK hP 21 rfl rfl 4 (Nat.le_of_ble_eq_true rfl) (ho (.fieldLink RX8 18 "NearEnough$Shown" "least" "J") (List.mem_of_getElem? (i := 0) rfl)) (fun _ h9 => h9) rfl dX8_showChange_34 ?_
        refine lv_lconst (v := 1) hx hb dX8_showChange_37 (by decide) ?_
        refine lv_iload_n hx hb dX8_showChange_38 rfl (lv_at hl 3 rfl) ?_
        refine lv_lshl hx hb dX8_showChange_39 rfl ?_
        refine lv_topl (fun y1_ ey1_ => ?_)
        refine lv_lconst (v := 1) hx hb dX8_showChange_40 (by decide) ?_
        refine lv_lsub hx hb dX8_showChange_41 ?_
        refine lv_topl (fun y2_ ey2_ => ?_)
        refine lv_lsub hx hb dX8_showChange_42 ?_
        refine lv_topl (fun y3_ ey3_ => ?_)
        refine va_put (D := (dC, dI)) (ci := 8) (v := .long y3_) (ty := tyX8 4) (C := RX8) (T := TX8) (N := 9) hx hb hts hin8 tyX8 tyX8_ok nmX8 hown hK hP hD hS 21 rfl rfl 4 (Nat.le_of_ble_eq_true rfl) (ho (.fieldLink RX8 18 "NearEnough$Shown" "least" "J") (List.mem_of_getElem? (i := 0) rfl)) (fun _ h9 => h9) rfl (tyX8_ok 4 (Nat.le_of_ble_eq_true rfl)) rfl rfl (Nat.le_of_ble_eq_true rfl) dX8_showChange_43 (fun H locs hP hD hS => ?_)
        have hP : va_P (dC, dI) vwCl (cW κ (sL σ 22 y3_)) H := hP
        have hD : va_D A (cW κ (sL σ 22 y3_)) := hD
        refine lv_goto (tgt := 133) hx hb dX8_showChange_46 rfl ?_
        rw [hQ]
        exact W.vret hx hb hr (fun t ht hW => ⟨⟨(sL σ 22 y3_), rfl, ⟨(CInv.sL hI), trivial⟩, wEn_of hP (hK.sub [] rfl) hD ht hW⟩, hS.F ht⟩) hS.2.2 dX8_showChange_133
      · refine lv_tableIn (tgt := 49) (off := 48) hx hb dX8_showChange_1 (by rw [t_sw]; decide) (by rw [t_sw]; decide) (by rw [t_sw]; decide) (by decide) ?_
        have pt64_ : ∀ (s64_ : Int32) (H : Heap) (locs : List Loc) (ls : Array Slot), (0 ≤ s64_.toInt ∧ s64_.toInt < (pI κ 1).toInt) → va_P (dC, dI) vwCl (cW κ σ) H → va_D A (cW κ σ) → va_S A s.heap H locs → lv_has ls 5 [(0, .ref (kA κ 21)), (1, .ref a), (3, .int y)] → W p l e (headSpec vs_k_showChange rm_k_showChange).room s m #[Value.ref (kA κ 21), Value.ref a, Value.int x, Value.int y] below meth c H locs 0 0 Q (F0 m 64 ls [.int s64_]) := by
          intro s64_ H locs ls hf64_0_ hP hD hS hl
          refine lv_istore (lv' := [(4, .int s64_), (0, .ref (kA κ 21)), (1, .ref a), (3, .int y)]) hx hb dX8_showChange_64 hl (Nat.le_of_ble_eq_true rfl) rfl (fun ls hl => ?_)
          refine lv_aload_n hx hb dX8_showChange_66 rfl (lv_at hl 1 rfl) ?_
          refine lv_aload_n hx hb dX8_showChange_67 rfl (lv_at hl 1 rfl) ?_
          refine va_get (D := (dC, dI)) (ci := 8) (v := .ref (kA κ 22)) (C := RX8) (T := TX8) (N := 9) hx hb hts hin8 hown hK hP 21 rfl rfl 2 (Nat.le_of_ble_eq_true rfl) (ho (.fieldLink RX8 9 "NearEnough$Shown" "low" "[J") (List.mem_of_getElem? (i := 1) rfl)) (fun _ h9 => h9) rfl dX8_showChange_68 ?_
          refine lv_iload hx hb dX8_showChange_71 (lv_at hl 0 rfl) ?_
          have o1 : 0 ≤ s64_.toInt := by omega
          have o2 : s64_.toInt < ((12 : Nat) : Int) := by omega
          refine va_lald hx hb hK hP 22 17 rfl rfl (ti_inx o1 o2) dX8_showChange_73 ?_
          refine lv_topl (fun y4_ ey4_ => ?_)
          refine lv_aload_n hx hb dX8_showChange_74 rfl (lv_at hl 1 rfl) ?_
          refine va_get (D := (dC, dI)) (ci := 8) (v := .ref (kA κ 23)) (C := RX8) (T := TX8) (N := 9) hx hb hts hin8 hown hK hP 21 rfl rfl 3 (Nat.le_of_ble_eq_true rfl) (ho (.fieldLink RX8 15 "NearEnough$Shown" "high" "[J") (List.mem_of_getElem? (i := 2) rfl)) (fun _ h9 => h9) rfl dX8_showChange_75 ?_
          refine lv_iload hx hb dX8_showChange_78 (lv_at hl 0 rfl) ?_
          refine va_lald hx hb hK hP 23 18 rfl rfl (ti_inx o1 o2) dX8_showChange_80 ?_
          refine lv_topl (fun y5_ ey5_ => ?_)
          refine zy_v (va_runV (As := [.long y4_, .long y5_]) (rest := []) ⟨hx, hb, hml, hown, hts⟩ (k_set l dC dI κ H.size σ y4_ y5_ hk hI ) (cwV 2 hts gd_k_showChange_116_k_set rfl rfl rfl dd_k_set ⟨Nat.le_of_ble_eq_true rfl, Nat.le_of_ble_eq_true rfl⟩) (preVy hP hK hD hE (ci := 8) (q0 := 21) rfl rfl) rfl rfl hl.1 rfl (lv_room (Nat.le_of_ble_eq_true rfl)) dX8_showChange_81 ⟨Nat.le_of_ble_eq_true rfl, Nat.le_of_ble_eq_true rfl⟩) hD hS hA (fun τ7_ H locs hq hP hD hS => ?_)
          obtain ⟨hτ7_, q8_⟩ := hq
          refine W.widen (k := 0) (n := 0) (Nat.le_of_ble_eq_true rfl) (Nat.le_of_ble_eq_true rfl) ?_
          refine lv_aload_n hx hb dX8_showChange_84 rfl (lv_at hl 1 rfl) ?_
          refine lv_iload hx hb dX8_showChange_85 (lv_at hl 0 rfl) ?_
          have pt102_ : ∀ (s102_ : Int32) (H : Heap) (locs : List Loc) (ls : Array Slot), (0 ≤ s102_.toInt ∧ s102_.toInt < (pI κ 1).toInt) → va_P (dC, dI) vwCl (cW κ τ7_) H → va_D A (cW κ τ7_) → va_S A s.heap H locs → lv_has ls 5 [] → W p l e (headSpec vs_k_showChange rm_k_showChange).room s m #[Value.ref (kA κ 21), Value.ref a, Value.int x, Value.int y] below meth c H locs 0 0 Q (F0 m 102 ls [.int s102_, .int s64_, .ref (kA κ 21)]) := by
            intro s102_ H locs ls hf102_0_ hP hD hS hl
            have o3 : s64_.toInt < (pI κ 1).toInt := by omega
            have o4 : 0 ≤ s102_.toInt := by omega
            have o5 : s102_.toInt < (pI κ 1).toInt := by omega
            refine zy_v (va_runV (As := [.int s64_, .int s102_]) (rest := []) ⟨hx, hb, hml, hown, hts⟩ (k_widen l dC dI κ H.size τ7_ s64_ s102_ hk hτ7_ ⟨o1, o3⟩ ⟨o4, o5⟩) (cwV 2 hts gd_k_showChange_158_k_widen rfl rfl rfl dd_k_widen ⟨Nat.le_of_ble_eq_true rfl, Nat.le_of_ble_eq_true rfl⟩) (preVy hP hK hD hE (ci := 8) (q0 := 21) rfl rfl) rfl rfl hl.1 rfl (lv_room (Nat.le_of_ble_eq_true rfl)) dX8_showChange_102 ⟨Nat.le_of_ble_eq_true rfl, Nat.le_of_ble_eq_true rfl⟩) hD hS hA (fun τ10_ H locs hq hP hD hS => ?_)
            obtain ⟨hτ10_, q11_⟩ := hq
            refine W.widen (k := 0) (n := 0) (Nat.le_of_ble_eq_true rfl) (Nat.le_of_ble_eq_true rfl) ?_
            refine lv_goto (tgt := 133) hx hb dX8_showChange_105 rfl ?_
            rw [hQ]
            exact W.vret hx hb hr (fun t ht hW => ⟨⟨τ10_, rfl, ⟨hτ10_, trivial⟩, wEn_of hP (hK.sub [] rfl) hD ht hW⟩, hS.F ht⟩) hS.2.2 dX8_showChange_133
          refine lv_iload_n hx hb dX8_showChange_87 rfl (lv_at hl 3 rfl) ?_
          refine lv_if_ne (tgt := 98) hx hb dX8_showChange_88 rfl (fun c12_ => ?_) (fun c12_ => ?_)
          · have tc12_ := (show y.toInt ≠ 0 from ti_ne rfl rg_11 c12_)
            refine lv_aload_n hx hb dX8_showChange_98 rfl (lv_at hl 2 rfl) ?_
            have bb13_ := g_a.2.2.1 1 rx_cd17d5a19c rx_be9bb8ec2b
            obtain ⟨kp14_, hkp14_⟩ := cpl (κ := κ) (σ := τ7_) g_a.1 g_a.2.1
            refine va_get (D := (dC, dI)) (ci := 9) (v := .int (t_a.1 1)) (C := RX9) (T := TX9) (N := 11) hx hb hts hin9 hown hK hP kp14_ hkp14_ rfl 3 (Nat.le_of_ble_eq_true rfl) (ho (.fieldLink RX8 80 "NearEnough$Step" "a" "I") (List.mem_of_getElem? (i := 3) rfl)) (fun _ h9 => h9) rfl dX8_showChange_99 ?_
            have o6 : 0 ≤ ((t_a.1 1)).toInt := by omega
            have o7 : ((t_a.1 1)).toInt < (pI κ 1).toInt := by omega
            exact pt102_  (t_a.1 1) _ _ _ ⟨o6, o7⟩ hP hD hS (lv_sub hl [] rfl)
          · have tc12_ := (show y.toInt = 0 from ti_eq rfl rg_11 c12_)
            refine lv_aload_n hx hb dX8_showChange_91 rfl (lv_at hl 2 rfl) ?_
            have bb15_ := g_a.2.2.1 2 rx_c20517e8ed rx_16813831c6
            obtain ⟨kp16_, hkp16_⟩ := cpl (κ := κ) (σ := τ7_) g_a.1 g_a.2.1
            refine va_get (D := (dC, dI)) (ci := 9) (v := .int (t_a.1 2)) (C := RX9) (T := TX9) (N := 11) hx hb hts hin9 hown hK hP kp16_ hkp16_ rfl 4 (Nat.le_of_ble_eq_true rfl) (ho (.fieldLink RX8 113 "NearEnough$Step" "b" "I") (List.mem_of_getElem? (i := 4) rfl)) (fun _ h9 => h9) rfl dX8_showChange_92 ?_
            refine lv_goto (tgt := 102) hx hb dX8_showChange_95 rfl ?_
            have o8 : 0 ≤ ((t_a.1 2)).toInt := by omega
            have o9 : ((t_a.1 2)).toInt < (pI κ 1).toInt := by omega
            exact pt102_  (t_a.1 2) _ _ _ ⟨o8, o9⟩ hP hD hS (lv_sub hl [] rfl)
        refine lv_iload_n hx hb dX8_showChange_49 rfl (lv_at hl 3 rfl) ?_
        refine lv_if_ne (tgt := 60) hx hb dX8_showChange_50 rfl (fun c17_ => ?_) (fun c17_ => ?_)
        · have tc17_ := (show y.toInt ≠ 0 from ti_ne rfl rg_11 c17_)
          refine lv_aload_n hx hb dX8_showChange_60 rfl (lv_at hl 1 rfl) ?_
          have bb18_ := g_a.2.2.1 2 rx_c20517e8ed rx_16813831c6
          obtain ⟨kp19_, hkp19_⟩ := cpl (κ := κ) (σ := σ) g_a.1 g_a.2.1
          refine va_get (D := (dC, dI)) (ci := 9) (v := .int (t_a.1 2)) (C := RX9) (T := TX9) (N := 11) hx hb hts hin9 hown hK hP kp19_ hkp19_ rfl 4 (Nat.le_of_ble_eq_true rfl) (ho (.fieldLink RX8 113 "NearEnough$Step" "b" "I") (List.mem_of_getElem? (i := 4) rfl)) (fun _ h9 => h9) rfl dX8_showChange_61 ?_
          have o10 : 0 ≤ ((t_a.1 2)).toInt := by omega
          have o11 : ((t_a.1 2)).toInt < (pI κ 1).toInt := by omega
          exact pt64_  (t_a.1 2) _ _ _ ⟨o10, o11⟩ hP hD hS (lv_sub hl [0, 1, 3] rfl)
        · have tc17_ := (show y.toInt = 0 from ti_eq rfl rg_11 c17_)
          refine lv_aload_n hx hb dX8_showChange_53 rfl (lv_at hl 1 rfl) ?_
          have bb20_ := g_a.2.2.1 1 rx_cd17d5a19c rx_be9bb8ec2b
          obtain ⟨kp21_, hkp21_⟩ := cpl (κ := κ) (σ := σ) g_a.1 g_a.2.1
          refine va_get (D := (dC, dI)) (ci := 9) (v := .int (t_a.1 1)) (C := RX9) (T := TX9) (N := 11) hx hb hts hin9 hown hK hP kp21_ hkp21_ rfl 3 (Nat.le_of_ble_eq_true rfl) (ho (.fieldLink RX8 80 "NearEnough$Step" "a" "I") (List.mem_of_getElem? (i := 3) rfl)) (fun _ h9 => h9) rfl dX8_showChange_54 ?_
          refine lv_goto (tgt := 64) hx hb dX8_showChange_57 rfl ?_
          have o12 : 0 ≤ ((t_a.1 1)).toInt := by omega
          have o13 : ((t_a.1 1)).toInt < (pI κ 1).toInt := by omega
          exact pt64_  (t_a.1 1) _ _ _ ⟨o12, o13⟩ hP hD hS (lv_sub hl [0, 1, 3] rfl)
      · refine lv_tableIn (tgt := 133) (off := 132) hx hb dX8_showChange_1 (by rw [t_sw]; decide) (by rw [t_sw]; decide) (by rw [t_sw]; decide) (by decide) ?_
        rw [hQ]
        exact W.vret hx hb hr (fun t ht hW => ⟨⟨σ, rfl, ⟨hI, trivial⟩, wEn_of hP (hK.sub [] rfl) hD ht hW⟩, hS.F ht⟩) hS.2.2 dX8_showChange_133
      · refine lv_tableIn (tgt := 108) (off := 107) hx hb dX8_showChange_1 (by rw [t_sw]; decide) (by rw [t_sw]; decide) (by rw [t_sw]; decide) (by decide) ?_
        refine lv_aload_n hx hb dX8_showChange_108 rfl (lv_at hl 0 rfl) ?_
        refine lv_aload_n hx hb dX8_showChange_109 rfl (lv_at hl 1 rfl) ?_
        obtain ⟨kp23_, hkp23_⟩ := cpl (κ := κ) (σ := σ) g_a.1 g_a.2.1
        refine zy_l (va_runV (As := []) (rest := [.ref (kA κ 21)]) ⟨hx, hb, hml, hown, hts⟩ (k_middle l dC dI κ H.size σ a t_a g_a hk hI ) (cwV 0 hts gd_k_showChange_161_k_middle rfl rfl rfl dd_k_middle ⟨Nat.le_of_ble_eq_true rfl, Nat.le_of_ble_eq_true rfl⟩) (preVy hP hK hD hE (ci := 9) (q0 := kp23_) rfl hkp23_) rfl rfl hl.1 rfl (lv_room (Nat.le_of_ble_eq_true rfl)) dX8_showChange_110 ⟨Nat.le_of_ble_eq_true rfl, Nat.le_of_ble_eq_true rfl⟩) hD hS hA (fun y22_ τ24_ H locs hq hP hD hS => ?_)
        obtain ⟨hτ24_, q25_⟩ := hq
        rw [hτ24_] at hP hD
        refine W.widen (k := 0) (n := 0) (Nat.le_of_ble_eq_true rfl) (Nat.le_of_ble_eq_true rfl) ?_
        refine lv_aload_n hx hb dX8_showChange_113 rfl (lv_at hl 1 rfl) ?_
        obtain ⟨kp26_, hkp26_⟩ := cpl (κ := κ) (σ := σ) g_a.1 g_a.2.1
        refine va_get (D := (dC, dI)) (ci := 9) (v := .long (t_a.2.1 2)) (C := RX9) (T := TX9) (N := 11) hx hb hts hin9 hown hK hP kp26_ hkp26_ rfl 10 (Nat.le_of_ble_eq_true rfl) (ho (.fieldLink RX8 132 "NearEnough$Step" "high" "J") (List.mem_of_getElem? (i := 5) rfl)) (fun _ h9 => h9) rfl dX8_showChange_114 ?_
        refine lv_lsub hx hb dX8_showChange_117 ?_
        refine lv_topl (fun y27_ ey27_ => ?_)
        refine lv_aload_n hx hb dX8_showChange_118 rfl (lv_at hl 1 rfl) ?_
        obtain ⟨kp29_, hkp29_⟩ := cpl (κ := κ) (σ := σ) g_a.1 g_a.2.1
        refine zy_l (va_runV (As := []) (rest := [.long y27_, .ref (kA κ 21)]) ⟨hx, hb, hml, hown, hts⟩ (k_middle l dC dI κ H.size σ a t_a g_a hk hI ) (cwV 0 hts gd_k_showChange_161_k_middle rfl rfl rfl dd_k_middle ⟨Nat.le_of_ble_eq_true rfl, Nat.le_of_ble_eq_true rfl⟩) (preVy hP hK hD hE (ci := 9) (q0 := kp29_) rfl hkp29_) rfl rfl hl.1 rfl (lv_room (Nat.le_of_ble_eq_true rfl)) dX8_showChange_119 ⟨Nat.le_of_ble_eq_true rfl, Nat.le_of_ble_eq_true rfl⟩) hD hS hA (fun y28_ τ30_ H locs hq hP hD hS => ?_)
        obtain ⟨hτ30_, q31_⟩ := hq
        rw [hτ30_] at hP hD
        refine W.widen (k := 0) (n := 0) (Nat.le_of_ble_eq_true rfl) (Nat.le_of_ble_eq_true rfl) ?_
        refine lv_aload_n hx hb dX8_showChange_122 rfl (lv_at hl 1 rfl) ?_
        obtain ⟨kp32_, hkp32_⟩ := cpl (κ := κ) (σ := σ) g_a.1 g_a.2.1
        refine va_get (D := (dC, dI)) (ci := 9) (v := .long (t_a.2.1 1)) (C := RX9) (T := TX9) (N := 11) hx hb hts hin9 hown hK hP kp32_ hkp32_ rfl 9 (Nat.le_of_ble_eq_true rfl) (ho (.fieldLink RX8 130 "NearEnough$Step" "low" "J") (List.mem_of_getElem? (i := 6) rfl)) (fun _ h9 => h9) rfl dX8_showChange_123 ?_
        refine lv_lsub hx hb dX8_showChange_126 ?_
        refine lv_topl (fun y33_ ey33_ => ?_)
        refine zy_v (va_runV (As := [.long y27_, .long y33_]) (rest := []) ⟨hx, hb, hml, hown, hts⟩ (k_set l dC dI κ H.size σ y27_ y33_ hk hI ) (cwV 2 hts gd_k_showChange_116_k_set rfl rfl rfl dd_k_set ⟨Nat.le_of_ble_eq_true rfl, Nat.le_of_ble_eq_true rfl⟩) (preVy hP hK hD hE (ci := 8) (q0 := 21) rfl rfl) rfl rfl hl.1 rfl (lv_room (Nat.le_of_ble_eq_true rfl)) dX8_showChange_127 ⟨Nat.le_of_ble_eq_true rfl, Nat.le_of_ble_eq_true rfl⟩) hD hS hA (fun τ35_ H locs hq hP hD hS => ?_)
        obtain ⟨hτ35_, q36_⟩ := hq
        refine W.widen (k := 0) (n := 0) (Nat.le_of_ble_eq_true rfl) (Nat.le_of_ble_eq_true rfl) ?_
        refine lv_goto (tgt := 133) hx hb dX8_showChange_130 rfl ?_
        rw [hQ]
        exact W.vret hx hb hr (fun t ht hW => ⟨⟨τ35_, rfl, ⟨hτ35_, trivial⟩, wEn_of hP (hK.sub [] rfl) hD ht hW⟩, hS.F ht⟩) hS.2.2 dX8_showChange_133
def ow_k_showRowChange : List Cond := [.fieldLink RX8 170 "NearEnough$Row" "high" "I", .fieldLink RX8 172 "NearEnough$Row" "low" "I", .fieldLink RX8 165 "NearEnough$Row" "count" "I", .fieldLink RX8 40 "NearEnough$Shown" "changes" "LNearEnough$Changes;", .fieldLink RX8 18 "NearEnough$Shown" "least" "J", .fieldLink RX8 75 "NearEnough$Step" "kind" "I"]
def vs_k_showRowChange : List Cond := .code yX8_showRowChange cX8_showRowChange 12 none :: (ow_k_showRowChange ++ (([.methodLink RX8 174 yX0_takes, .instanceMethod yX0_takes, .selects RX0 yX0_takes yX0_takes, .initialized RX0] : List Cond) ++ (vs_k_takes ++ (([.methodLink RX8 116 yX8_set, .instanceMethod yX8_set, .selects RX8 yX8_set yX8_set, .initialized RX8] : List Cond) ++ (vs_k_set ++ (([.methodLink RX8 98 yX0_nAt, .instanceMethod yX0_nAt, .selects RX0 yX0_nAt yX0_nAt, .initialized RX0] : List Cond) ++ (vs_k_nAt ++ (wsX50 ++ (wsX80 ++ (wsX90))))))))))
theorem vg_k_showRowChange : vs_k_showRowChange.all goodWord = true := by decide +kernel
theorem dd_k_showRowChange : yX8_showRowChange.cls = RX8 ∧ yX8_showRowChange.cls ≠ "java/lang/invoke/MethodHandle" ∧ yX8_showRowChange.cls ≠ "java/lang/invoke/VarHandle" ∧ (parseMethodDescriptor yX8_showRowChange.desc).map (fun d => d.parameters.length) = some 4 := by decide +kernel
def rm_k_showRowChange : Room := { frames := 2, cells := 0, slots := 0, locals := 48 }
theorem gd_k_showRowChange_174_k_takes : GoodIn vs_k_showRowChange (wsV RX8 174 RX0 yX0_takes vs_k_takes) := goodIn_app (goodIn_sub (fun w h => (List.mem_cons_of_mem _ (List.mem_append_right _ (List.mem_append_left _ h)))) (by decide +kernel)) (goodIn_sub (fun w h => (List.mem_cons_of_mem _ (List.mem_append_right _ (List.mem_append_right _ (List.mem_append_left _ h))))) vg_k_takes)
theorem gd_k_showRowChange_116_k_set : GoodIn vs_k_showRowChange (wsV RX8 116 RX8 yX8_set vs_k_set) := goodIn_app (goodIn_sub (fun w h => (List.mem_cons_of_mem _ (List.mem_append_right _ (List.mem_append_right _ (List.mem_append_right _ (List.mem_append_left _ h)))))) (by decide +kernel)) (goodIn_sub (fun w h => (List.mem_cons_of_mem _ (List.mem_append_right _ (List.mem_append_right _ (List.mem_append_right _ (List.mem_append_right _ (List.mem_append_left _ h))))))) vg_k_set)
theorem gd_k_showRowChange_98_k_nAt : GoodIn vs_k_showRowChange (wsV RX8 98 RX0 yX0_nAt vs_k_nAt) := goodIn_app (goodIn_sub (fun w h => (List.mem_cons_of_mem _ (List.mem_append_right _ (List.mem_append_right _ (List.mem_append_right _ (List.mem_append_right _ (List.mem_append_right _ (List.mem_append_left _ h)))))))) (by decide +kernel)) (goodIn_sub (fun w h => (List.mem_cons_of_mem _ (List.mem_append_right _ (List.mem_append_right _ (List.mem_append_right _ (List.mem_append_right _ (List.mem_append_right _ (List.mem_append_right _ (List.mem_append_left _ h))))))))) vg_k_nAt)
set_option maxHeartbeats 4000000 in
set_option maxRecDepth 100000 in
theorem k_showRowChange (l : Launch) (dC : Nat → ClassId) (dI : Nat → Nat → Nat) (κ : CE) (sz : Nat) (σ : MS) (a : Nat) (t_a : TT) (g_a : IsStep κ a t_a) (r : Nat) (u_r : RT) (q_r : IsRow κ r u_r) (x : Int32) (y : Int32) (hk : PInv κ) (hI : CInv σ) (hy0 : 0 ≤ y.toInt ∧ y.toInt ≤ 11) : Met l yX8_showRowChange vs_k_showRowChange rm_k_showRowChange (va_Pc [.ref (kA κ 21), .ref a, .ref r, .int x, .int y] (wSy dC dI (cW κ σ) (cT κ) sz)) (va_Qv (fun (τ : MS) => CInv τ ∧ True) (fun (τ : MS) => wEn dC dI (va_A (cW κ σ) sz) (cW κ τ) []) (va_A (cW κ σ) sz)) 0 0 (va_A (cW κ σ) sz) := by
  refine Met.ofW (cc := cX8_showRowChange) (maxL := 12) (ret := none) (by decide +kernel) rfl ?_
  intro p e s m args below meth c s₁ B hml hv
  obtain ⟨rfl, hsz, hP, hK, hD0, hE⟩ := hv
  have hx := B.exec
  have hb := B.bytes
  have hr := B.returns
  have hts := atoms_spec (ws := vs_k_showRowChange) B.pre
  have hown : s.vm.findClass RX8 = some m.cls := findClass_of_methodNamed B.named
  have hlocks := B.notSynchronized
  subst hsz
  have hD := hD0.self (sz := s.heap.size)
  generalize hAe : va_A (cW κ σ) s.heap.size = A at hD ⊢
  have hA : ∀ q : Nat, s.heap.size ≤ q → A q := fun q h => by rw [← hAe]; exact Or.inr h
  have hl := lv_entry ([.ref (kA κ 21), .ref a, .ref r, .int x, .int y]) (n := 12) (Nat.le_of_ble_eq_true rfl)
  rw [lg_entry_eq]
  generalize (lg_sl ([.ref (kA κ 21), .ref a, .ref r, .int x, .int y]) ++ List.replicate (12 - (lg_sl ([.ref (kA κ 21), .ref a, .ref r, .int x, .int y])).length) Slot.unset).toArray = ls at hl ⊢
  have hl : lv_has ls 12 [(0, .ref (kA κ 21)), (1, .ref a), (2, .ref r), (3, .int x), (4, .int y)] := hl
  have ho := fun w (h : w ∈ ow_k_showRowChange) => hts w (List.mem_cons_of_mem _ (List.mem_append_left _ h))
  have hin5 : ∀ w ∈ u_ws RX5 TX5 5, w ∈ vs_k_showRowChange := fun w h => (List.mem_cons_of_mem _ (List.mem_append_right _ (List.mem_append_right _ (List.mem_append_right _ (List.mem_append_right _ (List.mem_append_right _ (List.mem_append_right _ (List.mem_append_right _ (List.mem_append_left _ h)))))))))
  have hin8 : ∀ w ∈ u_ws RX8 TX8 9, w ∈ vs_k_showRowChange := fun w h => (List.mem_cons_of_mem _ (List.mem_append_right _ (List.mem_append_right _ (List.mem_append_right _ (List.mem_append_right _ (List.mem_append_right _ (List.mem_append_right _ (List.mem_append_right _ (List.mem_append_right _ (List.mem_append_left _ h))))))))))
  have hin9 : ∀ w ∈ u_ws RX9 TX9 11, w ∈ vs_k_showRowChange := fun w h => (List.mem_cons_of_mem _ (List.mem_append_right _ (List.mem_append_right _ (List.mem_append_right _ (List.mem_append_right _ (List.mem_append_right _ (List.mem_append_right _ (List.mem_append_right _ (List.mem_append_right _ (List.mem_append_right _ h))))))))))
  refine zQ (fun Q hQ => ?_)
  refine zH (A := A) (ws := (cW κ σ)) (fun H hP hS => ?_) hP
  have hk0 := hk.1
  have hk1 := hk.2.1
  have hk2 := hk.2.2.1
  have pt12_ : ∀ (s12_ : Int32) (H : Heap) (locs : List Loc) (ls : Array Slot), va_P (dC, dI) vwCl (cW κ σ) H → va_D A (cW κ σ) → va_S A s.heap H locs → lv_has ls 12 [(0, .ref (kA κ 21)), (2, .ref r), (3, .int x), (4, .int y)] → W p l e (headSpec vs_k_showRowChange rm_k_showRowChange).room s m #[Value.ref (kA κ 21), Value.ref a, Value.ref r, Value.int x, Value.int y] below meth c H locs 0 0 Q (F0 m 12 ls [.int s12_]) := by
    intro s12_ H locs ls hP hD hS hl
    refine lv_istore (lv' := [(5, .int s12_), (0, .ref (kA κ 21)), (2, .ref r), (3, .int x), (4, .int y)]) hx hb dX8_showRowChange_12 hl (Nat.le_of_ble_eq_true rfl) rfl (fun ls hl => ?_)
    have pt28_ : ∀ (s28_ : Int64) (H : Heap) (locs : List Loc) (ls : Array Slot), va_P (dC, dI) vwCl (cW κ σ) H → va_D A (cW κ σ) → va_S A s.heap H locs → lv_has ls 12 [(5, .int s12_), (0, .ref (kA κ 21)), (2, .ref r), (3, .int x), (4, .int y)] → W p l e (headSpec vs_k_showRowChange rm_k_showRowChange).room s m #[Value.ref (kA κ 21), Value.ref a, Value.ref r, Value.int x, Value.int y] below meth c H locs 0 0 Q (F0 m 28 ls [.long s28_]) := by
      intro s28_ H locs ls hP hD hS hl
      refine lv_lstore (lv' := [(6, .long s28_), (5, .int s12_), (0, .ref (kA κ 21)), (2, .ref r), (3, .int x), (4, .int y)]) hx hb dX8_showRowChange_28 hl (Nat.le_of_ble_eq_true rfl) rfl (fun ls hl => ?_)
      refine lv_aload_n hx hb dX8_showRowChange_30 rfl (lv_at hl 3 rfl) ?_
      obtain ⟨kp1_, hkp1_⟩ := cpl (κ := κ) (σ := σ) q_r.1 q_r.2.1
      refine va_get (D := (dC, dI)) (ci := 5) (v := .int (u_r.1 2)) (C := RX5) (T := TX5) (N := 5) hx hb hts hin5 hown hK hP kp1_ hkp1_ rfl 3 (Nat.le_of_ble_eq_true rfl) (ho (.fieldLink RX8 170 "NearEnough$Row" "high" "I") (List.mem_of_getElem? (i := 0) rfl)) (fun _ h9 => h9) rfl dX8_showRowChange_31 ?_
      refine lv_i2l hx hb dX8_showRowChange_34 rfl ?_
      refine lv_topl (fun y2_ ey2_ => ?_)
      refine lv_aload_n hx hb dX8_showRowChange_35 rfl (lv_at hl 3 rfl) ?_
      obtain ⟨kp3_, hkp3_⟩ := cpl (κ := κ) (σ := σ) q_r.1 q_r.2.1
      refine va_get (D := (dC, dI)) (ci := 5) (v := .int (u_r.1 1)) (C := RX5) (T := TX5) (N := 5) hx hb hts hin5 hown hK hP kp3_ hkp3_ rfl 2 (Nat.le_of_ble_eq_true rfl) (ho (.fieldLink RX8 172 "NearEnough$Row" "low" "I") (List.mem_of_getElem? (i := 1) rfl)) (fun _ h9 => h9) rfl dX8_showRowChange_36 ?_
      refine lv_i2l hx hb dX8_showRowChange_39 rfl ?_
      refine lv_topl (fun y4_ ey4_ => ?_)
      refine lv_lsub hx hb dX8_showRowChange_40 ?_
      refine lv_topl (fun y5_ ey5_ => ?_)
      refine lv_lstore (lv' := [(8, .long y5_), (6, .long s28_), (5, .int s12_), (0, .ref (kA κ 21)), (2, .ref r), (3, .int x), (4, .int y)]) hx hb dX8_showRowChange_41 hl (Nat.le_of_ble_eq_true rfl) rfl (fun ls hl => ?_)
      refine lv_aload_n hx hb dX8_showRowChange_43 rfl (lv_at hl 4 rfl) ?_
      have bb6_ : 1 ≤ (u_r.1 0).toInt ∧ (u_r.1 0).toInt ≤ 6 ∧ 0 ≤ (u_r.1 3).toInt ∧ (u_r.1 3).toInt + (u_r.1 0).toInt ≤ 12 := q_r.2.2
      obtain ⟨kp7_, hkp7_⟩ := cpl (κ := κ) (σ := σ) q_r.1 q_r.2.1
      refine va_get (D := (dC, dI)) (ci := 5) (v := .int (u_r.1 0)) (C := RX5) (T := TX5) (N := 5) hx hb hts hin5 hown hK hP kp7_ hkp7_ rfl 1 (Nat.le_of_ble_eq_true rfl) (ho (.fieldLink RX8 165 "NearEnough$Row" "count" "I") (List.mem_of_getElem? (i := 2) rfl)) (fun _ h9 => h9) rfl dX8_showRowChange_44 ?_
      refine lv_aload_n hx hb dX8_showRowChange_47 rfl (lv_at hl 3 rfl) ?_
      refine va_get (D := (dC, dI)) (ci := 8) (v := .ref (kA κ 15)) (C := RX8) (T := TX8) (N := 9) hx hb hts hin8 hown hK hP 21 rfl rfl 1 (Nat.le_of_ble_eq_true rfl) (ho (.fieldLink RX8 40 "NearEnough$Shown" "changes" "LNearEnough$Changes;") (List.mem_of_getElem? (i := 3) rfl)) (fun _ h9 => h9) rfl dX8_showRowChange_48 ?_
      refine lv_iload hx hb dX8_showRowChange_51 (lv_at hl 6 rfl) ?_
      refine lv_aload_n hx hb dX8_showRowChange_53 rfl (lv_at hl 4 rfl) ?_
      have bb8_ : 1 ≤ (u_r.1 0).toInt ∧ (u_r.1 0).toInt ≤ 6 ∧ 0 ≤ (u_r.1 3).toInt ∧ (u_r.1 3).toInt + (u_r.1 0).toInt ≤ 12 := q_r.2.2
      obtain ⟨kp9_, hkp9_⟩ := cpl (κ := κ) (σ := σ) q_r.1 q_r.2.1
      refine va_get (D := (dC, dI)) (ci := 5) (v := .int (u_r.1 0)) (C := RX5) (T := TX5) (N := 5) hx hb hts hin5 hown hK hP kp9_ hkp9_ rfl 1 (Nat.le_of_ble_eq_true rfl) (ho (.fieldLink RX8 165 "NearEnough$Row" "count" "I") (List.mem_of_getElem? (i := 2) rfl)) (fun _ h9 => h9) rfl dX8_showRowChange_54 ?_
      have o1 : 0 ≤ y.toInt := by omega
      have o2 : y.toInt ≤ 11 := by omega
      refine zy_i (va_runV (As := [.int y, .int (u_r.1 0)]) (rest := [.int (u_r.1 0)]) ⟨hx, hb, hml, hown, hts⟩ (k_takes l dC dI κ H.size σ y (u_r.1 0) hk hI ⟨o1, o2⟩) (cwV 2 hts gd_k_showRowChange_174_k_takes rfl rfl rfl dd_k_takes ⟨Nat.le_of_ble_eq_true rfl, Nat.le_of_ble_eq_true rfl⟩) (preVy hP hK hD hE (ci := 0) (q0 := 15) rfl rfl) rfl rfl hl.1 rfl (lv_room (Nat.le_of_ble_eq_true rfl)) dX8_showRowChange_57 ⟨Nat.le_of_ble_eq_true rfl, Nat.le_of_ble_eq_true rfl⟩) hD hS hA (fun z10_ τ11_ H locs hq hP hD hS => ?_)
      obtain ⟨hτ11_, q12_⟩ := hq
      rw [hτ11_] at hP hD
      refine W.widen (k := 0) (n := 0) (Nat.le_of_ble_eq_true rfl) (Nat.le_of_ble_eq_true rfl) ?_
      refine lv_isub hx hb dX8_showRowChange_60 ?_
      refine lv_topi (fun z13_ ez13_ => ?_)
      refine lv_i2l hx hb dX8_showRowChange_61 rfl ?_
      refine lv_topl (fun y14_ ey14_ => ?_)
      refine lv_lstore (lv' := [(10, .long y14_), (8, .long y5_), (6, .long s28_), (5, .int s12_), (0, .ref (kA κ 21)), (2, .ref r), (3, .int x), (4, .int y)]) hx hb dX8_showRowChange_62 hl (Nat.le_of_ble_eq_true rfl) rfl (fun ls hl => ?_)
      refine lv_iload_n hx hb dX8_showRowChange_64 rfl (lv_at hl 6 rfl) ?_
      by_cases c_lo : x.toInt < 0
      · refine lv_tableOut (tgt := 227) hx hb dX8_showRowChange_65 (Or.inl c_lo) rfl ?_
        rw [hQ]
        exact W.vret hx hb hr (fun t ht hW => ⟨⟨σ, rfl, ⟨hI, trivial⟩, wEn_of hP (hK.sub [] rfl) hD ht hW⟩, hS.F ht⟩) hS.2.2 dX8_showRowChange_227
      · by_cases c_hi : 6 < x.toInt
        · refine lv_tableOut (tgt := 227) hx hb dX8_showRowChange_65 (Or.inr c_hi) rfl ?_
          rw [hQ]
          exact W.vret hx hb hr (fun t ht hW => ⟨⟨σ, rfl, ⟨hI, trivial⟩, wEn_of hP (hK.sub [] rfl) hD ht hW⟩, hS.F ht⟩) hS.2.2 dX8_showRowChange_227
        · rcases (show x.toInt = 0 ∨ x.toInt = 1 ∨ x.toInt = 2 ∨ x.toInt = 3 ∨ x.toInt = 4 ∨ x.toInt = 5 ∨ x.toInt = 6 by omega) with t_sw | t_sw | t_sw | t_sw | t_sw | t_sw | t_sw
          · refine lv_tableIn (tgt := 108) (off := 43) hx hb dX8_showRowChange_65 (by rw [t_sw]; decide) (by rw [t_sw]; decide) (by rw [t_sw]; decide) (by decide) ?_
            refine lv_aload_n hx hb dX8_showRowChange_108 rfl (lv_at hl 4 rfl) ?_
            refine lv_lload hx hb dX8_showRowChange_109 (lv_at hl 0 rfl) ?_
            refine lv_lneg hx hb dX8_showRowChange_111 ?_
            refine lv_topl (fun y15_ ey15_ => ?_)
            refine lv_lload hx hb dX8_showRowChange_112 (lv_at hl 1 rfl) ?_
            refine lv_lmul hx hb dX8_showRowChange_114 ?_
            refine lv_topl (fun y16_ ey16_ => ?_)
            refine lv_lconst (v := 1) hx hb dX8_showRowChange_115 (by decide) ?_
            refine lv_lsub hx hb dX8_showRowChange_116 ?_
            refine lv_topl (fun y17_ ey17_ => ?_)
            refine lv_lload hx hb dX8_showRowChange_117 (lv_at hl 0 rfl) ?_
            refine lv_lload hx hb dX8_showRowChange_119 (lv_at hl 1 rfl) ?_
            refine lv_lmul hx hb dX8_showRowChange_121 ?_
            refine lv_topl (fun y18_ ey18_ => ?_)
            refine lv_lconst (v := 1) hx hb dX8_showRowChange_122 (by decide) ?_
            refine lv_ladd hx hb dX8_showRowChange_123 ?_
            refine lv_topl (fun y19_ ey19_ => ?_)
            refine zy_v (va_runV (As := [.long y17_, .long y19_]) (rest := []) ⟨hx, hb, hml, hown, hts⟩ (k_set l dC dI κ H.size σ y17_ y19_ hk hI ) (cwV 2 hts gd_k_showRowChange_116_k_set rfl rfl rfl dd_k_set ⟨Nat.le_of_ble_eq_true rfl, Nat.le_of_ble_eq_true rfl⟩) (preVy hP hK hD hE (ci := 8) (q0 := 21) rfl rfl) rfl rfl hl.1 rfl (lv_room (Nat.le_of_ble_eq_true rfl)) dX8_showRowChange_124 ⟨Nat.le_of_ble_eq_true rfl, Nat.le_of_ble_eq_true rfl⟩) hD hS hA (fun τ21_ H locs hq hP hD hS => ?_)
            obtain ⟨hτ21_, q22_⟩ := hq
            refine W.widen (k := 0) (n := 0) (Nat.le_of_ble_eq_true rfl) (Nat.le_of_ble_eq_true rfl) ?_
            refine lv_goto (tgt := 227) hx hb dX8_showRowChange_127 rfl ?_
            rw [hQ]
            exact W.vret hx hb hr (fun t ht hW => ⟨⟨τ21_, rfl, ⟨hτ21_, trivial⟩, wEn_of hP (hK.sub [] rfl) hD ht hW⟩, hS.F ht⟩) hS.2.2 dX8_showRowChange_227
          · refine lv_tableIn (tgt := 227) (off := 162) hx hb dX8_showRowChange_65 (by rw [t_sw]; decide) (by rw [t_sw]; decide) (by rw [t_sw]; decide) (by decide) ?_
            rw [hQ]
            exact W.vret hx hb hr (fun t ht hW => ⟨⟨σ, rfl, ⟨hI, trivial⟩, wEn_of hP (hK.sub [] rfl) hD ht hW⟩, hS.F ht⟩) hS.2.2 dX8_showRowChange_227
          · refine lv_tableIn (tgt := 227) (off := 162) hx hb dX8_showRowChange_65 (by rw [t_sw]; decide) (by rw [t_sw]; decide) (by rw [t_sw]; decide) (by decide) ?_
            rw [hQ]
            exact W.vret hx hb hr (fun t ht hW => ⟨⟨σ, rfl, ⟨hI, trivial⟩, wEn_of hP (hK.sub [] rfl) hD ht hW⟩, hS.F ht⟩) hS.2.2 dX8_showRowChange_227
          · refine lv_tableIn (tgt := 130) (off := 65) hx hb dX8_showRowChange_65 (by rw [t_sw]; decide) (by rw [t_sw]; decide) (by rw [t_sw]; decide) (by decide) ?_
            refine lv_aload_n hx hb dX8_showRowChange_130 rfl (lv_at hl 4 rfl) ?_
            refine lv_dup hx hb dX8_showRowChange_131 rfl ?_
            refine va_get (D := (dC, dI)) (ci := 8) (v := .long (σ.2.2.2 22)) (C := RX8) (T := TX8) (N := 9) hx hb hts hin8 hown hK hP 21 rfl rfl 4 (Nat.le_of_ble_eq_true rfl) (ho (.fieldLink RX8 18 "NearEnough$Shown" "least" "J") (List.mem_of_getElem? (i := 4) rfl)) (fun _ h9 => h9) rfl dX8_showRowChange_132 ?_
            refine lv_lload hx hb dX8_showRowChange_135 (lv_at hl 2 rfl) ?_
            refine lv_aload_n hx hb dX8_showRowChange_137 rfl (lv_at hl 4 rfl) ?_
            refine va_get (D := (dC, dI)) (ci := 8) (v := .ref (kA κ 15)) (C := RX8) (T := TX8) (N := 9) hx hb hts hin8 hown hK hP 21 rfl rfl 1 (Nat.le_of_ble_eq_true rfl) (ho (.fieldLink RX8 40 "NearEnough$Shown" "changes" "LNearEnough$Changes;") (List.mem_of_getElem? (i := 3) rfl)) (fun _ h9 => h9) rfl dX8_showRowChange_138 ?_
            refine lv_iload hx hb dX8_showRowChange_141 (lv_at hl 7 rfl) ?_
            refine zy_i (va_runV (As := [.int y]) (rest := [.long s28_, .long (σ.2.2.2 22), .ref (kA κ 21)]) ⟨hx, hb, hml, hown, hts⟩ (k_nAt l dC dI κ H.size σ y hk hI ⟨o1, o2⟩) (cwV 1 hts gd_k_showRowChange_98_k_nAt rfl rfl rfl dd_k_nAt ⟨Nat.le_of_ble_eq_true rfl, Nat.le_of_ble_eq_true rfl⟩) (preVy hP hK hD hE (ci := 0) (q0 := 15) rfl rfl) rfl rfl hl.1 rfl (lv_room (Nat.le_of_ble_eq_true rfl)) dX8_showRowChange_143 ⟨Nat.le_of_ble_eq_true rfl, Nat.le_of_ble_eq_true rfl⟩) hD hS hA (fun z23_ τ24_ H locs hq hP hD hS => ?_)
            obtain ⟨hτ24_, q25_⟩ := hq
            rw [hτ24_] at hP hD
            have q25_ : 0 ≤ z23_.toInt ∧ z23_.toInt ≤ 99 := q25_
            refine W.widen (k := 0) (n := 0) (Nat.le_of_ble_eq_true rfl) (Nat.le_of_ble_eq_true rfl) ?_
            refine lv_iconst (v := 1) hx hb dX8_showRowChange_146 rg_6 ?_
            refine lv_isub hx hb dX8_showRowChange_147 ?_
            refine lv_topi (fun z26_ ez26_ => ?_)
            refine lv_i2l hx hb dX8_showRowChange_148 rfl ?_
            refine lv_topl (fun y27_ ey27_ => ?_)
            refine lv_lmul hx hb dX8_showRowChange_149 ?_
            refine lv_topl (fun y28_ ey28_ => ?_)
            refine lv_lsub hx hb dX8_showRowChange_150 ?_
            refine lv_topl (fun y29_ ey29_ => ?_)
            refine va_put (D := (dC, dI)) (ci := 8) (v := .long y29_) (ty := tyX8 4) (C := RX8) (T := TX8) (N := 9) hx hb hts hin8 tyX8 tyX8_ok nmX8 hown hK hP hD hS 21 rfl rfl 4 (Nat.le_of_ble_eq_true rfl) (ho (.fieldLink RX8 18 "NearEnough$Shown" "least" "J") (List.mem_of_getElem? (i := 4) rfl)) (fun _ h9 => h9) rfl (tyX8_ok 4 (Nat.le_of_ble_eq_true rfl)) rfl rfl (Nat.le_of_ble_eq_true rfl) dX8_showRowChange_151 (fun H locs hP hD hS => ?_)
            have hP : va_P (dC, dI) vwCl (cW κ (sL σ 22 y29_)) H := hP
            have hD : va_D A (cW κ (sL σ 22 y29_)) := hD
            refine lv_goto (tgt := 227) hx hb dX8_showRowChange_154 rfl ?_
            rw [hQ]
            exact W.vret hx hb hr (fun t ht hW => ⟨⟨(sL σ 22 y29_), rfl, ⟨(CInv.sL hI), trivial⟩, wEn_of hP (hK.sub [] rfl) hD ht hW⟩, hS.F ht⟩) hS.2.2 dX8_showRowChange_227
          · refine lv_tableIn (tgt := 227) (off := 162) hx hb dX8_showRowChange_65 (by rw [t_sw]; decide) (by rw [t_sw]; decide) (by rw [t_sw]; decide) (by decide) ?_
            rw [hQ]
            exact W.vret hx hb hr (fun t ht hW => ⟨⟨σ, rfl, ⟨hI, trivial⟩, wEn_of hP (hK.sub [] rfl) hD ht hW⟩, hS.F ht⟩) hS.2.2 dX8_showRowChange_227
          · refine lv_tableIn (tgt := 157) (off := 92) hx hb dX8_showRowChange_65 (by rw [t_sw]; decide) (by rw [t_sw]; decide) (by rw [t_sw]; decide) (by decide) ?_
            refine lv_lload hx hb dX8_showRowChange_157 (lv_at hl 0 rfl) ?_
            refine lv_lconst (v := 0) hx hb dX8_showRowChange_159 (by decide) ?_
            refine W.lcmp hx hb dX8_showRowChange_160 ?_
            refine lv_topi (fun z30_ ez30_ => ?_)
            refine lv_if_le (tgt := 227) hx hb dX8_showRowChange_161 rfl (fun c31_ => ?_) (fun c31_ => ?_)
            · have tc31_ := (show z30_.toInt ≤ 0 from ti_le rfl rg_11 c31_)
              have lc31_ : y14_ ≤ 0 := (lg_cmp_le y14_ 0).mp (by rw [← ez30_]; exact c31_)
              rw [hQ]
              exact W.vret hx hb hr (fun t ht hW => ⟨⟨σ, rfl, ⟨hI, trivial⟩, wEn_of hP (hK.sub [] rfl) hD ht hW⟩, hS.F ht⟩) hS.2.2 dX8_showRowChange_227
            · have tc31_ := (show 0 < z30_.toInt from ti_nle rfl rg_11 c31_)
              have lc31_ : ¬ y14_ ≤ 0 := fun h => c31_ (by rw [ez30_]; exact (lg_cmp_le y14_ 0).mpr h)
              refine lv_aload_n hx hb dX8_showRowChange_164 rfl (lv_at hl 4 rfl) ?_
              have pt185_ : ∀ (s185_ : Int64) (H : Heap) (locs : List Loc) (ls : Array Slot), va_P (dC, dI) vwCl (cW κ σ) H → va_D A (cW κ σ) → va_S A s.heap H locs → lv_has ls 12 [(10, .long y14_), (5, .int s12_), (2, .ref r)] → W p l e (headSpec vs_k_showRowChange rm_k_showRowChange).room s m #[Value.ref (kA κ 21), Value.ref a, Value.ref r, Value.int x, Value.int y] below meth c H locs 0 0 Q (F0 m 185 ls [.long s185_, .ref (kA κ 21)]) := by
                intro s185_ H locs ls hP hD hS hl
                have pt203_ : ∀ (s203_ : Int64) (H : Heap) (locs : List Loc) (ls : Array Slot), va_P (dC, dI) vwCl (cW κ σ) H → va_D A (cW κ σ) → va_S A s.heap H locs → lv_has ls 12 [] → W p l e (headSpec vs_k_showRowChange rm_k_showRowChange).room s m #[Value.ref (kA κ 21), Value.ref a, Value.ref r, Value.int x, Value.int y] below meth c H locs 0 0 Q (F0 m 203 ls [.long s203_, .long s185_, .ref (kA κ 21)]) := by
                  intro s203_ H locs ls hP hD hS hl
                  refine zy_v (va_runV (As := [.long s185_, .long s203_]) (rest := []) ⟨hx, hb, hml, hown, hts⟩ (k_set l dC dI κ H.size σ s185_ s203_ hk hI ) (cwV 2 hts gd_k_showRowChange_116_k_set rfl rfl rfl dd_k_set ⟨Nat.le_of_ble_eq_true rfl, Nat.le_of_ble_eq_true rfl⟩) (preVy hP hK hD hE (ci := 8) (q0 := 21) rfl rfl) rfl rfl hl.1 rfl (lv_room (Nat.le_of_ble_eq_true rfl)) dX8_showRowChange_203 ⟨Nat.le_of_ble_eq_true rfl, Nat.le_of_ble_eq_true rfl⟩) hD hS hA (fun τ33_ H locs hq hP hD hS => ?_)
                  obtain ⟨hτ33_, q34_⟩ := hq
                  refine W.widen (k := 0) (n := 0) (Nat.le_of_ble_eq_true rfl) (Nat.le_of_ble_eq_true rfl) ?_
                  refine lv_goto (tgt := 227) hx hb dX8_showRowChange_206 rfl ?_
                  rw [hQ]
                  exact W.vret hx hb hr (fun t ht hW => ⟨⟨τ33_, rfl, ⟨hτ33_, trivial⟩, wEn_of hP (hK.sub [] rfl) hD ht hW⟩, hS.F ht⟩) hS.2.2 dX8_showRowChange_227
                refine lv_iload hx hb dX8_showRowChange_185 (lv_at hl 1 rfl) ?_
                refine lv_if_eq (tgt := 202) hx hb dX8_showRowChange_187 rfl (fun c35_ => ?_) (fun c35_ => ?_)
                · have tc35_ := (show s12_.toInt = 0 from ti_eq rfl rg_11 c35_)
                  refine lv_lconst (v := 0) hx hb dX8_showRowChange_202 (by decide) ?_
                  exact pt203_  0 _ _ _  hP hD hS (lv_sub hl [] rfl)
                · have tc35_ := (show s12_.toInt ≠ 0 from ti_ne rfl rg_11 c35_)
                  refine lv_lload hx hb dX8_showRowChange_190 (lv_at hl 0 rfl) ?_
                  refine lv_lneg hx hb dX8_showRowChange_192 ?_
                  refine lv_topl (fun y36_ ey36_ => ?_)
                  refine lv_aload_n hx hb dX8_showRowChange_193 rfl (lv_at hl 2 rfl) ?_
                  obtain ⟨kp37_, hkp37_⟩ := cpl (κ := κ) (σ := σ) q_r.1 q_r.2.1
                  refine va_get (D := (dC, dI)) (ci := 5) (v := .int (u_r.1 1)) (C := RX5) (T := TX5) (N := 5) hx hb hts hin5 hown hK hP kp37_ hkp37_ rfl 2 (Nat.le_of_ble_eq_true rfl) (ho (.fieldLink RX8 172 "NearEnough$Row" "low" "I") (List.mem_of_getElem? (i := 1) rfl)) (fun _ h9 => h9) rfl dX8_showRowChange_194 ?_
                  refine lv_i2l hx hb dX8_showRowChange_197 rfl ?_
                  refine lv_topl (fun y38_ ey38_ => ?_)
                  refine lv_lmul hx hb dX8_showRowChange_198 ?_
                  refine lv_topl (fun y39_ ey39_ => ?_)
                  refine lv_goto (tgt := 203) hx hb dX8_showRowChange_199 rfl ?_
                  exact pt203_  y39_ _ _ _  hP hD hS (lv_sub hl [] rfl)
              refine lv_iload hx hb dX8_showRowChange_165 (lv_at hl 3 rfl) ?_
              refine lv_if_eq (tgt := 182) hx hb dX8_showRowChange_167 rfl (fun c40_ => ?_) (fun c40_ => ?_)
              · have tc40_ := (show s12_.toInt = 0 from ti_eq rfl rg_11 c40_)
                refine lv_lload hx hb dX8_showRowChange_182 (lv_at hl 1 rfl) ?_
                refine lv_lneg hx hb dX8_showRowChange_184 ?_
                refine lv_topl (fun y41_ ey41_ => ?_)
                exact pt185_  y41_ _ _ _  hP hD hS (lv_sub hl [0, 3, 5] rfl)
              · have tc40_ := (show s12_.toInt ≠ 0 from ti_ne rfl rg_11 c40_)
                refine lv_lload hx hb dX8_showRowChange_170 (lv_at hl 0 rfl) ?_
                refine lv_lneg hx hb dX8_showRowChange_172 ?_
                refine lv_topl (fun y42_ ey42_ => ?_)
                refine lv_aload_n hx hb dX8_showRowChange_173 rfl (lv_at hl 5 rfl) ?_
                obtain ⟨kp43_, hkp43_⟩ := cpl (κ := κ) (σ := σ) q_r.1 q_r.2.1
                refine va_get (D := (dC, dI)) (ci := 5) (v := .int (u_r.1 2)) (C := RX5) (T := TX5) (N := 5) hx hb hts hin5 hown hK hP kp43_ hkp43_ rfl 3 (Nat.le_of_ble_eq_true rfl) (ho (.fieldLink RX8 170 "NearEnough$Row" "high" "I") (List.mem_of_getElem? (i := 0) rfl)) (fun _ h9 => h9) rfl dX8_showRowChange_174 ?_
                refine lv_i2l hx hb dX8_showRowChange_177 rfl ?_
                refine lv_topl (fun y44_ ey44_ => ?_)
                refine lv_lmul hx hb dX8_showRowChange_178 ?_
                refine lv_topl (fun y45_ ey45_ => ?_)
                refine lv_goto (tgt := 185) hx hb dX8_showRowChange_179 rfl ?_
                exact pt185_  y45_ _ _ _  hP hD hS (lv_sub hl [0, 3, 5] rfl)
          · refine lv_tableIn (tgt := 209) (off := 144) hx hb dX8_showRowChange_65 (by rw [t_sw]; decide) (by rw [t_sw]; decide) (by rw [t_sw]; decide) (by decide) ?_
            refine lv_aload_n hx hb dX8_showRowChange_209 rfl (lv_at hl 4 rfl) ?_
            refine lv_lload hx hb dX8_showRowChange_210 (lv_at hl 2 rfl) ?_
            refine lv_lneg hx hb dX8_showRowChange_212 ?_
            refine lv_topl (fun y46_ ey46_ => ?_)
            refine lv_lload hx hb dX8_showRowChange_213 (lv_at hl 1 rfl) ?_
            refine lv_lmul hx hb dX8_showRowChange_215 ?_
            refine lv_topl (fun y47_ ey47_ => ?_)
            refine lv_lload hx hb dX8_showRowChange_216 (lv_at hl 2 rfl) ?_
            refine lv_lload hx hb dX8_showRowChange_218 (lv_at hl 1 rfl) ?_
            refine lv_lmul hx hb dX8_showRowChange_220 ?_
            refine lv_topl (fun y48_ ey48_ => ?_)
            refine zy_v (va_runV (As := [.long y47_, .long y48_]) (rest := []) ⟨hx, hb, hml, hown, hts⟩ (k_set l dC dI κ H.size σ y47_ y48_ hk hI ) (cwV 2 hts gd_k_showRowChange_116_k_set rfl rfl rfl dd_k_set ⟨Nat.le_of_ble_eq_true rfl, Nat.le_of_ble_eq_true rfl⟩) (preVy hP hK hD hE (ci := 8) (q0 := 21) rfl rfl) rfl rfl hl.1 rfl (lv_room (Nat.le_of_ble_eq_true rfl)) dX8_showRowChange_221 ⟨Nat.le_of_ble_eq_true rfl, Nat.le_of_ble_eq_true rfl⟩) hD hS hA (fun τ50_ H locs hq hP hD hS => ?_)
            obtain ⟨hτ50_, q51_⟩ := hq
            refine W.widen (k := 0) (n := 0) (Nat.le_of_ble_eq_true rfl) (Nat.le_of_ble_eq_true rfl) ?_
            refine lv_goto (tgt := 227) hx hb dX8_showRowChange_224 rfl ?_
            rw [hQ]
            exact W.vret hx hb hr (fun t ht hW => ⟨⟨τ50_, rfl, ⟨hτ50_, trivial⟩, wEn_of hP (hK.sub [] rfl) hD ht hW⟩, hS.F ht⟩) hS.2.2 dX8_showRowChange_227
    refine lv_iload hx hb dX8_showRowChange_14 (lv_at hl 0 rfl) ?_
    refine lv_if_eq (tgt := 27) hx hb dX8_showRowChange_16 rfl (fun c52_ => ?_) (fun c52_ => ?_)
    · have tc52_ := (show s12_.toInt = 0 from ti_eq rfl rg_11 c52_)
      refine lv_lconst (v := 1) hx hb dX8_showRowChange_27 (by decide) ?_
      exact pt28_  1 _ _ _  hP hD hS (lv_sub hl [0, 1, 2, 3, 4] rfl)
    · have tc52_ := (show s12_.toInt ≠ 0 from ti_ne rfl rg_11 c52_)
      refine lv_aload_n hx hb dX8_showRowChange_19 rfl (lv_at hl 2 rfl) ?_
      have bb53_ : 1 ≤ (u_r.1 0).toInt ∧ (u_r.1 0).toInt ≤ 6 ∧ 0 ≤ (u_r.1 3).toInt ∧ (u_r.1 3).toInt + (u_r.1 0).toInt ≤ 12 := q_r.2.2
      obtain ⟨kp54_, hkp54_⟩ := cpl (κ := κ) (σ := σ) q_r.1 q_r.2.1
      refine va_get (D := (dC, dI)) (ci := 5) (v := .int (u_r.1 0)) (C := RX5) (T := TX5) (N := 5) hx hb hts hin5 hown hK hP kp54_ hkp54_ rfl 1 (Nat.le_of_ble_eq_true rfl) (ho (.fieldLink RX8 165 "NearEnough$Row" "count" "I") (List.mem_of_getElem? (i := 2) rfl)) (fun _ h9 => h9) rfl dX8_showRowChange_20 ?_
      refine lv_i2l hx hb dX8_showRowChange_23 rfl ?_
      refine lv_topl (fun y55_ ey55_ => ?_)
      refine lv_goto (tgt := 28) hx hb dX8_showRowChange_24 rfl ?_
      exact pt28_  y55_ _ _ _  hP hD hS (lv_sub hl [0, 1, 2, 3, 4] rfl)
  refine lv_aload_n hx hb dX8_showRowChange_0 rfl (lv_at hl 1 rfl) ?_
  obtain ⟨kp56_, hkp56_⟩ := cpl (κ := κ) (σ := σ) g_a.1 g_a.2.1
  refine va_get (D := (dC, dI)) (ci := 9) (v := .int (t_a.1 0)) (C := RX9) (T := TX9) (N := 11) hx hb hts hin9 hown hK hP kp56_ hkp56_ rfl 0 (Nat.le_of_ble_eq_true rfl) (ho (.fieldLink RX8 75 "NearEnough$Step" "kind" "I") (List.mem_of_getElem? (i := 5) rfl)) (fun _ h9 => h9) rfl dX8_showRowChange_1 ?_
  refine lv_if_ne (tgt := 11) hx hb dX8_showRowChange_4 rfl (fun c57_ => ?_) (fun c57_ => ?_)
  · have tc57_ := (show (t_a.1 0).toInt ≠ 0 from ti_ne rfl rg_11 c57_)
    refine lv_iconst (v := 0) hx hb dX8_showRowChange_11 rg_0 ?_
    have kk58_ : (0 : Int32).toInt = 0 := rg_11
    exact pt12_  0 _ _ _  hP hD hS (lv_sub hl [0, 2, 3, 4] rfl)
  · have tc57_ := (show (t_a.1 0).toInt = 0 from ti_eq rfl rg_11 c57_)
    refine lv_iconst (v := 1) hx hb dX8_showRowChange_7 rg_6 ?_
    refine lv_goto (tgt := 12) hx hb dX8_showRowChange_8 rfl ?_
    have kk59_ : (1 : Int32).toInt = 1 := rg_18
    exact pt12_  1 _ _ _  hP hD hS (lv_sub hl [0, 2, 3, 4] rfl)
def ow_k_show : List Cond := [.fieldLink RX8 36 "NearEnough$Shown" "told" "LNearEnough$Program;", .fieldLink RX8 63 "NearEnough$Program" "stepCount" "I", .fieldLink RX8 68 "NearEnough$Program" "steps" "[LNearEnough$Step;", .fieldLink RX8 40 "NearEnough$Shown" "changes" "LNearEnough$Changes;", .fieldLink RX8 18 "NearEnough$Shown" "least" "J", .fieldLink RX8 22 "NearEnough$Shown" "greatest" "J", .constantLong RX8 105 (-1000000000), .constantLong RX8 107 (1000000000), .fieldLink RX8 9 "NearEnough$Shown" "low" "[J", .fieldLink RX8 15 "NearEnough$Shown" "high" "[J", .fieldLink RX8 86 "NearEnough$Step" "row" "LNearEnough$Row;", .fieldLink RX8 75 "NearEnough$Step" "kind" "I", .fieldLink RX8 80 "NearEnough$Step" "a" "I"]
def vs_k_show : List Cond := .code yX8_show cX8_show 5 (some .int) :: (ow_k_show ++ (([.methodLink RX8 72 yX0_kindAt, .instanceMethod yX0_kindAt, .selects RX0 yX0_kindAt yX0_kindAt, .initialized RX0] : List Cond) ++ (vs_k_kindAt ++ (([.methodLink RX8 98 yX0_nAt, .instanceMethod yX0_nAt, .selects RX0 yX0_nAt yX0_nAt, .initialized RX0] : List Cond) ++ (vs_k_nAt ++ (([.methodLink RX8 101 yX8_showChange, .instanceMethod yX8_showChange, .selects RX8 yX8_showChange yX8_showChange, .initialized RX8] : List Cond) ++ (vs_k_showChange ++ (([.methodLink RX8 90 yX8_showFromSteps, .instanceMethod yX8_showFromSteps, .selects RX8 yX8_showFromSteps yX8_showFromSteps, .initialized RX8] : List Cond) ++ (vs_k_showFromSteps ++ (([.methodLink RX8 94 yX8_showRowChange, .instanceMethod yX8_showRowChange, .selects RX8 yX8_showRowChange yX8_showRowChange, .initialized RX8] : List Cond) ++ (vs_k_showRowChange ++ (([.methodLink RX8 83 yX8_errs, .instanceMethod yX8_errs, .selects RX8 yX8_errs yX8_errs, .initialized RX8] : List Cond) ++ (vs_k_errs ++ (wsX30 ++ (wsX80 ++ (wsX90))))))))))))))))
theorem vg_k_show : vs_k_show.all goodWord = true := by decide +kernel
theorem dd_k_show : yX8_show.cls = RX8 ∧ yX8_show.cls ≠ "java/lang/invoke/MethodHandle" ∧ yX8_show.cls ≠ "java/lang/invoke/VarHandle" ∧ (parseMethodDescriptor yX8_show.desc).map (fun d => d.parameters.length) = some 1 := by decide +kernel
def rm_k_show : Room := { frames := 4, cells := 0, slots := 0, locals := 98 }
theorem gd_k_show_72_k_kindAt : GoodIn vs_k_show (wsV RX8 72 RX0 yX0_kindAt vs_k_kindAt) := goodIn_app (goodIn_sub (fun w h => (List.mem_cons_of_mem _ (List.mem_append_right _ (List.mem_append_left _ h)))) (by decide +kernel)) (goodIn_sub (fun w h => (List.mem_cons_of_mem _ (List.mem_append_right _ (List.mem_append_right _ (List.mem_append_left _ h))))) vg_k_kindAt)
theorem gd_k_show_98_k_nAt : GoodIn vs_k_show (wsV RX8 98 RX0 yX0_nAt vs_k_nAt) := goodIn_app (goodIn_sub (fun w h => (List.mem_cons_of_mem _ (List.mem_append_right _ (List.mem_append_right _ (List.mem_append_right _ (List.mem_append_left _ h)))))) (by decide +kernel)) (goodIn_sub (fun w h => (List.mem_cons_of_mem _ (List.mem_append_right _ (List.mem_append_right _ (List.mem_append_right _ (List.mem_append_right _ (List.mem_append_left _ h))))))) vg_k_nAt)
theorem gd_k_show_101_k_showChange : GoodIn vs_k_show (wsV RX8 101 RX8 yX8_showChange vs_k_showChange) := goodIn_app (goodIn_sub (fun w h => (List.mem_cons_of_mem _ (List.mem_append_right _ (List.mem_append_right _ (List.mem_append_right _ (List.mem_append_right _ (List.mem_append_right _ (List.mem_append_left _ h)))))))) (by decide +kernel)) (goodIn_sub (fun w h => (List.mem_cons_of_mem _ (List.mem_append_right _ (List.mem_append_right _ (List.mem_append_right _ (List.mem_append_right _ (List.mem_append_right _ (List.mem_append_right _ (List.mem_append_left _ h))))))))) vg_k_showChange)
theorem gd_k_show_90_k_showFromSteps : GoodIn vs_k_show (wsV RX8 90 RX8 yX8_showFromSteps vs_k_showFromSteps) := goodIn_app (goodIn_sub (fun w h => (List.mem_cons_of_mem _ (List.mem_append_right _ (List.mem_append_right _ (List.mem_append_right _ (List.mem_append_right _ (List.mem_append_right _ (List.mem_append_right _ (List.mem_append_right _ (List.mem_append_left _ h)))))))))) (by decide +kernel)) (goodIn_sub (fun w h => (List.mem_cons_of_mem _ (List.mem_append_right _ (List.mem_append_right _ (List.mem_append_right _ (List.mem_append_right _ (List.mem_append_right _ (List.mem_append_right _ (List.mem_append_right _ (List.mem_append_right _ (List.mem_append_left _ h))))))))))) vg_k_showFromSteps)
theorem gd_k_show_94_k_showRowChange : GoodIn vs_k_show (wsV RX8 94 RX8 yX8_showRowChange vs_k_showRowChange) := goodIn_app (goodIn_sub (fun w h => (List.mem_cons_of_mem _ (List.mem_append_right _ (List.mem_append_right _ (List.mem_append_right _ (List.mem_append_right _ (List.mem_append_right _ (List.mem_append_right _ (List.mem_append_right _ (List.mem_append_right _ (List.mem_append_right _ (List.mem_append_left _ h)))))))))))) (by decide +kernel)) (goodIn_sub (fun w h => (List.mem_cons_of_mem _ (List.mem_append_right _ (List.mem_append_right _ (List.mem_append_right _ (List.mem_append_right _ (List.mem_append_right _ (List.mem_append_right _ (List.mem_append_right _ (List.mem_append_right _ (List.mem_append_right _ (List.mem_append_right _ (List.mem_append_left _ h))))))))))))) vg_k_showRowChange)
theorem gd_k_show_83_k_errs : GoodIn vs_k_show (wsV RX8 83 RX8 yX8_errs vs_k_errs) := goodIn_app (goodIn_sub (fun w h => (List.mem_cons_of_mem _ (List.mem_append_right _ (List.mem_append_right _ (List.mem_append_right _ (List.mem_append_right _ (List.mem_append_right _ (List.mem_append_right _ (List.mem_append_right _ (List.mem_append_right _ (List.mem_append_right _ (List.mem_append_right _ (List.mem_append_right _ (List.mem_append_left _ h)))))))))))))) (by decide +kernel)) (goodIn_sub (fun w h => (List.mem_cons_of_mem _ (List.mem_append_right _ (List.mem_append_right _ (List.mem_append_right _ (List.mem_append_right _ (List.mem_append_right _ (List.mem_append_right _ (List.mem_append_right _ (List.mem_append_right _ (List.mem_append_right _ (List.mem_append_right _ (List.mem_append_right _ (List.mem_append_right _ (List.mem_append_left _ h))))))))))))))) vg_k_errs)
set_option maxHeartbeats 4000000 in
set_option maxRecDepth 100000 in
theorem k_show (l : Launch) (dC : Nat → ClassId) (dI : Nat → Nat → Nat) (κ : CE) (sz : Nat) (σ : MS) (x : Int32) (hk : PInv κ) (hI : CInv σ) (hx0 : 0 ≤ x.toInt ∧ x.toInt ≤ 12) : Met l yX8_show vs_k_show rm_k_show (va_Pc [.ref (kA κ 21), .int x] (wSy dC dI (cW κ σ) (cT κ) sz)) (va_Qi (fun (r : Int32) (τ : MS) => CInv τ ∧ ((-1) ≤ r.toInt ∧ r.toInt ≤ 11)) (fun (τ : MS) => wEn dC dI (va_A (cW κ σ) sz) (cW κ τ) []) (va_A (cW κ σ) sz)) 0 0 (va_A (cW κ σ) sz) := by
  refine Met.ofW (cc := cX8_show) (maxL := 5) (ret := (some .int)) (by decide +kernel) rfl ?_
  intro p e s m args below meth c s₁ B hml hv
  obtain ⟨rfl, hsz, hP, hK, hD0, hE⟩ := hv
  have hx := B.exec
  have hb := B.bytes
  have hr := B.returns
  have hts := atoms_spec (ws := vs_k_show) B.pre
  have hown : s.vm.findClass RX8 = some m.cls := findClass_of_methodNamed B.named
  have hlocks := B.notSynchronized
  subst hsz
  have hD := hD0.self (sz := s.heap.size)
  generalize hAe : va_A (cW κ σ) s.heap.size = A at hD ⊢
  have hA : ∀ q : Nat, s.heap.size ≤ q → A q := fun q h => by rw [← hAe]; exact Or.inr h
  have hl := lv_entry ([.ref (kA κ 21), .int x]) (n := 5) (Nat.le_of_ble_eq_true rfl)
  rw [lg_entry_eq]
  generalize (lg_sl ([.ref (kA κ 21), .int x]) ++ List.replicate (5 - (lg_sl ([.ref (kA κ 21), .int x])).length) Slot.unset).toArray = ls at hl ⊢
  have hl : lv_has ls 5 [(0, .ref (kA κ 21)), (1, .int x)] := hl
  have ho := fun w (h : w ∈ ow_k_show) => hts w (List.mem_cons_of_mem _ (List.mem_append_left _ h))
  have hin3 : ∀ w ∈ u_ws RX3 TX3 8, w ∈ vs_k_show := fun w h => (List.mem_cons_of_mem _ (List.mem_append_right _ (List.mem_append_right _ (List.mem_append_right _ (List.mem_append_right _ (List.mem_append_right _ (List.mem_append_right _ (List.mem_append_right _ (List.mem_append_right _ (List.mem_append_right _ (List.mem_append_right _ (List.mem_append_right _ (List.mem_append_right _ (List.mem_append_right _ (List.mem_append_left _ h)))))))))))))))
  have hin8 : ∀ w ∈ u_ws RX8 TX8 9, w ∈ vs_k_show := fun w h => (List.mem_cons_of_mem _ (List.mem_append_right _ (List.mem_append_right _ (List.mem_append_right _ (List.mem_append_right _ (List.mem_append_right _ (List.mem_append_right _ (List.mem_append_right _ (List.mem_append_right _ (List.mem_append_right _ (List.mem_append_right _ (List.mem_append_right _ (List.mem_append_right _ (List.mem_append_right _ (List.mem_append_right _ (List.mem_append_left _ h))))))))))))))))
  have hin9 : ∀ w ∈ u_ws RX9 TX9 11, w ∈ vs_k_show := fun w h => (List.mem_cons_of_mem _ (List.mem_append_right _ (List.mem_append_right _ (List.mem_append_right _ (List.mem_append_right _ (List.mem_append_right _ (List.mem_append_right _ (List.mem_append_right _ (List.mem_append_right _ (List.mem_append_right _ (List.mem_append_right _ (List.mem_append_right _ (List.mem_append_right _ (List.mem_append_right _ (List.mem_append_right _ (List.mem_append_right _ h))))))))))))))))
  refine zQ (fun Q hQ => ?_)
  refine zH (A := A) (ws := (cW κ σ)) (fun H hP hS => ?_) hP
  have hk0 := hk.1
  have hk1 := hk.2.1
  have hk2 := hk.2.2.1
  refine lv_iload_n hx hb dX8_show_0 rfl (lv_at hl 1 rfl) ?_
  refine lv_istore_n (lv' := [(2, .int x), (0, .ref (kA κ 21)), (1, .int x)]) hx hb dX8_show_1 rfl hl (Nat.le_of_ble_eq_true rfl) rfl (fun ls hl => ?_)
  have pt2_ : ∀ (n2_ : Nat) (σ2_ : MS) (v2_ : Int32) (H : Heap) (locs : List Loc) (ls : Array Slot), (12 - v2_.toInt).toNat < n2_ → CInv σ2_ → (0 ≤ v2_.toInt ∧ v2_.toInt ≤ 12) → va_P (dC, dI) vwCl (cW κ σ2_) H → va_D A (cW κ σ2_) → va_S A s.heap H locs → lv_has ls 5 [(2, .int v2_), (0, .ref (kA κ 21))] → W p l e (headSpec vs_k_show rm_k_show).room s m #[Value.ref (kA κ 21), Value.int x] below meth c H locs 0 0 Q (F0 m 2 ls []) := by
    intro n2_
    induction n2_ with
    | zero => intro σ2_ v2_ H locs ls hn2_ hIσ2_ hf2_0_ hP hD hS hl; exact absurd hn2_ (Nat.not_lt_zero _)
    | succ n2_ ih2_ =>
      intro σ2_ v2_ H locs ls hn2_ hIσ2_ hf2_0_ hP hD hS hl
      refine lv_iload_n hx hb dX8_show_2 rfl (lv_at hl 0 rfl) ?_
      refine lv_aload_n hx hb dX8_show_3 rfl (lv_at hl 1 rfl) ?_
      refine va_get (D := (dC, dI)) (ci := 8) (v := .ref (kA κ 6)) (C := RX8) (T := TX8) (N := 9) hx hb hts hin8 hown hK hP 21 rfl rfl 0 (Nat.le_of_ble_eq_true rfl) (ho (.fieldLink RX8 36 "NearEnough$Shown" "told" "LNearEnough$Program;") (List.mem_of_getElem? (i := 0) rfl)) (fun _ h9 => h9) rfl dX8_show_4 ?_
      refine va_get (D := (dC, dI)) (ci := 3) (v := .int (pI κ 1)) (C := RX3) (T := TX3) (N := 8) hx hb hts hin3 hown hK hP 6 rfl rfl 6 (Nat.le_of_ble_eq_true rfl) (ho (.fieldLink RX8 63 "NearEnough$Program" "stepCount" "I") (List.mem_of_getElem? (i := 1) rfl)) (fun _ h9 => h9) rfl dX8_show_7 ?_
      refine lv_icmp_ge (tgt := 163) hx hb dX8_show_10 rfl (fun c1_ => ?_) (fun c1_ => ?_)
      · have tc1_ := (show (pI κ 1).toInt ≤ v2_.toInt from ti_le rfl rfl c1_)
        refine lv_iconst (v := (-1)) hx hb dX8_show_163 rg_53 ?_
        have kk2_ : ((-1) : Int32).toInt = (-1) := rg_489
        have o1 : (-1) ≤ (-1 : Int32).toInt := by omega
        have o2 : (-1 : Int32).toInt ≤ 11 := by omega
        rw [hQ]
        exact W.iret (v := (-1)) hx hb hr (fun t ht hW => ⟨⟨(-1), σ2_, rfl, ⟨hIσ2_, ⟨o1, o2⟩⟩, wEn_of hP (hK.sub [] rfl) hD ht hW⟩, hS.F ht⟩) hS.2.2 dX8_show_164
      · have tc1_ := (show v2_.toInt < (pI κ 1).toInt from ti_nle rfl rfl c1_)
        refine lv_aload_n hx hb dX8_show_13 rfl (lv_at hl 1 rfl) ?_
        refine va_get (D := (dC, dI)) (ci := 8) (v := .ref (kA κ 6)) (C := RX8) (T := TX8) (N := 9) hx hb hts hin8 hown hK hP 21 rfl rfl 0 (Nat.le_of_ble_eq_true rfl) (ho (.fieldLink RX8 36 "NearEnough$Shown" "told" "LNearEnough$Program;") (List.mem_of_getElem? (i := 0) rfl)) (fun _ h9 => h9) rfl dX8_show_14 ?_
        refine va_get (D := (dC, dI)) (ci := 3) (v := .ref (kA κ 8)) (C := RX3) (T := TX3) (N := 8) hx hb hts hin3 hown hK hP 6 rfl rfl 1 (Nat.le_of_ble_eq_true rfl) (ho (.fieldLink RX8 68 "NearEnough$Program" "steps" "[LNearEnough$Step;") (List.mem_of_getElem? (i := 2) rfl)) (fun _ h9 => h9) rfl dX8_show_17 ?_
        refine lv_iload_n hx hb dX8_show_20 rfl (lv_at hl 0 rfl) ?_
        have o3 : 0 ≤ v2_.toInt := by omega
        have o4 : v2_.toInt < ((12 : Nat) : Int) := by omega
        refine va_aldq hx hb hK hP 8 6 rfl rfl (ti_inx o3 o4) dX8_show_21 ?_
        have o5 : v2_.toInt < (pI κ 1).toInt := by omega
        obtain ⟨a3_, t4_, ea5_, ga6_⟩ := hk.st (x := v2_) o3 o5
        refine zv (v := .ref a3_) (by rw [ea5_]; rfl) ?_
        refine lv_astore_n (lv' := [(3, .ref a3_), (2, .int v2_), (0, .ref (kA κ 21))]) hx hb dX8_show_22 rfl hl (Nat.le_of_ble_eq_true rfl) rfl (fun ls hl => ?_)
        refine lv_aload_n hx hb dX8_show_23 rfl (lv_at hl 2 rfl) ?_
        refine va_get (D := (dC, dI)) (ci := 8) (v := .ref (kA κ 15)) (C := RX8) (T := TX8) (N := 9) hx hb hts hin8 hown hK hP 21 rfl rfl 1 (Nat.le_of_ble_eq_true rfl) (ho (.fieldLink RX8 40 "NearEnough$Shown" "changes" "LNearEnough$Changes;") (List.mem_of_getElem? (i := 3) rfl)) (fun _ h9 => h9) rfl dX8_show_24 ?_
        refine lv_iload_n hx hb dX8_show_27 rfl (lv_at hl 1 rfl) ?_
        have o6 : v2_.toInt ≤ 11 := by omega
        refine zy_i (va_runV (As := [.int v2_]) (rest := []) ⟨hx, hb, hml, hown, hts⟩ (k_kindAt l dC dI κ H.size σ2_ v2_ hk hIσ2_ ⟨o3, o6⟩) (cwV 1 hts gd_k_show_72_k_kindAt rfl rfl rfl dd_k_kindAt ⟨Nat.le_of_ble_eq_true rfl, Nat.le_of_ble_eq_true rfl⟩) (preVy hP hK hD hE (ci := 0) (q0 := 15) rfl rfl) rfl rfl hl.1 rfl (lv_room (Nat.le_of_ble_eq_true rfl)) dX8_show_28 ⟨Nat.le_of_ble_eq_true rfl, Nat.le_of_ble_eq_true rfl⟩) hD hS hA (fun z7_ τ8_ H locs hq hP hD hS => ?_)
        obtain ⟨hτ8_, q9_⟩ := hq
        rw [hτ8_] at hP hD
        refine W.widen (k := 0) (n := 0) (Nat.le_of_ble_eq_true rfl) (Nat.le_of_ble_eq_true rfl) ?_
        refine lv_istore (lv' := [(4, .int z7_), (3, .ref a3_), (2, .int v2_), (0, .ref (kA κ 21))]) hx hb dX8_show_31 hl (Nat.le_of_ble_eq_true rfl) rfl (fun ls hl => ?_)
        have pt61_ : ∀ (H : Heap) (locs : List Loc) (ls : Array Slot), va_P (dC, dI) vwCl (cW κ σ2_) H → va_D A (cW κ σ2_) → va_S A s.heap H locs → lv_has ls 5 [(4, .int z7_), (3, .ref a3_), (2, .int v2_), (0, .ref (kA κ 21))] → W p l e (headSpec vs_k_show rm_k_show).room s m #[Value.ref (kA κ 21), Value.int x] below meth c H locs 0 0 Q (F0 m 61 ls []) := by
          intro H locs ls hP hD hS hl
          refine lv_aload_n hx hb dX8_show_61 rfl (lv_at hl 3 rfl) ?_
          refine lv_lconst (v := 0) hx hb dX8_show_62 (by decide) ?_
          refine va_put (D := (dC, dI)) (ci := 8) (v := .long 0) (ty := tyX8 4) (C := RX8) (T := TX8) (N := 9) hx hb hts hin8 tyX8 tyX8_ok nmX8 hown hK hP hD hS 21 rfl rfl 4 (Nat.le_of_ble_eq_true rfl) (ho (.fieldLink RX8 18 "NearEnough$Shown" "least" "J") (List.mem_of_getElem? (i := 4) rfl)) (fun _ h9 => h9) rfl (tyX8_ok 4 (Nat.le_of_ble_eq_true rfl)) rfl rfl (Nat.le_of_ble_eq_true rfl) dX8_show_63 (fun H locs hP hD hS => ?_)
          have hP : va_P (dC, dI) vwCl (cW κ (sL σ2_ 22 0)) H := hP
          have hD : va_D A (cW κ (sL σ2_ 22 0)) := hD
          refine lv_aload_n hx hb dX8_show_66 rfl (lv_at hl 3 rfl) ?_
          refine lv_lconst (v := 0) hx hb dX8_show_67 (by decide) ?_
          refine va_put (D := (dC, dI)) (ci := 8) (v := .long 0) (ty := tyX8 5) (C := RX8) (T := TX8) (N := 9) hx hb hts hin8 tyX8 tyX8_ok nmX8 hown hK hP hD hS 21 rfl rfl 5 (Nat.le_of_ble_eq_true rfl) (ho (.fieldLink RX8 22 "NearEnough$Shown" "greatest" "J") (List.mem_of_getElem? (i := 5) rfl)) (fun _ h9 => h9) rfl (tyX8_ok 5 (Nat.le_of_ble_eq_true rfl)) rfl rfl (Nat.le_of_ble_eq_true rfl) dX8_show_68 (fun H locs hP hD hS => ?_)
          have hP : va_P (dC, dI) vwCl (cW κ (sL (sL σ2_ 22 0) 23 0)) H := hP
          have hD : va_D A (cW κ (sL (sL σ2_ 22 0) 23 0)) := hD
          have pt98_ : ∀ (σ98_ : MS) (H : Heap) (locs : List Loc) (ls : Array Slot), CInv σ98_ → va_P (dC, dI) vwCl (cW κ σ98_) H → va_D A (cW κ σ98_) → va_S A s.heap H locs → lv_has ls 5 [(4, .int z7_), (3, .ref a3_), (2, .int v2_), (0, .ref (kA κ 21))] → W p l e (headSpec vs_k_show rm_k_show).room s m #[Value.ref (kA κ 21), Value.int x] below meth c H locs 0 0 Q (F0 m 98 ls []) := by
            intro σ98_ H locs ls hIσ98_ hP hD hS hl
            refine lv_aload_n hx hb dX8_show_98 rfl (lv_at hl 3 rfl) ?_
            refine lv_aload_n hx hb dX8_show_99 rfl (lv_at hl 1 rfl) ?_
            refine lv_iload hx hb dX8_show_100 (lv_at hl 0 rfl) ?_
            refine lv_aload_n hx hb dX8_show_102 rfl (lv_at hl 3 rfl) ?_
            refine va_get (D := (dC, dI)) (ci := 8) (v := .ref (kA κ 15)) (C := RX8) (T := TX8) (N := 9) hx hb hts hin8 hown hK hP 21 rfl rfl 1 (Nat.le_of_ble_eq_true rfl) (ho (.fieldLink RX8 40 "NearEnough$Shown" "changes" "LNearEnough$Changes;") (List.mem_of_getElem? (i := 3) rfl)) (fun _ h9 => h9) rfl dX8_show_103 ?_
            refine lv_iload_n hx hb dX8_show_106 rfl (lv_at hl 2 rfl) ?_
            refine zy_i (va_runV (As := [.int v2_]) (rest := [.int z7_, .ref a3_, .ref (kA κ 21)]) ⟨hx, hb, hml, hown, hts⟩ (k_nAt l dC dI κ H.size σ98_ v2_ hk hIσ98_ ⟨o3, o6⟩) (cwV 1 hts gd_k_show_98_k_nAt rfl rfl rfl dd_k_nAt ⟨Nat.le_of_ble_eq_true rfl, Nat.le_of_ble_eq_true rfl⟩) (preVy hP hK hD hE (ci := 0) (q0 := 15) rfl rfl) rfl rfl hl.1 rfl (lv_room (Nat.le_of_ble_eq_true rfl)) dX8_show_107 ⟨Nat.le_of_ble_eq_true rfl, Nat.le_of_ble_eq_true rfl⟩) hD hS hA (fun z10_ τ11_ H locs hq hP hD hS => ?_)
            obtain ⟨hτ11_, q12_⟩ := hq
            rw [hτ11_] at hP hD
            have q12_ : 0 ≤ z10_.toInt ∧ z10_.toInt ≤ 99 := q12_
            refine W.widen (k := 0) (n := 0) (Nat.le_of_ble_eq_true rfl) (Nat.le_of_ble_eq_true rfl) ?_
            refine zy_v (va_runV (As := [.ref a3_, .int z7_, .int z10_]) (rest := []) ⟨hx, hb, hml, hown, hts⟩ (k_showChange l dC dI κ H.size σ98_ a3_ t4_ ga6_ z7_ z10_ hk hIσ98_ ) (cwV 3 hts gd_k_show_101_k_showChange rfl rfl rfl dd_k_showChange ⟨Nat.le_of_ble_eq_true rfl, Nat.le_of_ble_eq_true rfl⟩) (preVy hP hK hD hE (ci := 8) (q0 := 21) rfl rfl) rfl rfl hl.1 rfl (lv_room (Nat.le_of_ble_eq_true rfl)) dX8_show_110 ⟨Nat.le_of_ble_eq_true rfl, Nat.le_of_ble_eq_true rfl⟩) hD hS hA (fun τ14_ H locs hq hP hD hS => ?_)
            obtain ⟨hτ14_, q15_⟩ := hq
            refine W.widen (k := 0) (n := 0) (Nat.le_of_ble_eq_true rfl) (Nat.le_of_ble_eq_true rfl) ?_
            refine lv_aload_n hx hb dX8_show_113 rfl (lv_at hl 3 rfl) ?_
            refine va_get (D := (dC, dI)) (ci := 8) (v := .long (τ14_.2.2.2 22)) (C := RX8) (T := TX8) (N := 9) hx hb hts hin8 hown hK hP 21 rfl rfl 4 (Nat.le_of_ble_eq_true rfl) (ho (.fieldLink RX8 18 "NearEnough$Shown" "least" "J") (List.mem_of_getElem? (i := 4) rfl)) (fun _ h9 => h9) rfl dX8_show_114 ?_
            refine lv_ldc2 (v := (-1000000000)) hx hb hown (ho (.constantLong RX8 105 (-1000000000)) (List.mem_of_getElem? (i := 6) rfl)) dX8_show_117 ?_
            refine W.lcmp hx hb dX8_show_120 ?_
            refine lv_topi (fun z16_ ez16_ => ?_)
            refine lv_if_lt (tgt := 135) hx hb dX8_show_121 rfl (fun c17_ => ?_) (fun c17_ => ?_)
            · have tc17_ := (show z16_.toInt < 0 from ti_lt rfl rg_11 c17_)
              have lc17_ : (τ14_.2.2.2 22) < (-1000000000) := (lg_cmp_lt (τ14_.2.2.2 22) (-1000000000)).mp (by rw [← ez16_]; exact c17_)
              refine lv_iload_n hx hb dX8_show_135 rfl (lv_at hl 2 rfl) ?_
              have o7 : (-1) ≤ v2_.toInt := by omega
              rw [hQ]
              exact W.iret (v := v2_) hx hb hr (fun t ht hW => ⟨⟨v2_, τ14_, rfl, ⟨hτ14_, ⟨o7, o6⟩⟩, wEn_of hP (hK.sub [] rfl) hD ht hW⟩, hS.F ht⟩) hS.2.2 dX8_show_136
            · have tc17_ := (show 0 ≤ z16_.toInt from ti_nlt rfl rg_11 c17_)
              have lc17_ : ¬ (τ14_.2.2.2 22) < (-1000000000) := fun h => c17_ (by rw [ez16_]; exact (lg_cmp_lt (τ14_.2.2.2 22) (-1000000000)).mpr h)
              refine lv_aload_n hx hb dX8_show_124 rfl (lv_at hl 3 rfl) ?_
              refine va_get (D := (dC, dI)) (ci := 8) (v := .long (τ14_.2.2.2 23)) (C := RX8) (T := TX8) (N := 9) hx hb hts hin8 hown hK hP 21 rfl rfl 5 (Nat.le_of_ble_eq_true rfl) (ho (.fieldLink RX8 22 "NearEnough$Shown" "greatest" "J") (List.mem_of_getElem? (i := 5) rfl)) (fun _ h9 => h9) rfl dX8_show_125 ?_
              refine lv_ldc2 (v := (1000000000)) hx hb hown (ho (.constantLong RX8 107 (1000000000)) (List.mem_of_getElem? (i := 7) rfl)) dX8_show_128 ?_
              refine W.lcmp hx hb dX8_show_131 ?_
              refine lv_topi (fun z18_ ez18_ => ?_)
              refine lv_if_le (tgt := 137) hx hb dX8_show_132 rfl (fun c19_ => ?_) (fun c19_ => ?_)
              · have tc19_ := (show z18_.toInt ≤ 0 from ti_le rfl rg_11 c19_)
                have lc19_ : (τ14_.2.2.2 23) ≤ 1000000000 := (lg_cmp_le (τ14_.2.2.2 23) 1000000000).mp (by rw [← ez18_]; exact c19_)
                refine lv_aload_n hx hb dX8_show_137 rfl (lv_at hl 3 rfl) ?_
                refine va_get (D := (dC, dI)) (ci := 8) (v := .ref (kA κ 22)) (C := RX8) (T := TX8) (N := 9) hx hb hts hin8 hown hK hP 21 rfl rfl 2 (Nat.le_of_ble_eq_true rfl) (ho (.fieldLink RX8 9 "NearEnough$Shown" "low" "[J") (List.mem_of_getElem? (i := 8) rfl)) (fun _ h9 => h9) rfl dX8_show_138 ?_
                refine lv_iload_n hx hb dX8_show_141 rfl (lv_at hl 2 rfl) ?_
                refine lv_aload_n hx hb dX8_show_142 rfl (lv_at hl 3 rfl) ?_
                refine va_get (D := (dC, dI)) (ci := 8) (v := .long (τ14_.2.2.2 22)) (C := RX8) (T := TX8) (N := 9) hx hb hts hin8 hown hK hP 21 rfl rfl 4 (Nat.le_of_ble_eq_true rfl) (ho (.fieldLink RX8 18 "NearEnough$Shown" "least" "J") (List.mem_of_getElem? (i := 4) rfl)) (fun _ h9 => h9) rfl dX8_show_143 ?_
                refine va_last hx hb hK hP hD hS 22 17 rfl rfl (ti_inx o3 o4) dX8_show_146 (fun H locs hP hD hS => ?_)
                obtain ⟨f20_, ef20_⟩ : ∃ f9 : Nat → Int64, f9 = vp_updL (τ14_.2.2.1 20) (Int32.toNatClampNeg v2_) (τ14_.2.2.2 22) := ⟨_, rfl⟩
                have hP : va_P (dC, dI) vwCl (cW κ (sJ τ14_ 20 f20_)) H := by rw [ef20_]; exact hP
                have hD : va_D A (cW κ (sJ τ14_ 20 f20_)) := by rw [ef20_]; exact hD
                refine lv_aload_n hx hb dX8_show_147 rfl (lv_at hl 3 rfl) ?_
                refine va_get (D := (dC, dI)) (ci := 8) (v := .ref (kA κ 23)) (C := RX8) (T := TX8) (N := 9) hx hb hts hin8 hown hK hP 21 rfl rfl 3 (Nat.le_of_ble_eq_true rfl) (ho (.fieldLink RX8 15 "NearEnough$Shown" "high" "[J") (List.mem_of_getElem? (i := 9) rfl)) (fun _ h9 => h9) rfl dX8_show_148 ?_
                refine lv_iload_n hx hb dX8_show_151 rfl (lv_at hl 2 rfl) ?_
                refine lv_aload_n hx hb dX8_show_152 rfl (lv_at hl 3 rfl) ?_
                refine va_get (D := (dC, dI)) (ci := 8) (v := .long (τ14_.2.2.2 23)) (C := RX8) (T := TX8) (N := 9) hx hb hts hin8 hown hK hP 21 rfl rfl 5 (Nat.le_of_ble_eq_true rfl) (ho (.fieldLink RX8 22 "NearEnough$Shown" "greatest" "J") (List.mem_of_getElem? (i := 5) rfl)) (fun _ h9 => h9) rfl dX8_show_153 ?_
                refine va_last hx hb hK hP hD hS 23 18 rfl rfl (ti_inx o3 o4) dX8_show_156 (fun H locs hP hD hS => ?_)
                obtain ⟨f21_, ef21_⟩ : ∃ f9 : Nat → Int64, f9 = vp_updL ((sJ τ14_ 20 f20_).2.2.1 21) (Int32.toNatClampNeg v2_) (τ14_.2.2.2 23) := ⟨_, rfl⟩
                have hP : va_P (dC, dI) vwCl (cW κ (sJ (sJ τ14_ 20 f20_) 21 f21_)) H := by rw [ef21_]; exact hP
                have hD : va_D A (cW κ (sJ (sJ τ14_ 20 f20_) 21 f21_)) := by rw [ef21_]; exact hD
                obtain ⟨z22_, ez22_⟩ : ∃ y : Int32, y = v2_ + 1 := ⟨_, rfl⟩
                have o8 : -2147483648 ≤ v2_.toInt + 1 := by omega
                have o9 : v2_.toInt + 1 ≤ 2147483647 := by omega
                have tz22_ := ti_add ez22_ rfl rg_18 o8 o9
                refine lv_iinc (v := z22_) (lv' := [(2, .int z22_), (4, .int z7_), (3, .ref a3_), (0, .ref (kA κ 21))]) hx hb dX8_show_157 hl (k := 2) rfl (iincp ez22_ rg_6) (Nat.le_of_ble_eq_true rfl) rfl (fun ls hl => ?_)
                refine lv_goto (tgt := 2) hx hb dX8_show_160 rfl ?_
                have o10 : (12 - z22_.toInt).toNat < n2_ := by omega
                have o11 : 0 ≤ z22_.toInt := by omega
                have o12 : z22_.toInt ≤ 12 := by omega
                exact ih2_ (sJ (sJ τ14_ 20 f20_) 21 f21_) z22_ _ _ _ o10 (CInv.sJ (CInv.sJ hτ14_)) ⟨o11, o12⟩ hP hD hS (lv_sub hl [0, 3] rfl)
              · have tc19_ := (show 0 < z18_.toInt from ti_nle rfl rg_11 c19_)
                have lc19_ : ¬ (τ14_.2.2.2 23) ≤ 1000000000 := fun h => c19_ (by rw [ez18_]; exact (lg_cmp_le (τ14_.2.2.2 23) 1000000000).mpr h)
                refine lv_iload_n hx hb dX8_show_135 rfl (lv_at hl 2 rfl) ?_
                have o13 : (-1) ≤ v2_.toInt := by omega
                rw [hQ]
                exact W.iret (v := v2_) hx hb hr (fun t ht hW => ⟨⟨v2_, τ14_, rfl, ⟨hτ14_, ⟨o13, o6⟩⟩, wEn_of hP (hK.sub [] rfl) hD ht hW⟩, hS.F ht⟩) hS.2.2 dX8_show_136
          refine lv_aload_n hx hb dX8_show_71 rfl (lv_at hl 1 rfl) ?_
          obtain ⟨kp23_, hkp23_⟩ := cpl (κ := κ) (σ := (sL (sL σ2_ 22 0) 23 0)) ga6_.1 ga6_.2.1
          refine va_get (D := (dC, dI)) (ci := 9) (v := va_rf t4_.2.2) (C := RX9) (T := TX9) (N := 11) hx hb hts hin9 hown hK hP kp23_ hkp23_ rfl 2 (Nat.le_of_ble_eq_true rfl) (ho (.fieldLink RX8 86 "NearEnough$Step" "row" "LNearEnough$Row;") (List.mem_of_getElem? (i := 10) rfl)) (fun _ h9 => h9) rfl dX8_show_72 ?_
          rcases er25_ : t4_.2.2 with _ | r24_
          · refine zv (v := .null) rfl ?_
            have na3_ := er25_
            refine lv_ifnonnullN hx hb dX8_show_75 ?_
            refine lv_aload_n hx hb dX8_show_78 rfl (lv_at hl 3 rfl) ?_
            refine lv_aload_n hx hb dX8_show_79 rfl (lv_at hl 1 rfl) ?_
            refine zy_v (va_runV (As := [.ref a3_]) (rest := []) ⟨hx, hb, hml, hown, hts⟩ (k_showFromSteps l dC dI κ H.size (sL (sL σ2_ 22 0) 23 0) a3_ t4_ ga6_ hk (CInv.sL (CInv.sL hIσ2_)) ) (cwV 1 hts gd_k_show_90_k_showFromSteps rfl rfl rfl dd_k_showFromSteps ⟨Nat.le_of_ble_eq_true rfl, Nat.le_of_ble_eq_true rfl⟩) (preVy hP hK hD hE (ci := 8) (q0 := 21) rfl rfl) rfl rfl hl.1 rfl (lv_room (Nat.le_of_ble_eq_true rfl)) dX8_show_80 ⟨Nat.le_of_ble_eq_true rfl, Nat.le_of_ble_eq_true rfl⟩) hD hS hA (fun τ27_ H locs hq hP hD hS => ?_)
            obtain ⟨hτ27_, q28_⟩ := hq
            refine W.widen (k := 0) (n := 0) (Nat.le_of_ble_eq_true rfl) (Nat.le_of_ble_eq_true rfl) ?_
            refine lv_goto (tgt := 98) hx hb dX8_show_83 rfl ?_
            exact pt98_ τ27_  _ _ _ hτ27_ hP hD hS (lv_sub hl [0, 1, 2, 3] rfl)
          · refine zv (v := .ref r24_) rfl ?_
            obtain ⟨u29_, gu29_⟩ := ga6_.2.2.2 r24_ er25_
            refine lv_ifnonnull (tgt := 86) hx hb dX8_show_75 rfl ?_
            refine lv_aload_n hx hb dX8_show_86 rfl (lv_at hl 3 rfl) ?_
            refine lv_aload_n hx hb dX8_show_87 rfl (lv_at hl 1 rfl) ?_
            refine lv_aload_n hx hb dX8_show_88 rfl (lv_at hl 1 rfl) ?_
            obtain ⟨kp30_, hkp30_⟩ := cpl (κ := κ) (σ := (sL (sL σ2_ 22 0) 23 0)) ga6_.1 ga6_.2.1
            refine va_get (D := (dC, dI)) (ci := 9) (v := va_rf t4_.2.2) (C := RX9) (T := TX9) (N := 11) hx hb hts hin9 hown hK hP kp30_ hkp30_ rfl 2 (Nat.le_of_ble_eq_true rfl) (ho (.fieldLink RX8 86 "NearEnough$Step" "row" "LNearEnough$Row;") (List.mem_of_getElem? (i := 10) rfl)) (fun _ h9 => h9) rfl dX8_show_89 ?_
            refine zv (v := .ref r24_) (by rw [er25_]; rfl) ?_
            refine lv_iload hx hb dX8_show_92 (lv_at hl 0 rfl) ?_
            refine lv_iload_n hx hb dX8_show_94 rfl (lv_at hl 2 rfl) ?_
            refine zy_v (va_runV (As := [.ref a3_, .ref r24_, .int z7_, .int v2_]) (rest := []) ⟨hx, hb, hml, hown, hts⟩ (k_showRowChange l dC dI κ H.size (sL (sL σ2_ 22 0) 23 0) a3_ t4_ ga6_ r24_ u29_ gu29_ z7_ v2_ hk (CInv.sL (CInv.sL hIσ2_)) ⟨o3, o6⟩) (cwV 4 hts gd_k_show_94_k_showRowChange rfl rfl rfl dd_k_showRowChange ⟨Nat.le_of_ble_eq_true rfl, Nat.le_of_ble_eq_true rfl⟩) (preVy hP hK hD hE (ci := 8) (q0 := 21) rfl rfl) rfl rfl hl.1 rfl (lv_room (Nat.le_of_ble_eq_true rfl)) dX8_show_95 ⟨Nat.le_of_ble_eq_true rfl, Nat.le_of_ble_eq_true rfl⟩) hD hS hA (fun τ32_ H locs hq hP hD hS => ?_)
            obtain ⟨hτ32_, q33_⟩ := hq
            refine W.widen (k := 0) (n := 0) (Nat.le_of_ble_eq_true rfl) (Nat.le_of_ble_eq_true rfl) ?_
            exact pt98_ τ32_  _ _ _ hτ32_ hP hD hS (lv_sub hl [0, 1, 2, 3] rfl)
        refine lv_aload_n hx hb dX8_show_33 rfl (lv_at hl 1 rfl) ?_
        obtain ⟨kp34_, hkp34_⟩ := cpl (κ := κ) (σ := σ2_) ga6_.1 ga6_.2.1
        refine va_get (D := (dC, dI)) (ci := 9) (v := .int (t4_.1 0)) (C := RX9) (T := TX9) (N := 11) hx hb hts hin9 hown hK hP kp34_ hkp34_ rfl 0 (Nat.le_of_ble_eq_true rfl) (ho (.fieldLink RX8 75 "NearEnough$Step" "kind" "I") (List.mem_of_getElem? (i := 11) rfl)) (fun _ h9 => h9) rfl dX8_show_34 ?_
        refine lv_bipush (v := 6) hx hb dX8_show_37 rg_55 ?_
        refine lv_icmp_ne (tgt := 61) hx hb dX8_show_39 rfl (fun c35_ => ?_) (fun c35_ => ?_)
        · have tc35_ := (show (t4_.1 0).toInt ≠ 6 from ti_ne rfl rg_70 c35_)
          exact pt61_   _ _ _  hP hD hS (lv_sub hl [0, 1, 2, 3] rfl)
        · have tc35_ := (show (t4_.1 0).toInt = 6 from ti_eq rfl rg_70 c35_)
          refine lv_iload hx hb dX8_show_42 (lv_at hl 0 rfl) ?_
          refine lv_iconst (v := 4) hx hb dX8_show_44 rg_31 ?_
          refine lv_icmp_eq (tgt := 61) hx hb dX8_show_45 rfl (fun c36_ => ?_) (fun c36_ => ?_)
          · have tc36_ := (show z7_.toInt = 4 from ti_eq rfl rg_32 c36_)
            exact pt61_   _ _ _  hP hD hS (lv_sub hl [0, 1, 2, 3] rfl)
          · have tc36_ := (show z7_.toInt ≠ 4 from ti_ne rfl rg_32 c36_)
            refine lv_aload_n hx hb dX8_show_48 rfl (lv_at hl 3 rfl) ?_
            refine lv_aload_n hx hb dX8_show_49 rfl (lv_at hl 1 rfl) ?_
            have bb37_ := ga6_.2.2.1 1 rx_cd17d5a19c rx_be9bb8ec2b
            obtain ⟨kp38_, hkp38_⟩ := cpl (κ := κ) (σ := σ2_) ga6_.1 ga6_.2.1
            refine va_get (D := (dC, dI)) (ci := 9) (v := .int (t4_.1 1)) (C := RX9) (T := TX9) (N := 11) hx hb hts hin9 hown hK hP kp38_ hkp38_ rfl 3 (Nat.le_of_ble_eq_true rfl) (ho (.fieldLink RX8 80 "NearEnough$Step" "a" "I") (List.mem_of_getElem? (i := 12) rfl)) (fun _ h9 => h9) rfl dX8_show_50 ?_
            have o14 : 0 ≤ ((t4_.1 1)).toInt := by omega
            have o15 : ((t4_.1 1)).toInt ≤ 11 := by omega
            refine zy_i (va_runV (As := [.int (t4_.1 1)]) (rest := []) ⟨hx, hb, hml, hown, hts⟩ (k_errs l dC dI κ H.size σ2_ (t4_.1 1) hk hIσ2_ ⟨o14, o15⟩) (cwV 1 hts gd_k_show_83_k_errs rfl rfl rfl dd_k_errs ⟨Nat.le_of_ble_eq_true rfl, Nat.le_of_ble_eq_true rfl⟩) (preVy hP hK hD hE (ci := 8) (q0 := 21) rfl rfl) rfl rfl hl.1 rfl (lv_room (Nat.le_of_ble_eq_true rfl)) dX8_show_53 ⟨Nat.le_of_ble_eq_true rfl, Nat.le_of_ble_eq_true rfl⟩) hD hS hA (fun z39_ τ40_ H locs hq hP hD hS => ?_)
            obtain ⟨hτ40_, q41_⟩ := hq
            rw [hτ40_] at hP hD
            have q41_ : z39_.toInt = 0 ∨ z39_.toInt = 1 := q41_
            refine W.widen (k := 0) (n := 0) (Nat.le_of_ble_eq_true rfl) (Nat.le_of_ble_eq_true rfl) ?_
            refine lv_if_eq (tgt := 61) hx hb dX8_show_56 rfl (fun c42_ => ?_) (fun c42_ => ?_)
            · have tc42_ := (show z39_.toInt = 0 from ti_eq rfl rg_11 c42_)
              exact pt61_   _ _ _  hP hD hS (lv_sub hl [0, 1, 2, 3] rfl)
            · have tc42_ := (show z39_.toInt ≠ 0 from ti_ne rfl rg_11 c42_)
              refine lv_iload_n hx hb dX8_show_59 rfl (lv_at hl 2 rfl) ?_
              have o16 : (-1) ≤ v2_.toInt := by omega
              rw [hQ]
              exact W.iret (v := v2_) hx hb hr (fun t ht hW => ⟨⟨v2_, σ2_, rfl, ⟨hIσ2_, ⟨o16, o6⟩⟩, wEn_of hP (hK.sub [] rfl) hD ht hW⟩, hS.F ht⟩) hS.2.2 dX8_show_60
  have o17 : 0 ≤ x.toInt := by omega
  have o18 : x.toInt ≤ 12 := by omega
  exact pt2_ _ σ x _ _ _ (Nat.lt_succ_self _) hI ⟨o17, o18⟩ hP hD hS (lv_sub hl [0, 1] rfl)
def ow_k_restart : List Cond := [.fieldLink RX8 40 "NearEnough$Shown" "changes" "LNearEnough$Changes;", .fieldLink RX8 25 "NearEnough$Shown" "walking" "Z"]
def vs_k_restart : List Cond := .code yX8_restart cX8_restart 1 none :: (ow_k_restart ++ (([.methodLink RX8 44 yX0_take, .instanceMethod yX0_take, .selects RX0 yX0_take yX0_take, .initialized RX0] : List Cond) ++ (vs_k_take ++ (wsX80))))
theorem vg_k_restart : vs_k_restart.all goodWord = true := by decide +kernel
theorem dd_k_restart : yX8_restart.cls = RX8 ∧ yX8_restart.cls ≠ "java/lang/invoke/MethodHandle" ∧ yX8_restart.cls ≠ "java/lang/invoke/VarHandle" ∧ (parseMethodDescriptor yX8_restart.desc).map (fun d => d.parameters.length) = some 0 := by decide +kernel
def rm_k_restart : Room := { frames := 2, cells := 0, slots := 0, locals := 45 }
theorem gd_k_restart_44_k_take : GoodIn vs_k_restart (wsV RX8 44 RX0 yX0_take vs_k_take) := goodIn_app (goodIn_sub (fun w h => (List.mem_cons_of_mem _ (List.mem_append_right _ (List.mem_append_left _ h)))) (by decide +kernel)) (goodIn_sub (fun w h => (List.mem_cons_of_mem _ (List.mem_append_right _ (List.mem_append_right _ (List.mem_append_left _ h))))) vg_k_take)
set_option maxHeartbeats 4000000 in
set_option maxRecDepth 100000 in
theorem k_restart (l : Launch) (dC : Nat → ClassId) (dI : Nat → Nat → Nat) (κ : CE) (sz : Nat) (σ : MS) (hk : PInv κ) (hI : CInv σ)  : Met l yX8_restart vs_k_restart rm_k_restart (va_Pc [.ref (kA κ 21)] (wSy dC dI (cW κ σ) (cT κ) sz)) (va_Qv (fun (τ : MS) => CInv τ ∧ True) (fun (τ : MS) => wEn dC dI (va_A (cW κ σ) sz) (cW κ τ) []) (va_A (cW κ σ) sz)) 0 0 (va_A (cW κ σ) sz) := by
  refine Met.ofW (cc := cX8_restart) (maxL := 1) (ret := none) (by decide +kernel) rfl ?_
  intro p e s m args below meth c s₁ B hml hv
  obtain ⟨rfl, hsz, hP, hK, hD0, hE⟩ := hv
  have hx := B.exec
  have hb := B.bytes
  have hr := B.returns
  have hts := atoms_spec (ws := vs_k_restart) B.pre
  have hown : s.vm.findClass RX8 = some m.cls := findClass_of_methodNamed B.named
  have hlocks := B.notSynchronized
  subst hsz
  have hD := hD0.self (sz := s.heap.size)
  generalize hAe : va_A (cW κ σ) s.heap.size = A at hD ⊢
  have hA : ∀ q : Nat, s.heap.size ≤ q → A q := fun q h => by rw [← hAe]; exact Or.inr h
  have hl := lv_entry ([.ref (kA κ 21)]) (n := 1) (Nat.le_of_ble_eq_true rfl)
  rw [lg_entry_eq]
  generalize (lg_sl ([.ref (kA κ 21)]) ++ List.replicate (1 - (lg_sl ([.ref (kA κ 21)])).length) Slot.unset).toArray = ls at hl ⊢
  have hl : lv_has ls 1 [(0, .ref (kA κ 21))] := hl
  have ho := fun w (h : w ∈ ow_k_restart) => hts w (List.mem_cons_of_mem _ (List.mem_append_left _ h))
  have hin8 : ∀ w ∈ u_ws RX8 TX8 9, w ∈ vs_k_restart := fun w h => (List.mem_cons_of_mem _ (List.mem_append_right _ (List.mem_append_right _ (List.mem_append_right _ h))))
  refine zQ (fun Q hQ => ?_)
  refine zH (A := A) (ws := (cW κ σ)) (fun H hP hS => ?_) hP
  have hk0 := hk.1
  have hk1 := hk.2.1
  have hk2 := hk.2.2.1
  refine lv_aload_n hx hb dX8_restart_0 rfl (lv_at hl 0 rfl) ?_
  refine va_get (D := (dC, dI)) (ci := 8) (v := .ref (kA κ 15)) (C := RX8) (T := TX8) (N := 9) hx hb hts hin8 hown hK hP 21 rfl rfl 1 (Nat.le_of_ble_eq_true rfl) (ho (.fieldLink RX8 40 "NearEnough$Shown" "changes" "LNearEnough$Changes;") (List.mem_of_getElem? (i := 0) rfl)) (fun _ h9 => h9) rfl dX8_restart_1 ?_
  refine lv_iconst (v := 0) hx hb dX8_restart_4 rg_0 ?_
  have kk1_ : (0 : Int32).toInt = 0 := rg_11
  refine zy_i (va_runV (As := [.int 0]) (rest := []) ⟨hx, hb, hml, hown, hts⟩ (k_take l dC dI κ H.size σ 0 hk hI ) (cwV 1 hts gd_k_restart_44_k_take rfl rfl rfl dd_k_take ⟨Nat.le_of_ble_eq_true rfl, Nat.le_of_ble_eq_true rfl⟩) (preVy hP hK hD hE (ci := 0) (q0 := 15) rfl rfl) rfl rfl hl.1 rfl (lv_room (Nat.le_of_ble_eq_true rfl)) dX8_restart_5 ⟨Nat.le_of_ble_eq_true rfl, Nat.le_of_ble_eq_true rfl⟩) hD hS hA (fun z2_ τ3_ H locs hq hP hD hS => ?_)
  obtain ⟨hτ3_, q4_⟩ := hq
  have q4_ : z2_.toInt = 0 ∨ z2_.toInt = 1 := q4_
  refine W.widen (k := 0) (n := 0) (Nat.le_of_ble_eq_true rfl) (Nat.le_of_ble_eq_true rfl) ?_
  refine lv_pop hx hb dX8_restart_8 rfl ?_
  refine lv_aload_n hx hb dX8_restart_9 rfl (lv_at hl 0 rfl) ?_
  refine lv_iconst (v := 0) hx hb dX8_restart_10 rg_0 ?_
  refine va_put (D := (dC, dI)) (ci := 8) (v := .int 0) (ty := tyX8 6) (C := RX8) (T := TX8) (N := 9) hx hb hts hin8 tyX8 tyX8_ok nmX8 hown hK hP hD hS 21 rfl rfl 6 (Nat.le_of_ble_eq_true rfl) (ho (.fieldLink RX8 25 "NearEnough$Shown" "walking" "Z") (List.mem_of_getElem? (i := 1) rfl)) (fun _ h9 => h9) rfl (tyX8_ok 6 (Nat.le_of_ble_eq_true rfl)) rfl rfl (Nat.le_of_ble_eq_true rfl) dX8_restart_11 (fun H locs hP hD hS => ?_)
  have hP : va_P (dC, dI) vwCl (cW κ (sI τ3_ 24 0)) H := hP
  have hD : va_D A (cW κ (sI τ3_ 24 0)) := hD
  rw [hQ]
  exact W.vret hx hb hr (fun t ht hW => ⟨⟨(sI τ3_ 24 0), rfl, ⟨(CInv.sI (k := 24) (v := 0) hτ3_ (Inv.any 0)), trivial⟩, wEn_of hP (hK.sub [] rfl) hD ht hW⟩, hS.F ht⟩) hS.2.2 dX8_restart_14
def ow_k_next : List Cond := [.fieldLink RX8 33 "NearEnough$Shown" "stale" "I", .fieldLink RX8 25 "NearEnough$Shown" "walking" "Z", .methodLink RX8 54 Lib.Math.min.name, .static Lib.Math.min.name, .initialized "java/lang/Math", .code Lib.Math.min.name Lib.Math.min.code 2 (some .int), .fieldLink RX8 29 "NearEnough$Shown" "last" "I", .fieldLink RX8 36 "NearEnough$Shown" "told" "LNearEnough$Program;", .fieldLink RX8 63 "NearEnough$Program" "stepCount" "I", .fieldLink RX8 40 "NearEnough$Shown" "changes" "LNearEnough$Changes;"]
def vs_k_next : List Cond := .code yX8_next cX8_next 4 (some .boolean) :: (ow_k_next ++ (([.methodLink RX8 60 yX8_show, .instanceMethod yX8_show, .selects RX8 yX8_show yX8_show, .initialized RX8] : List Cond) ++ (vs_k_show ++ (([.methodLink RX8 50 yX0_advance, .instanceMethod yX0_advance, .selects RX0 yX0_advance yX0_advance, .initialized RX0] : List Cond) ++ (vs_k_advance ++ (wsX30 ++ (wsX80)))))))
theorem vg_k_next : vs_k_next.all goodWord = true := by decide +kernel
theorem dd_k_next : yX8_next.cls = RX8 ∧ yX8_next.cls ≠ "java/lang/invoke/MethodHandle" ∧ yX8_next.cls ≠ "java/lang/invoke/VarHandle" ∧ (parseMethodDescriptor yX8_next.desc).map (fun d => d.parameters.length) = some 0 := by decide +kernel
def rm_k_next : Room := { frames := 5, cells := 0, slots := 0, locals := 122 }
theorem gd_k_next_60_k_show : GoodIn vs_k_next (wsV RX8 60 RX8 yX8_show vs_k_show) := goodIn_app (goodIn_sub (fun w h => (List.mem_cons_of_mem _ (List.mem_append_right _ (List.mem_append_left _ h)))) (by decide +kernel)) (goodIn_sub (fun w h => (List.mem_cons_of_mem _ (List.mem_append_right _ (List.mem_append_right _ (List.mem_append_left _ h))))) vg_k_show)
theorem gd_k_next_50_k_advance : GoodIn vs_k_next (wsV RX8 50 RX0 yX0_advance vs_k_advance) := goodIn_app (goodIn_sub (fun w h => (List.mem_cons_of_mem _ (List.mem_append_right _ (List.mem_append_right _ (List.mem_append_right _ (List.mem_append_left _ h)))))) (by decide +kernel)) (goodIn_sub (fun w h => (List.mem_cons_of_mem _ (List.mem_append_right _ (List.mem_append_right _ (List.mem_append_right _ (List.mem_append_right _ (List.mem_append_left _ h))))))) vg_k_advance)
set_option maxHeartbeats 4000000 in
set_option maxRecDepth 100000 in
theorem k_next (l : Launch) (dC : Nat → ClassId) (dI : Nat → Nat → Nat) (κ : CE) (sz : Nat) (σ : MS) (hk : PInv κ) (hI : CInv σ)  : Met l yX8_next vs_k_next rm_k_next (va_Pc [.ref (kA κ 21)] (wSy dC dI (cW κ σ) (cT κ) sz)) (va_Qi (fun (r : Int32) (τ : MS) => CInv τ ∧ (r.toInt = 0 ∨ r.toInt = 1)) (fun (τ : MS) => wEn dC dI (va_A (cW κ σ) sz) (cW κ τ) []) (va_A (cW κ σ) sz)) 0 0 (va_A (cW κ σ) sz) := by
  refine Met.ofW (cc := cX8_next) (maxL := 4) (ret := (some .boolean)) (by decide +kernel) rfl ?_
  intro p e s m args below meth c s₁ B hml hv
  obtain ⟨rfl, hsz, hP, hK, hD0, hE⟩ := hv
  have hx := B.exec
  have hb := B.bytes
  have hr := B.returns
  have hts := atoms_spec (ws := vs_k_next) B.pre
  have hown : s.vm.findClass RX8 = some m.cls := findClass_of_methodNamed B.named
  have hlocks := B.notSynchronized
  subst hsz
  have hD := hD0.self (sz := s.heap.size)
  generalize hAe : va_A (cW κ σ) s.heap.size = A at hD ⊢
  have hA : ∀ q : Nat, s.heap.size ≤ q → A q := fun q h => by rw [← hAe]; exact Or.inr h
  have hl := lv_entry ([.ref (kA κ 21)]) (n := 4) (Nat.le_of_ble_eq_true rfl)
  rw [lg_entry_eq]
  generalize (lg_sl ([.ref (kA κ 21)]) ++ List.replicate (4 - (lg_sl ([.ref (kA κ 21)])).length) Slot.unset).toArray = ls at hl ⊢
  have hl : lv_has ls 4 [(0, .ref (kA κ 21))] := hl
  have ho := fun w (h : w ∈ ow_k_next) => hts w (List.mem_cons_of_mem _ (List.mem_append_left _ h))
  have hin3 : ∀ w ∈ u_ws RX3 TX3 8, w ∈ vs_k_next := fun w h => (List.mem_cons_of_mem _ (List.mem_append_right _ (List.mem_append_right _ (List.mem_append_right _ (List.mem_append_right _ (List.mem_append_right _ (List.mem_append_left _ h)))))))
  have hin8 : ∀ w ∈ u_ws RX8 TX8 9, w ∈ vs_k_next := fun w h => (List.mem_cons_of_mem _ (List.mem_append_right _ (List.mem_append_right _ (List.mem_append_right _ (List.mem_append_right _ (List.mem_append_right _ (List.mem_append_right _ h)))))))
  refine zQ (fun Q hQ => ?_)
  refine zH (A := A) (ws := (cW κ σ)) (fun H hP hS => ?_) hP
  have hk0 := hk.1
  have hk1 := hk.2.1
  have hk2 := hk.2.2.1
  refine lv_aload_n hx hb dX8_next_0 rfl (lv_at hl 0 rfl) ?_
  refine lv_bipush (v := 12) hx hb dX8_next_1 rg_57 ?_
  refine va_put (D := (dC, dI)) (ci := 8) (v := .int 12) (ty := tyX8 8) (C := RX8) (T := TX8) (N := 9) hx hb hts hin8 tyX8 tyX8_ok nmX8 hown hK hP hD hS 21 rfl rfl 8 (Nat.le_of_ble_eq_true rfl) (ho (.fieldLink RX8 33 "NearEnough$Shown" "stale" "I") (List.mem_of_getElem? (i := 0) rfl)) (fun _ h9 => h9) rfl (tyX8_ok 8 (Nat.le_of_ble_eq_true rfl)) rfl rfl (Nat.le_of_ble_eq_true rfl) dX8_next_3 (fun H locs hP hD hS => ?_)
  have hP : va_P (dC, dI) vwCl (cW κ (sI σ 26 12)) H := hP
  have hD : va_D A (cW κ (sI σ 26 12)) := hD
  refine lv_iconst (v := 0) hx hb dX8_next_6 rg_0 ?_
  refine lv_istore_n (lv' := [(1, .int 0), (0, .ref (kA κ 21))]) hx hb dX8_next_7 rfl hl (Nat.le_of_ble_eq_true rfl) rfl (fun ls hl => ?_)
  have pt8_ : ∀ (n8_ : Nat) (σ8_ : MS) (v1_ : Int32) (H : Heap) (locs : List Loc) (ls : Array Slot), (4096 - v1_.toInt).toNat < n8_ → CInv σ8_ → (0 ≤ v1_.toInt) → va_P (dC, dI) vwCl (cW κ σ8_) H → va_D A (cW κ σ8_) → va_S A s.heap H locs → lv_has ls 4 [(1, .int v1_), (0, .ref (kA κ 21))] → W p l e (headSpec vs_k_next rm_k_next).room s m #[Value.ref (kA κ 21)] below meth c H locs 0 0 Q (F0 m 8 ls []) := by
    intro n8_
    induction n8_ with
    | zero => intro σ8_ v1_ H locs ls hn8_ hIσ8_ hf8_0_ hP hD hS hl; exact absurd hn8_ (Nat.not_lt_zero _)
    | succ n8_ ih8_ =>
      intro σ8_ v1_ H locs ls hn8_ hIσ8_ hf8_0_ hP hD hS hl
      refine lv_iload_n hx hb dX8_next_8 rfl (lv_at hl 0 rfl) ?_
      refine lv_sipush (v := 4096) hx hb dX8_next_9 rx_5b0cde361b ?_
      refine lv_icmp_ge (tgt := 103) hx hb dX8_next_12 rfl (fun c1_ => ?_) (fun c1_ => ?_)
      · have tc1_ := (show 4096 ≤ v1_.toInt from ti_le rx_5cf37c826d rfl c1_)
        refine lv_iconst (v := 0) hx hb dX8_next_103 rg_0 ?_
        have kk2_ : (0 : Int32).toInt = 0 := rg_11
        have o1 : (0 : Int32).toInt = 0 ∨ (0 : Int32).toInt = 1 := by omega
        rw [hQ]
        exact W.zret (v := 0) hx hb hr rfl (fun t ht hW => ⟨⟨0, σ8_, rfl, ⟨hIσ8_, o1⟩, wEn_of hP (hK.sub [] rfl) hD ht hW⟩, hS.F ht⟩) hS.2.2 dX8_next_104
      · have tc1_ := (show v1_.toInt < 4096 from ti_nle rx_5cf37c826d rfl c1_)
        have pt37_ : ∀ (σ37_ : MS) (s37_ : Int32) (H : Heap) (locs : List Loc) (ls : Array Slot), CInv σ37_ → ((-1) ≤ s37_.toInt ∧ s37_.toInt ≤ 11) → va_P (dC, dI) vwCl (cW κ σ37_) H → va_D A (cW κ σ37_) → va_S A s.heap H locs → lv_has ls 4 [(1, .int v1_), (0, .ref (kA κ 21))] → W p l e (headSpec vs_k_next rm_k_next).room s m #[Value.ref (kA κ 21)] below meth c H locs 0 0 Q (F0 m 37 ls [.int s37_]) := by
          intro σ37_ s37_ H locs ls hIσ37_ hf37_0_ hP hD hS hl
          refine lv_istore_n (lv' := [(2, .int s37_), (1, .int v1_), (0, .ref (kA κ 21))]) hx hb dX8_next_37 rfl hl (Nat.le_of_ble_eq_true rfl) rfl (fun ls hl => ?_)
          refine lv_aload_n hx hb dX8_next_38 rfl (lv_at hl 2 rfl) ?_
          refine lv_iconst (v := 1) hx hb dX8_next_39 rg_6 ?_
          refine va_put (D := (dC, dI)) (ci := 8) (v := .int 1) (ty := tyX8 6) (C := RX8) (T := TX8) (N := 9) hx hb hts hin8 tyX8 tyX8_ok nmX8 hown hK hP hD hS 21 rfl rfl 6 (Nat.le_of_ble_eq_true rfl) (ho (.fieldLink RX8 25 "NearEnough$Shown" "walking" "Z") (List.mem_of_getElem? (i := 1) rfl)) (fun _ h9 => h9) rfl (tyX8_ok 6 (Nat.le_of_ble_eq_true rfl)) rfl rfl (Nat.le_of_ble_eq_true rfl) dX8_next_40 (fun H locs hP hD hS => ?_)
          have hP : va_P (dC, dI) vwCl (cW κ (sI σ37_ 24 1)) H := hP
          have hD : va_D A (cW κ (sI σ37_ 24 1)) := hD
          refine lv_iload_n hx hb dX8_next_43 rfl (lv_at hl 0 rfl) ?_
          refine lv_iconst (v := (-1)) hx hb dX8_next_44 rg_53 ?_
          refine lv_icmp_ne (tgt := 50) hx hb dX8_next_45 rfl (fun c3_ => ?_) (fun c3_ => ?_)
          · have tc3_ := (show s37_.toInt ≠ (-1) from ti_ne rfl rg_489 c3_)
            refine lv_aload_n hx hb dX8_next_50 rfl (lv_at hl 2 rfl) ?_
            refine lv_aload_n hx hb dX8_next_51 rfl (lv_at hl 2 rfl) ?_
            have bσ37__26 : 0 ≤ (σ37_.1 26).toInt ∧ (σ37_.1 26).toInt ≤ 12 := hIσ37_.1 26
            refine va_get (D := (dC, dI)) (ci := 8) (v := .int (σ37_.1 26)) (C := RX8) (T := TX8) (N := 9) hx hb hts hin8 hown hK hP 21 rfl rfl 8 (Nat.le_of_ble_eq_true rfl) (ho (.fieldLink RX8 33 "NearEnough$Shown" "stale" "I") (List.mem_of_getElem? (i := 0) rfl)) (fun _ h9 => h9) rfl dX8_next_52 ?_
            refine lv_iload_n hx hb dX8_next_55 rfl (lv_at hl 0 rfl) ?_
            refine va_mmin hx hb (hml.trans hl.1.symm) hown (ho (.methodLink RX8 54 Lib.Math.min.name) (List.mem_of_getElem? (i := 2) rfl)) (ho (.static Lib.Math.min.name) (List.mem_of_getElem? (i := 3) rfl)) (ho (.initialized "java/lang/Math") (List.mem_of_getElem? (i := 4) rfl)) (ho (.code Lib.Math.min.name Lib.Math.min.code 2 (some .int)) (List.mem_of_getElem? (i := 5) rfl)) (Nat.le_of_ble_eq_true rfl) (Nat.le_of_ble_eq_true rfl) (Nat.le_of_ble_eq_true rfl) (Nat.le_of_ble_eq_true rfl) dX8_next_56 ?_
            refine lv_topi (fun z4_ ez4_ => ?_)
            have mz4_ := imin_ok ez4_
            refine va_put (D := (dC, dI)) (ci := 8) (v := .int z4_) (ty := tyX8 8) (C := RX8) (T := TX8) (N := 9) hx hb hts hin8 tyX8 tyX8_ok nmX8 hown hK hP hD hS 21 rfl rfl 8 (Nat.le_of_ble_eq_true rfl) (ho (.fieldLink RX8 33 "NearEnough$Shown" "stale" "I") (List.mem_of_getElem? (i := 0) rfl)) (fun _ h9 => h9) rfl (tyX8_ok 8 (Nat.le_of_ble_eq_true rfl)) rfl rfl (Nat.le_of_ble_eq_true rfl) dX8_next_59 (fun H locs hP hD hS => ?_)
            have hP : va_P (dC, dI) vwCl (cW κ (sI (sI σ37_ 24 1) 26 z4_)) H := hP
            have hD : va_D A (cW κ (sI (sI σ37_ 24 1) 26 z4_)) := hD
            refine lv_aload_n hx hb dX8_next_62 rfl (lv_at hl 2 rfl) ?_
            refine lv_iload_n hx hb dX8_next_63 rfl (lv_at hl 0 rfl) ?_
            have o2 : 0 ≤ s37_.toInt := by omega
            have o3 : s37_.toInt ≤ 12 := by omega
            have o4 : 0 ≤ z4_.toInt := by omega
            have o5 : z4_.toInt ≤ 12 := by omega
            refine zy_i (va_runV (As := [.int s37_]) (rest := []) ⟨hx, hb, hml, hown, hts⟩ (k_show l dC dI κ H.size (sI (sI σ37_ 24 1) 26 z4_) s37_ hk (CInv.sI (k := 26) (v := z4_) (CInv.sI (k := 24) (v := 1) hIσ37_ (Inv.any 1)) ⟨o4, o5⟩) ⟨o2, o3⟩) (cwV 1 hts gd_k_next_60_k_show rfl rfl rfl dd_k_show ⟨Nat.le_of_ble_eq_true rfl, Nat.le_of_ble_eq_true rfl⟩) (preVy hP hK hD hE (ci := 8) (q0 := 21) rfl rfl) rfl rfl hl.1 rfl (lv_room (Nat.le_of_ble_eq_true rfl)) dX8_next_64 ⟨Nat.le_of_ble_eq_true rfl, Nat.le_of_ble_eq_true rfl⟩) hD hS hA (fun z5_ τ6_ H locs hq hP hD hS => ?_)
            obtain ⟨hτ6_, q7_⟩ := hq
            have q7_ : (-1) ≤ z5_.toInt ∧ z5_.toInt ≤ 11 := q7_
            refine W.widen (k := 0) (n := 0) (Nat.le_of_ble_eq_true rfl) (Nat.le_of_ble_eq_true rfl) ?_
            refine lv_istore_n (lv' := [(3, .int z5_), (2, .int s37_), (1, .int v1_), (0, .ref (kA κ 21))]) hx hb dX8_next_67 rfl hl (Nat.le_of_ble_eq_true rfl) rfl (fun ls hl => ?_)
            refine lv_aload_n hx hb dX8_next_68 rfl (lv_at hl 3 rfl) ?_
            have pt87_ : ∀ (s87_ : Int32) (H : Heap) (locs : List Loc) (ls : Array Slot), ((-1) ≤ s87_.toInt ∧ s87_.toInt ≤ 11) → va_P (dC, dI) vwCl (cW κ τ6_) H → va_D A (cW κ τ6_) → va_S A s.heap H locs → lv_has ls 4 [(3, .int z5_), (1, .int v1_), (0, .ref (kA κ 21))] → W p l e (headSpec vs_k_next rm_k_next).room s m #[Value.ref (kA κ 21)] below meth c H locs 0 0 Q (F0 m 87 ls [.int s87_, .ref (kA κ 21)]) := by
              intro s87_ H locs ls hf87_0_ hP hD hS hl
              refine va_put (D := (dC, dI)) (ci := 8) (v := .int s87_) (ty := tyX8 7) (C := RX8) (T := TX8) (N := 9) hx hb hts hin8 tyX8 tyX8_ok nmX8 hown hK hP hD hS 21 rfl rfl 7 (Nat.le_of_ble_eq_true rfl) (ho (.fieldLink RX8 29 "NearEnough$Shown" "last" "I") (List.mem_of_getElem? (i := 6) rfl)) (fun _ h9 => h9) rfl (tyX8_ok 7 (Nat.le_of_ble_eq_true rfl)) rfl rfl (Nat.le_of_ble_eq_true rfl) dX8_next_87 (fun H locs hP hD hS => ?_)
              have hP : va_P (dC, dI) vwCl (cW κ (sI τ6_ 25 s87_)) H := hP
              have hD : va_D A (cW κ (sI τ6_ 25 s87_)) := hD
              refine lv_iload_n hx hb dX8_next_90 rfl (lv_at hl 0 rfl) ?_
              refine lv_iconst (v := (-1)) hx hb dX8_next_91 rg_53 ?_
              refine lv_icmp_ne (tgt := 97) hx hb dX8_next_92 rfl (fun c8_ => ?_) (fun c8_ => ?_)
              · have tc8_ := (show z5_.toInt ≠ (-1) from ti_ne rfl rg_489 c8_)
                obtain ⟨z9_, ez9_⟩ : ∃ y : Int32, y = v1_ + 1 := ⟨_, rfl⟩
                have o6 : -2147483648 ≤ v1_.toInt + 1 := by omega
                have o7 : v1_.toInt + 1 ≤ 2147483647 := by omega
                have tz9_ := ti_add ez9_ rfl rg_18 o6 o7
                refine lv_iinc (v := z9_) (lv' := [(1, .int z9_), (3, .int z5_), (0, .ref (kA κ 21))]) hx hb dX8_next_97 hl (k := 1) rfl (iincp ez9_ rg_6) (Nat.le_of_ble_eq_true rfl) rfl (fun ls hl => ?_)
                refine lv_goto (tgt := 8) hx hb dX8_next_100 rfl ?_
                have o8 : (4096 - z9_.toInt).toNat < n8_ := by omega
                have o9 : (-1) ≤ s87_.toInt := by omega
                have o10 : s87_.toInt ≤ 11 := by omega
                have o11 : 0 ≤ z9_.toInt := by omega
                exact ih8_ (sI τ6_ 25 s87_) z9_ _ _ _ o8 (CInv.sI (k := 25) (v := s87_) hτ6_ ⟨o9, o10⟩) o11 hP hD hS (lv_sub hl [0, 2] rfl)
              · have tc8_ := (show z5_.toInt = (-1) from ti_eq rfl rg_489 c8_)
                refine lv_iconst (v := 1) hx hb dX8_next_95 rg_6 ?_
                have kk10_ : (1 : Int32).toInt = 1 := rg_18
                have o12 : (1 : Int32).toInt = 0 ∨ (1 : Int32).toInt = 1 := by omega
                have o13 : (-1) ≤ s87_.toInt := by omega
                have o14 : s87_.toInt ≤ 11 := by omega
                rw [hQ]
                exact W.zret (v := 1) hx hb hr rfl (fun t ht hW => ⟨⟨1, (sI τ6_ 25 s87_), rfl, ⟨(CInv.sI (k := 25) (v := s87_) hτ6_ ⟨o13, o14⟩), o12⟩, wEn_of hP (hK.sub [] rfl) hD ht hW⟩, hS.F ht⟩) hS.2.2 dX8_next_96
            refine lv_iload_n hx hb dX8_next_69 rfl (lv_at hl 0 rfl) ?_
            refine lv_iconst (v := (-1)) hx hb dX8_next_70 rg_53 ?_
            refine lv_icmp_ne (tgt := 86) hx hb dX8_next_71 rfl (fun c11_ => ?_) (fun c11_ => ?_)
            · have tc11_ := (show z5_.toInt ≠ (-1) from ti_ne rfl rg_489 c11_)
              refine lv_iload_n hx hb dX8_next_86 rfl (lv_at hl 0 rfl) ?_
              have o15 : (-1) ≤ z5_.toInt := by omega
              have o16 : z5_.toInt ≤ 11 := by omega
              exact pt87_  z5_ _ _ _ ⟨o15, o16⟩ hP hD hS (lv_sub hl [0, 2, 3] rfl)
            · have tc11_ := (show z5_.toInt = (-1) from ti_eq rfl rg_489 c11_)
              refine lv_aload_n hx hb dX8_next_74 rfl (lv_at hl 3 rfl) ?_
              refine va_get (D := (dC, dI)) (ci := 8) (v := .ref (kA κ 6)) (C := RX8) (T := TX8) (N := 9) hx hb hts hin8 hown hK hP 21 rfl rfl 0 (Nat.le_of_ble_eq_true rfl) (ho (.fieldLink RX8 36 "NearEnough$Shown" "told" "LNearEnough$Program;") (List.mem_of_getElem? (i := 7) rfl)) (fun _ h9 => h9) rfl dX8_next_75 ?_
              refine va_get (D := (dC, dI)) (ci := 3) (v := .int (pI κ 1)) (C := RX3) (T := TX3) (N := 8) hx hb hts hin3 hown hK hP 6 rfl rfl 6 (Nat.le_of_ble_eq_true rfl) (ho (.fieldLink RX8 63 "NearEnough$Program" "stepCount" "I") (List.mem_of_getElem? (i := 8) rfl)) (fun _ h9 => h9) rfl dX8_next_78 ?_
              refine lv_iconst (v := 1) hx hb dX8_next_81 rg_6 ?_
              refine lv_isub hx hb dX8_next_82 ?_
              refine lv_topi (fun z12_ ez12_ => ?_)
              have o17 : -2147483648 ≤ (pI κ 1).toInt - 1 := by omega
              have o18 : (pI κ 1).toInt - 1 ≤ 2147483647 := by omega
              have tz12_ : z12_.toInt = (pI κ 1).toInt - 1 := ti_sub ez12_ rfl rg_18 o17 o18
              refine lv_goto (tgt := 87) hx hb dX8_next_83 rfl ?_
              have o19 : (-1) ≤ z12_.toInt := by omega
              have o20 : z12_.toInt ≤ 11 := by omega
              exact pt87_  z12_ _ _ _ ⟨o19, o20⟩ hP hD hS (lv_sub hl [0, 2, 3] rfl)
          · have tc3_ := (show s37_.toInt = (-1) from ti_eq rfl rg_489 c3_)
            refine lv_iconst (v := 0) hx hb dX8_next_48 rg_0 ?_
            have kk13_ : (0 : Int32).toInt = 0 := rg_11
            have o21 : (0 : Int32).toInt = 0 ∨ (0 : Int32).toInt = 1 := by omega
            rw [hQ]
            exact W.zret (v := 0) hx hb hr rfl (fun t ht hW => ⟨⟨0, (sI σ37_ 24 1), rfl, ⟨(CInv.sI (k := 24) (v := 1) hIσ37_ (Inv.any 1)), o21⟩, wEn_of hP (hK.sub [] rfl) hD ht hW⟩, hS.F ht⟩) hS.2.2 dX8_next_49
        refine lv_aload_n hx hb dX8_next_15 rfl (lv_at hl 1 rfl) ?_
        refine va_get (D := (dC, dI)) (ci := 8) (v := .int (σ8_.1 24)) (C := RX8) (T := TX8) (N := 9) hx hb hts hin8 hown hK hP 21 rfl rfl 6 (Nat.le_of_ble_eq_true rfl) (ho (.fieldLink RX8 25 "NearEnough$Shown" "walking" "Z") (List.mem_of_getElem? (i := 1) rfl)) (fun _ h9 => h9) rfl dX8_next_16 ?_
        refine lv_if_eq (tgt := 36) hx hb dX8_next_19 rfl (fun c14_ => ?_) (fun c14_ => ?_)
        · have tc14_ := (show (σ8_.1 24).toInt = 0 from ti_eq rfl rg_11 c14_)
          refine lv_iconst (v := 0) hx hb dX8_next_36 rg_0 ?_
          have kk15_ : (0 : Int32).toInt = 0 := rg_11
          have o22 : (-1) ≤ (0 : Int32).toInt := by omega
          have o23 : (0 : Int32).toInt ≤ 11 := by omega
          exact pt37_ σ8_ 0 _ _ _ hIσ8_ ⟨o22, o23⟩ hP hD hS (lv_sub hl [0, 1] rfl)
        · have tc14_ := (show (σ8_.1 24).toInt ≠ 0 from ti_ne rfl rg_11 c14_)
          refine lv_aload_n hx hb dX8_next_22 rfl (lv_at hl 1 rfl) ?_
          refine va_get (D := (dC, dI)) (ci := 8) (v := .ref (kA κ 15)) (C := RX8) (T := TX8) (N := 9) hx hb hts hin8 hown hK hP 21 rfl rfl 1 (Nat.le_of_ble_eq_true rfl) (ho (.fieldLink RX8 40 "NearEnough$Shown" "changes" "LNearEnough$Changes;") (List.mem_of_getElem? (i := 9) rfl)) (fun _ h9 => h9) rfl dX8_next_23 ?_
          refine lv_aload_n hx hb dX8_next_26 rfl (lv_at hl 1 rfl) ?_
          have bσ8__25 : (-1) ≤ (σ8_.1 25).toInt ∧ (σ8_.1 25).toInt ≤ 11 := hIσ8_.1 25
          refine va_get (D := (dC, dI)) (ci := 8) (v := .int (σ8_.1 25)) (C := RX8) (T := TX8) (N := 9) hx hb hts hin8 hown hK hP 21 rfl rfl 7 (Nat.le_of_ble_eq_true rfl) (ho (.fieldLink RX8 29 "NearEnough$Shown" "last" "I") (List.mem_of_getElem? (i := 6) rfl)) (fun _ h9 => h9) rfl dX8_next_27 ?_
          have o24 : (-1) ≤ ((σ8_.1 25)).toInt := by omega
          have o25 : ((σ8_.1 25)).toInt ≤ 11 := by omega
          refine zy_i (va_runV (As := [.int (σ8_.1 25)]) (rest := []) ⟨hx, hb, hml, hown, hts⟩ (k_advance l dC dI κ H.size σ8_ (σ8_.1 25) hk hIσ8_ ⟨o24, o25⟩) (cwV 1 hts gd_k_next_50_k_advance rfl rfl rfl dd_k_advance ⟨Nat.le_of_ble_eq_true rfl, Nat.le_of_ble_eq_true rfl⟩) (preVy hP hK hD hE (ci := 0) (q0 := 15) rfl rfl) rfl rfl hl.1 rfl (lv_room (Nat.le_of_ble_eq_true rfl)) dX8_next_30 ⟨Nat.le_of_ble_eq_true rfl, Nat.le_of_ble_eq_true rfl⟩) hD hS hA (fun z16_ τ17_ H locs hq hP hD hS => ?_)
          obtain ⟨hτ17_, q18_⟩ := hq
          have q18_ : (-1) ≤ z16_.toInt ∧ z16_.toInt ≤ 11 := q18_
          refine W.widen (k := 0) (n := 0) (Nat.le_of_ble_eq_true rfl) (Nat.le_of_ble_eq_true rfl) ?_
          refine lv_goto (tgt := 37) hx hb dX8_next_33 rfl ?_
          have o26 : (-1) ≤ z16_.toInt := by omega
          have o27 : z16_.toInt ≤ 11 := by omega
          exact pt37_ τ17_ z16_ _ _ _ hτ17_ ⟨o26, o27⟩ hP hD hS (lv_sub hl [0, 1] rfl)
  have kk19_ : (0 : Int32).toInt = 0 := rg_11
  have o28 : 0 ≤ (0 : Int32).toInt := by omega
  exact pt8_ _ (sI σ 26 12) 0 _ _ _ (Nat.lt_succ_self _) (CInv.sI (k := 26) (v := 12) hI rx_1067990115) o28 hP hD hS (lv_sub hl [0, 1] rfl)
