theorem dJ9_floorDiv_f86c9_0 : decode cJ9_floorDiv_f86c9 0 = .ok (.lload_n 0, 1) := by decide +kernel
theorem dJ9_floorDiv_f86c9_1 : decode cJ9_floorDiv_f86c9 1 = .ok (.lload_n 2, 1) := by decide +kernel
theorem dJ9_floorDiv_f86c9_2 : decode cJ9_floorDiv_f86c9 2 = .ok (.ldiv, 1) := by decide +kernel
theorem dJ9_floorDiv_f86c9_3 : decode cJ9_floorDiv_f86c9 3 = .ok (.lstore 4, 2) := by decide +kernel
theorem dJ9_floorDiv_f86c9_5 : decode cJ9_floorDiv_f86c9 5 = .ok (.lload_n 0, 1) := by decide +kernel
theorem dJ9_floorDiv_f86c9_6 : decode cJ9_floorDiv_f86c9 6 = .ok (.lload_n 2, 1) := by decide +kernel
theorem dJ9_floorDiv_f86c9_7 : decode cJ9_floorDiv_f86c9 7 = .ok (.lxor, 1) := by decide +kernel
theorem dJ9_floorDiv_f86c9_8 : decode cJ9_floorDiv_f86c9 8 = .ok (.lconst 0, 1) := by decide +kernel
theorem dJ9_floorDiv_f86c9_9 : decode cJ9_floorDiv_f86c9 9 = .ok (.lcmp, 1) := by decide +kernel
theorem dJ9_floorDiv_f86c9_10 : decode cJ9_floorDiv_f86c9 10 = .ok (.ifCond .ge 17, 3) := by decide +kernel
theorem dJ9_floorDiv_f86c9_27 : decode cJ9_floorDiv_f86c9 27 = .ok (.lload 4, 2) := by decide +kernel
theorem dJ9_floorDiv_f86c9_29 : decode cJ9_floorDiv_f86c9 29 = .ok (.lreturn, 1) := by decide +kernel
theorem dJ9_floorDiv_f86c9_13 : decode cJ9_floorDiv_f86c9 13 = .ok (.lload 4, 2) := by decide +kernel
theorem dJ9_floorDiv_f86c9_15 : decode cJ9_floorDiv_f86c9 15 = .ok (.lload_n 2, 1) := by decide +kernel
theorem dJ9_floorDiv_f86c9_16 : decode cJ9_floorDiv_f86c9 16 = .ok (.lmul, 1) := by decide +kernel
theorem dJ9_floorDiv_f86c9_17 : decode cJ9_floorDiv_f86c9 17 = .ok (.lload_n 0, 1) := by decide +kernel
theorem dJ9_floorDiv_f86c9_18 : decode cJ9_floorDiv_f86c9 18 = .ok (.lcmp, 1) := by decide +kernel
theorem dJ9_floorDiv_f86c9_19 : decode cJ9_floorDiv_f86c9 19 = .ok (.ifCond .eq 8, 3) := by decide +kernel
theorem dJ9_floorDiv_f86c9_22 : decode cJ9_floorDiv_f86c9 22 = .ok (.lload 4, 2) := by decide +kernel
theorem dJ9_floorDiv_f86c9_24 : decode cJ9_floorDiv_f86c9 24 = .ok (.lconst 1, 1) := by decide +kernel
theorem dJ9_floorDiv_f86c9_25 : decode cJ9_floorDiv_f86c9 25 = .ok (.lsub, 1) := by decide +kernel
theorem dJ9_floorDiv_f86c9_26 : decode cJ9_floorDiv_f86c9 26 = .ok (.lreturn, 1) := by decide +kernel
theorem dJ9_floorMod_f86c9_0 : decode cJ9_floorMod_f86c9 0 = .ok (.lload_n 0, 1) := by decide +kernel
theorem dJ9_floorMod_f86c9_1 : decode cJ9_floorMod_f86c9 1 = .ok (.lload_n 2, 1) := by decide +kernel
theorem dJ9_floorMod_f86c9_2 : decode cJ9_floorMod_f86c9 2 = .ok (.lrem, 1) := by decide +kernel
theorem dJ9_floorMod_f86c9_3 : decode cJ9_floorMod_f86c9 3 = .ok (.lstore 4, 2) := by decide +kernel
theorem dJ9_floorMod_f86c9_5 : decode cJ9_floorMod_f86c9 5 = .ok (.lload_n 0, 1) := by decide +kernel
theorem dJ9_floorMod_f86c9_6 : decode cJ9_floorMod_f86c9 6 = .ok (.lload_n 2, 1) := by decide +kernel
theorem dJ9_floorMod_f86c9_7 : decode cJ9_floorMod_f86c9 7 = .ok (.lxor, 1) := by decide +kernel
theorem dJ9_floorMod_f86c9_8 : decode cJ9_floorMod_f86c9 8 = .ok (.lconst 0, 1) := by decide +kernel
theorem dJ9_floorMod_f86c9_9 : decode cJ9_floorMod_f86c9 9 = .ok (.lcmp, 1) := by decide +kernel
theorem dJ9_floorMod_f86c9_10 : decode cJ9_floorMod_f86c9 10 = .ok (.ifCond .ge 15, 3) := by decide +kernel
theorem dJ9_floorMod_f86c9_25 : decode cJ9_floorMod_f86c9 25 = .ok (.lload 4, 2) := by decide +kernel
theorem dJ9_floorMod_f86c9_27 : decode cJ9_floorMod_f86c9 27 = .ok (.lreturn, 1) := by decide +kernel
theorem dJ9_floorMod_f86c9_13 : decode cJ9_floorMod_f86c9 13 = .ok (.lload 4, 2) := by decide +kernel
theorem dJ9_floorMod_f86c9_15 : decode cJ9_floorMod_f86c9 15 = .ok (.lconst 0, 1) := by decide +kernel
theorem dJ9_floorMod_f86c9_16 : decode cJ9_floorMod_f86c9 16 = .ok (.lcmp, 1) := by decide +kernel
theorem dJ9_floorMod_f86c9_17 : decode cJ9_floorMod_f86c9 17 = .ok (.ifCond .eq 8, 3) := by decide +kernel
theorem dJ9_floorMod_f86c9_20 : decode cJ9_floorMod_f86c9 20 = .ok (.lload 4, 2) := by decide +kernel
theorem dJ9_floorMod_f86c9_22 : decode cJ9_floorMod_f86c9 22 = .ok (.lload_n 2, 1) := by decide +kernel
theorem dJ9_floorMod_f86c9_23 : decode cJ9_floorMod_f86c9 23 = .ok (.ladd, 1) := by decide +kernel
theorem dJ9_floorMod_f86c9_24 : decode cJ9_floorMod_f86c9 24 = .ok (.lreturn, 1) := by decide +kernel
theorem dJ6_bitCount_0f7a4_0 : decode cJ6_bitCount_0f7a4 0 = .ok (.iload_n 0, 1) := by decide +kernel
theorem dJ6_bitCount_0f7a4_1 : decode cJ6_bitCount_0f7a4 1 = .ok (.iload_n 0, 1) := by decide +kernel
theorem dJ6_bitCount_0f7a4_2 : decode cJ6_bitCount_0f7a4 2 = .ok (.iconst 1, 1) := by decide +kernel
theorem dJ6_bitCount_0f7a4_3 : decode cJ6_bitCount_0f7a4 3 = .ok (.iushr, 1) := by decide +kernel
theorem dJ6_bitCount_0f7a4_4 : decode cJ6_bitCount_0f7a4 4 = .ok (.ldc_w 265, 3) := by decide +kernel
theorem dJ6_bitCount_0f7a4_7 : decode cJ6_bitCount_0f7a4 7 = .ok (.iand, 1) := by decide +kernel
theorem dJ6_bitCount_0f7a4_8 : decode cJ6_bitCount_0f7a4 8 = .ok (.isub, 1) := by decide +kernel
theorem dJ6_bitCount_0f7a4_9 : decode cJ6_bitCount_0f7a4 9 = .ok (.istore_n 0, 1) := by decide +kernel
theorem dJ6_bitCount_0f7a4_10 : decode cJ6_bitCount_0f7a4 10 = .ok (.iload_n 0, 1) := by decide +kernel
theorem dJ6_bitCount_0f7a4_11 : decode cJ6_bitCount_0f7a4 11 = .ok (.ldc_w 266, 3) := by decide +kernel
theorem dJ6_bitCount_0f7a4_14 : decode cJ6_bitCount_0f7a4 14 = .ok (.iand, 1) := by decide +kernel
theorem dJ6_bitCount_0f7a4_15 : decode cJ6_bitCount_0f7a4 15 = .ok (.iload_n 0, 1) := by decide +kernel
theorem dJ6_bitCount_0f7a4_16 : decode cJ6_bitCount_0f7a4 16 = .ok (.iconst 2, 1) := by decide +kernel
theorem dJ6_bitCount_0f7a4_17 : decode cJ6_bitCount_0f7a4 17 = .ok (.iushr, 1) := by decide +kernel
theorem dJ6_bitCount_0f7a4_18 : decode cJ6_bitCount_0f7a4 18 = .ok (.ldc_w 266, 3) := by decide +kernel
theorem dJ6_bitCount_0f7a4_21 : decode cJ6_bitCount_0f7a4 21 = .ok (.iand, 1) := by decide +kernel
theorem dJ6_bitCount_0f7a4_22 : decode cJ6_bitCount_0f7a4 22 = .ok (.iadd, 1) := by decide +kernel
theorem dJ6_bitCount_0f7a4_23 : decode cJ6_bitCount_0f7a4 23 = .ok (.istore_n 0, 1) := by decide +kernel
theorem dJ6_bitCount_0f7a4_24 : decode cJ6_bitCount_0f7a4 24 = .ok (.iload_n 0, 1) := by decide +kernel
theorem dJ6_bitCount_0f7a4_25 : decode cJ6_bitCount_0f7a4 25 = .ok (.iload_n 0, 1) := by decide +kernel
theorem dJ6_bitCount_0f7a4_26 : decode cJ6_bitCount_0f7a4 26 = .ok (.iconst 4, 1) := by decide +kernel
theorem dJ6_bitCount_0f7a4_27 : decode cJ6_bitCount_0f7a4 27 = .ok (.iushr, 1) := by decide +kernel
theorem dJ6_bitCount_0f7a4_28 : decode cJ6_bitCount_0f7a4 28 = .ok (.iadd, 1) := by decide +kernel
theorem dJ6_bitCount_0f7a4_29 : decode cJ6_bitCount_0f7a4 29 = .ok (.ldc_w 267, 3) := by decide +kernel
theorem dJ6_bitCount_0f7a4_32 : decode cJ6_bitCount_0f7a4 32 = .ok (.iand, 1) := by decide +kernel
theorem dJ6_bitCount_0f7a4_33 : decode cJ6_bitCount_0f7a4 33 = .ok (.istore_n 0, 1) := by decide +kernel
theorem dJ6_bitCount_0f7a4_34 : decode cJ6_bitCount_0f7a4 34 = .ok (.iload_n 0, 1) := by decide +kernel
theorem dJ6_bitCount_0f7a4_35 : decode cJ6_bitCount_0f7a4 35 = .ok (.iload_n 0, 1) := by decide +kernel
theorem dJ6_bitCount_0f7a4_36 : decode cJ6_bitCount_0f7a4 36 = .ok (.bipush 8, 2) := by decide +kernel
theorem dJ6_bitCount_0f7a4_38 : decode cJ6_bitCount_0f7a4 38 = .ok (.iushr, 1) := by decide +kernel
theorem dJ6_bitCount_0f7a4_39 : decode cJ6_bitCount_0f7a4 39 = .ok (.iadd, 1) := by decide +kernel
theorem dJ6_bitCount_0f7a4_40 : decode cJ6_bitCount_0f7a4 40 = .ok (.istore_n 0, 1) := by decide +kernel
theorem dJ6_bitCount_0f7a4_41 : decode cJ6_bitCount_0f7a4 41 = .ok (.iload_n 0, 1) := by decide +kernel
theorem dJ6_bitCount_0f7a4_42 : decode cJ6_bitCount_0f7a4 42 = .ok (.iload_n 0, 1) := by decide +kernel
theorem dJ6_bitCount_0f7a4_43 : decode cJ6_bitCount_0f7a4 43 = .ok (.bipush 16, 2) := by decide +kernel
theorem dJ6_bitCount_0f7a4_45 : decode cJ6_bitCount_0f7a4 45 = .ok (.iushr, 1) := by decide +kernel
theorem dJ6_bitCount_0f7a4_46 : decode cJ6_bitCount_0f7a4 46 = .ok (.iadd, 1) := by decide +kernel
theorem dJ6_bitCount_0f7a4_47 : decode cJ6_bitCount_0f7a4 47 = .ok (.istore_n 0, 1) := by decide +kernel
theorem dJ6_bitCount_0f7a4_48 : decode cJ6_bitCount_0f7a4 48 = .ok (.iload_n 0, 1) := by decide +kernel
theorem dJ6_bitCount_0f7a4_49 : decode cJ6_bitCount_0f7a4 49 = .ok (.bipush 63, 2) := by decide +kernel
theorem dJ6_bitCount_0f7a4_51 : decode cJ6_bitCount_0f7a4 51 = .ok (.iand, 1) := by decide +kernel
theorem dJ6_bitCount_0f7a4_52 : decode cJ6_bitCount_0f7a4 52 = .ok (.ireturn, 1) := by decide +kernel
theorem dX11_floored_0 : decode cX11_floored 0 = .ok (.iload_n 2, 1) := by decide +kernel
theorem dX11_floored_1 : decode cX11_floored 1 = .ok (.iconst 1, 1) := by decide +kernel
theorem dX11_floored_2 : decode cX11_floored 2 = .ok (.if_icmp .gt 7, 3) := by decide +kernel
theorem dX11_floored_9 : decode cX11_floored 9 = .ok (.lload_n 0, 1) := by decide +kernel
theorem dX11_floored_10 : decode cX11_floored 10 = .ok (.iload_n 2, 1) := by decide +kernel
theorem dX11_floored_11 : decode cX11_floored 11 = .ok (.i2l, 1) := by decide +kernel
theorem dX11_floored_12 : decode cX11_floored 12 = .ok (.invokestatic 373, 3) := by decide +kernel
theorem dX11_floored_15 : decode cX11_floored 15 = .ok (.iload_n 2, 1) := by decide +kernel
theorem dX11_floored_16 : decode cX11_floored 16 = .ok (.i2l, 1) := by decide +kernel
theorem dX11_floored_17 : decode cX11_floored 17 = .ok (.lmul, 1) := by decide +kernel
theorem dX11_floored_18 : decode cX11_floored 18 = .ok (.lreturn, 1) := by decide +kernel
theorem dX11_floored_5 : decode cX11_floored 5 = .ok (.lload_n 0, 1) := by decide +kernel
theorem dX11_floored_6 : decode cX11_floored 6 = .ok (.goto 12, 3) := by decide +kernel
theorem dX0_fits_14 : decode cX0_fits 14 = .ok (.istore_n 3, 1) := by decide +kernel
theorem dX0_fits_15 : decode cX0_fits 15 = .ok (.iload_n 1, 1) := by decide +kernel
theorem dX0_fits_16 : decode cX0_fits 16 = .ok (.tableswitch 180 0 6 #[44, 65, 82, 103, 130, 140, 160], 44) := by decide +kernel
theorem dX0_fits_196 : decode cX0_fits 196 = .ok (.iconst 0, 1) := by decide +kernel
theorem dX0_fits_197 : decode cX0_fits 197 = .ok (.ireturn, 1) := by decide +kernel
theorem dX0_fits_60 : decode cX0_fits 60 = .ok (.iload_n 0, 1) := by decide +kernel
theorem dX0_fits_61 : decode cX0_fits 61 = .ok (.ifCond .ne 18, 3) := by decide +kernel
theorem dX0_fits_79 : decode cX0_fits 79 = .ok (.iconst 0, 1) := by decide +kernel
theorem dX0_fits_80 : decode cX0_fits 80 = .ok (.ireturn, 1) := by decide +kernel
theorem dX0_fits_64 : decode cX0_fits 64 = .ok (.iload_n 2, 1) := by decide +kernel
theorem dX0_fits_65 : decode cX0_fits 65 = .ok (.iconst 2, 1) := by decide +kernel
theorem dX0_fits_66 : decode cX0_fits 66 = .ok (.if_icmp .lt 13, 3) := by decide +kernel
theorem dX0_fits_69 : decode cX0_fits 69 = .ok (.iload_n 2, 1) := by decide +kernel
theorem dX0_fits_70 : decode cX0_fits 70 = .ok (.bipush 6, 2) := by decide +kernel
theorem dX0_fits_72 : decode cX0_fits 72 = .ok (.if_icmp .gt 7, 3) := by decide +kernel
theorem dX0_fits_75 : decode cX0_fits 75 = .ok (.iconst 1, 1) := by decide +kernel
theorem dX0_fits_76 : decode cX0_fits 76 = .ok (.goto 4, 3) := by decide +kernel
theorem dX0_fits_81 : decode cX0_fits 81 = .ok (.iload_n 2, 1) := by decide +kernel
theorem dX0_fits_82 : decode cX0_fits 82 = .ok (.iconst 1, 1) := by decide +kernel
theorem dX0_fits_83 : decode cX0_fits 83 = .ok (.if_icmp .lt 13, 3) := by decide +kernel
theorem dX0_fits_96 : decode cX0_fits 96 = .ok (.iconst 0, 1) := by decide +kernel
theorem dX0_fits_97 : decode cX0_fits 97 = .ok (.ireturn, 1) := by decide +kernel
theorem dX0_fits_86 : decode cX0_fits 86 = .ok (.iload_n 2, 1) := by decide +kernel
theorem dX0_fits_87 : decode cX0_fits 87 = .ok (.bipush 10, 2) := by decide +kernel
theorem dX0_fits_89 : decode cX0_fits 89 = .ok (.if_icmp .gt 7, 3) := by decide +kernel
theorem dX0_fits_92 : decode cX0_fits 92 = .ok (.iconst 1, 1) := by decide +kernel
theorem dX0_fits_93 : decode cX0_fits 93 = .ok (.goto 4, 3) := by decide +kernel
theorem dX0_fits_98 : decode cX0_fits 98 = .ok (.iload_n 0, 1) := by decide +kernel
theorem dX0_fits_99 : decode cX0_fits 99 = .ok (.bipush 7, 2) := by decide +kernel
theorem dX0_fits_101 : decode cX0_fits 101 = .ok (.if_icmp .ne 16, 3) := by decide +kernel
theorem dX0_fits_117 : decode cX0_fits 117 = .ok (.iconst 0, 1) := by decide +kernel
theorem dX0_fits_118 : decode cX0_fits 118 = .ok (.ireturn, 1) := by decide +kernel
theorem dX0_fits_104 : decode cX0_fits 104 = .ok (.iload_n 2, 1) := by decide +kernel
theorem dX0_fits_105 : decode cX0_fits 105 = .ok (.ifCond .lt 12, 3) := by decide +kernel
theorem dX0_fits_108 : decode cX0_fits 108 = .ok (.iload_n 2, 1) := by decide +kernel
theorem dX0_fits_109 : decode cX0_fits 109 = .ok (.iconst 1, 1) := by decide +kernel
theorem dX0_fits_110 : decode cX0_fits 110 = .ok (.if_icmp .gt 7, 3) := by decide +kernel
theorem dX0_fits_113 : decode cX0_fits 113 = .ok (.iconst 1, 1) := by decide +kernel
theorem dX0_fits_114 : decode cX0_fits 114 = .ok (.goto 4, 3) := by decide +kernel
theorem dX0_fits_119 : decode cX0_fits 119 = .ok (.iload_n 3, 1) := by decide +kernel
theorem dX0_fits_120 : decode cX0_fits 120 = .ok (.ifCond .ne 9, 3) := by decide +kernel
theorem dX0_fits_129 : decode cX0_fits 129 = .ok (.iload_n 2, 1) := by decide +kernel
theorem dX0_fits_130 : decode cX0_fits 130 = .ok (.iconst 2, 1) := by decide +kernel
theorem dX0_fits_131 : decode cX0_fits 131 = .ok (.if_icmp .lt 13, 3) := by decide +kernel
theorem dX0_fits_144 : decode cX0_fits 144 = .ok (.iconst 0, 1) := by decide +kernel
theorem dX0_fits_145 : decode cX0_fits 145 = .ok (.ireturn, 1) := by decide +kernel
theorem dX0_fits_134 : decode cX0_fits 134 = .ok (.iload_n 2, 1) := by decide +kernel
theorem dX0_fits_135 : decode cX0_fits 135 = .ok (.bipush 99, 2) := by decide +kernel
theorem dX0_fits_137 : decode cX0_fits 137 = .ok (.if_icmp .gt 7, 3) := by decide +kernel
theorem dX0_fits_140 : decode cX0_fits 140 = .ok (.iconst 1, 1) := by decide +kernel
theorem dX0_fits_141 : decode cX0_fits 141 = .ok (.goto 4, 3) := by decide +kernel
theorem dX0_fits_123 : decode cX0_fits 123 = .ok (.iload_n 0, 1) := by decide +kernel
theorem dX0_fits_124 : decode cX0_fits 124 = .ok (.bipush 6, 2) := by decide +kernel
theorem dX0_fits_126 : decode cX0_fits 126 = .ok (.if_icmp .ne 18, 3) := by decide +kernel
theorem dX0_fits_146 : decode cX0_fits 146 = .ok (.iload_n 2, 1) := by decide +kernel
theorem dX0_fits_147 : decode cX0_fits 147 = .ok (.ifCond .ne 7, 3) := by decide +kernel
theorem dX0_fits_154 : decode cX0_fits 154 = .ok (.iconst 0, 1) := by decide +kernel
theorem dX0_fits_155 : decode cX0_fits 155 = .ok (.ireturn, 1) := by decide +kernel
theorem dX0_fits_150 : decode cX0_fits 150 = .ok (.iconst 1, 1) := by decide +kernel
theorem dX0_fits_151 : decode cX0_fits 151 = .ok (.goto 4, 3) := by decide +kernel
theorem dX0_fits_156 : decode cX0_fits 156 = .ok (.iload_n 3, 1) := by decide +kernel
theorem dX0_fits_157 : decode cX0_fits 157 = .ok (.ifCond .eq 17, 3) := by decide +kernel
theorem dX0_fits_174 : decode cX0_fits 174 = .ok (.iconst 0, 1) := by decide +kernel
theorem dX0_fits_175 : decode cX0_fits 175 = .ok (.ireturn, 1) := by decide +kernel
theorem dX0_fits_160 : decode cX0_fits 160 = .ok (.iload_n 2, 1) := by decide +kernel
theorem dX0_fits_161 : decode cX0_fits 161 = .ok (.iconst 1, 1) := by decide +kernel
theorem dX0_fits_162 : decode cX0_fits 162 = .ok (.if_icmp .lt 12, 3) := by decide +kernel
theorem dX0_fits_165 : decode cX0_fits 165 = .ok (.iload_n 2, 1) := by decide +kernel
theorem dX0_fits_166 : decode cX0_fits 166 = .ok (.iconst 5, 1) := by decide +kernel
theorem dX0_fits_167 : decode cX0_fits 167 = .ok (.if_icmp .gt 7, 3) := by decide +kernel
theorem dX0_fits_170 : decode cX0_fits 170 = .ok (.iconst 1, 1) := by decide +kernel
theorem dX0_fits_171 : decode cX0_fits 171 = .ok (.goto 4, 3) := by decide +kernel
theorem dX0_fits_176 : decode cX0_fits 176 = .ok (.iload_n 3, 1) := by decide +kernel
theorem dX0_fits_177 : decode cX0_fits 177 = .ok (.ifCond .ne 9, 3) := by decide +kernel
theorem dX0_fits_186 : decode cX0_fits 186 = .ok (.iload_n 2, 1) := by decide +kernel
theorem dX0_fits_187 : decode cX0_fits 187 = .ok (.ifCond .ne 7, 3) := by decide +kernel
theorem dX0_fits_194 : decode cX0_fits 194 = .ok (.iconst 0, 1) := by decide +kernel
theorem dX0_fits_195 : decode cX0_fits 195 = .ok (.ireturn, 1) := by decide +kernel
theorem dX0_fits_190 : decode cX0_fits 190 = .ok (.iconst 1, 1) := by decide +kernel
theorem dX0_fits_191 : decode cX0_fits 191 = .ok (.goto 4, 3) := by decide +kernel
theorem dX0_fits_180 : decode cX0_fits 180 = .ok (.iload_n 0, 1) := by decide +kernel
theorem dX0_fits_181 : decode cX0_fits 181 = .ok (.bipush 6, 2) := by decide +kernel
theorem dX0_fits_183 : decode cX0_fits 183 = .ok (.if_icmp .ne 11, 3) := by decide +kernel
theorem dX0_fits_0 : decode cX0_fits 0 = .ok (.iload_n 0, 1) := by decide +kernel
theorem dX0_fits_1 : decode cX0_fits 1 = .ok (.ifCond .eq 8, 3) := by decide +kernel
theorem dX0_fits_9 : decode cX0_fits 9 = .ok (.iconst 1, 1) := by decide +kernel
theorem dX0_fits_10 : decode cX0_fits 10 = .ok (.goto 4, 3) := by decide +kernel
theorem dX0_fits_4 : decode cX0_fits 4 = .ok (.iload_n 0, 1) := by decide +kernel
theorem dX0_fits_5 : decode cX0_fits 5 = .ok (.iconst 1, 1) := by decide +kernel
theorem dX0_fits_6 : decode cX0_fits 6 = .ok (.if_icmp .ne 7, 3) := by decide +kernel
theorem dX0_fits_13 : decode cX0_fits 13 = .ok (.iconst 0, 1) := by decide +kernel
theorem dX10_sourceOf_0 : decode cX10_sourceOf 0 = .ok (.iload_n 0, 1) := by decide +kernel
theorem dX10_sourceOf_1 : decode cX10_sourceOf 1 = .ok (.ifCond .le 13, 3) := by decide +kernel
theorem dX10_sourceOf_14 : decode cX10_sourceOf 14 = .ok (.iconst 0, 1) := by decide +kernel
theorem dX10_sourceOf_15 : decode cX10_sourceOf 15 = .ok (.istore_n 2, 1) := by decide +kernel
theorem dX10_sourceOf_16 : decode cX10_sourceOf 16 = .ok (.iload_n 1, 1) := by decide +kernel
theorem dX10_sourceOf_17 : decode cX10_sourceOf 17 = .ok (.bipush 6, 2) := by decide +kernel
theorem dX10_sourceOf_19 : decode cX10_sourceOf 19 = .ok (.if_icmp .ne 13, 3) := by decide +kernel
theorem dX10_sourceOf_32 : decode cX10_sourceOf 32 = .ok (.iload_n 0, 1) := by decide +kernel
theorem dX10_sourceOf_33 : decode cX10_sourceOf 33 = .ok (.ireturn, 1) := by decide +kernel
theorem dX10_sourceOf_22 : decode cX10_sourceOf 22 = .ok (.iload_n 2, 1) := by decide +kernel
theorem dX10_sourceOf_23 : decode cX10_sourceOf 23 = .ok (.ifCond .eq 9, 3) := by decide +kernel
theorem dX10_sourceOf_4 : decode cX10_sourceOf 4 = .ok (.iload_n 0, 1) := by decide +kernel
theorem dX10_sourceOf_5 : decode cX10_sourceOf 5 = .ok (.bipush 40, 2) := by decide +kernel
theorem dX10_sourceOf_7 : decode cX10_sourceOf 7 = .ok (.if_icmp .ge 7, 3) := by decide +kernel
theorem dX10_sourceOf_10 : decode cX10_sourceOf 10 = .ok (.iconst 1, 1) := by decide +kernel
theorem dX10_sourceOf_11 : decode cX10_sourceOf 11 = .ok (.goto 4, 3) := by decide +kernel
theorem dX10_sourceOf_26 : decode cX10_sourceOf 26 = .ok (.iload_n 0, 1) := by decide +kernel
theorem dX10_sourceOf_27 : decode cX10_sourceOf 27 = .ok (.iconst 1, 1) := by decide +kernel
theorem dX10_sourceOf_28 : decode cX10_sourceOf 28 = .ok (.isub, 1) := by decide +kernel
theorem dX10_sourceOf_29 : decode cX10_sourceOf 29 = .ok (.goto 4, 3) := by decide +kernel
theorem dX11_greatestDivisor_0 : decode cX11_greatestDivisor 0 = .ok (.lload_n 0, 1) := by decide +kernel
theorem dX11_greatestDivisor_1 : decode cX11_greatestDivisor 1 = .ok (.lstore 4, 2) := by decide +kernel
theorem dX11_greatestDivisor_3 : decode cX11_greatestDivisor 3 = .ok (.lload_n 2, 1) := by decide +kernel
theorem dX11_greatestDivisor_4 : decode cX11_greatestDivisor 4 = .ok (.lstore 6, 2) := by decide +kernel
theorem dX11_greatestDivisor_6 : decode cX11_greatestDivisor 6 = .ok (.iconst 0, 1) := by decide +kernel
theorem dX11_greatestDivisor_7 : decode cX11_greatestDivisor 7 = .ok (.istore 8, 2) := by decide +kernel
theorem dX11_greatestDivisor_9 : decode cX11_greatestDivisor 9 = .ok (.iload 8, 2) := by decide +kernel
theorem dX11_greatestDivisor_11 : decode cX11_greatestDivisor 11 = .ok (.sipush 128, 3) := by decide +kernel
theorem dX11_greatestDivisor_14 : decode cX11_greatestDivisor 14 = .ok (.if_icmp .ge 31, 3) := by decide +kernel
theorem dX11_greatestDivisor_45 : decode cX11_greatestDivisor 45 = .ok (.lload 4, 2) := by decide +kernel
theorem dX11_greatestDivisor_47 : decode cX11_greatestDivisor 47 = .ok (.lreturn, 1) := by decide +kernel
theorem dX11_greatestDivisor_17 : decode cX11_greatestDivisor 17 = .ok (.lload 6, 2) := by decide +kernel
theorem dX11_greatestDivisor_19 : decode cX11_greatestDivisor 19 = .ok (.lconst 0, 1) := by decide +kernel
theorem dX11_greatestDivisor_20 : decode cX11_greatestDivisor 20 = .ok (.lcmp, 1) := by decide +kernel
theorem dX11_greatestDivisor_21 : decode cX11_greatestDivisor 21 = .ok (.ifCond .eq 24, 3) := by decide +kernel
theorem dX11_greatestDivisor_24 : decode cX11_greatestDivisor 24 = .ok (.lload 4, 2) := by decide +kernel
theorem dX11_greatestDivisor_26 : decode cX11_greatestDivisor 26 = .ok (.lload 6, 2) := by decide +kernel
theorem dX11_greatestDivisor_28 : decode cX11_greatestDivisor 28 = .ok (.lrem, 1) := by decide +kernel
theorem dX11_greatestDivisor_29 : decode cX11_greatestDivisor 29 = .ok (.lstore 9, 2) := by decide +kernel
theorem dX11_greatestDivisor_31 : decode cX11_greatestDivisor 31 = .ok (.lload 6, 2) := by decide +kernel
theorem dX11_greatestDivisor_33 : decode cX11_greatestDivisor 33 = .ok (.lstore 4, 2) := by decide +kernel
theorem dX11_greatestDivisor_35 : decode cX11_greatestDivisor 35 = .ok (.lload 9, 2) := by decide +kernel
theorem dX11_greatestDivisor_37 : decode cX11_greatestDivisor 37 = .ok (.lstore 6, 2) := by decide +kernel
theorem dX11_greatestDivisor_39 : decode cX11_greatestDivisor 39 = .ok (.iinc 8 1, 3) := by decide +kernel
theorem dX11_greatestDivisor_42 : decode cX11_greatestDivisor 42 = .ok (.goto (-33), 3) := by decide +kernel
theorem dX11_isBetter_0 : decode cX11_isBetter 0 = .ok (.iload_n 0, 1) := by decide +kernel
theorem dX11_isBetter_1 : decode cX11_isBetter 1 = .ok (.iload_n 2, 1) := by decide +kernel
theorem dX11_isBetter_2 : decode cX11_isBetter 2 = .ok (.if_icmp .eq 14, 3) := by decide +kernel
theorem dX11_isBetter_16 : decode cX11_isBetter 16 = .ok (.iload_n 1, 1) := by decide +kernel
theorem dX11_isBetter_17 : decode cX11_isBetter 17 = .ok (.invokestatic 321, 3) := by decide +kernel
theorem dX11_isBetter_20 : decode cX11_isBetter 20 = .ok (.istore 4, 2) := by decide +kernel
theorem dX11_isBetter_22 : decode cX11_isBetter 22 = .ok (.iload_n 3, 1) := by decide +kernel
theorem dX11_isBetter_23 : decode cX11_isBetter 23 = .ok (.invokestatic 321, 3) := by decide +kernel
theorem dX11_isBetter_26 : decode cX11_isBetter 26 = .ok (.istore 5, 2) := by decide +kernel
theorem dX11_isBetter_28 : decode cX11_isBetter 28 = .ok (.iload 4, 2) := by decide +kernel
theorem dX11_isBetter_30 : decode cX11_isBetter 30 = .ok (.iload 5, 2) := by decide +kernel
theorem dX11_isBetter_32 : decode cX11_isBetter 32 = .ok (.if_icmp .eq 18, 3) := by decide +kernel
theorem dX11_isBetter_50 : decode cX11_isBetter 50 = .ok (.iload_n 1, 1) := by decide +kernel
theorem dX11_isBetter_51 : decode cX11_isBetter 51 = .ok (.iload_n 3, 1) := by decide +kernel
theorem dX11_isBetter_52 : decode cX11_isBetter 52 = .ok (.if_icmp .ge 7, 3) := by decide +kernel
theorem dX11_isBetter_59 : decode cX11_isBetter 59 = .ok (.iconst 0, 1) := by decide +kernel
theorem dX11_isBetter_60 : decode cX11_isBetter 60 = .ok (.ireturn, 1) := by decide +kernel
theorem dX11_isBetter_55 : decode cX11_isBetter 55 = .ok (.iconst 1, 1) := by decide +kernel
theorem dX11_isBetter_56 : decode cX11_isBetter 56 = .ok (.goto 4, 3) := by decide +kernel
theorem dX11_isBetter_35 : decode cX11_isBetter 35 = .ok (.iload 4, 2) := by decide +kernel
theorem dX11_isBetter_37 : decode cX11_isBetter 37 = .ok (.iload 5, 2) := by decide +kernel
theorem dX11_isBetter_39 : decode cX11_isBetter 39 = .ok (.if_icmp .ge 7, 3) := by decide +kernel
theorem dX11_isBetter_46 : decode cX11_isBetter 46 = .ok (.iconst 0, 1) := by decide +kernel
theorem dX11_isBetter_47 : decode cX11_isBetter 47 = .ok (.goto 13, 3) := by decide +kernel
theorem dX11_isBetter_42 : decode cX11_isBetter 42 = .ok (.iconst 1, 1) := by decide +kernel
theorem dX11_isBetter_43 : decode cX11_isBetter 43 = .ok (.goto 17, 3) := by decide +kernel
theorem dX11_isBetter_5 : decode cX11_isBetter 5 = .ok (.iload_n 0, 1) := by decide +kernel
theorem dX11_isBetter_6 : decode cX11_isBetter 6 = .ok (.iload_n 2, 1) := by decide +kernel
theorem dX11_isBetter_7 : decode cX11_isBetter 7 = .ok (.if_icmp .le 7, 3) := by decide +kernel
theorem dX11_isBetter_14 : decode cX11_isBetter 14 = .ok (.iconst 0, 1) := by decide +kernel
theorem dX11_isBetter_15 : decode cX11_isBetter 15 = .ok (.ireturn, 1) := by decide +kernel
theorem dX11_isBetter_10 : decode cX11_isBetter 10 = .ok (.iconst 1, 1) := by decide +kernel
theorem dX11_isBetter_11 : decode cX11_isBetter 11 = .ok (.goto 4, 3) := by decide +kernel
theorem dX2_choiceIn_0 : decode cX2_choiceIn 0 = .ok (.sipush 4095, 3) := by decide +kernel
theorem dX2_choiceIn_3 : decode cX2_choiceIn 3 = .ok (.iload_n 0, 1) := by decide +kernel
theorem dX2_choiceIn_4 : decode cX2_choiceIn 4 = .ok (.sipush 4095, 3) := by decide +kernel
theorem dX2_choiceIn_7 : decode cX2_choiceIn 7 = .ok (.iand, 1) := by decide +kernel
theorem dX2_choiceIn_8 : decode cX2_choiceIn 8 = .ok (.isub, 1) := by decide +kernel
theorem dX2_choiceIn_9 : decode cX2_choiceIn 9 = .ok (.ireturn, 1) := by decide +kernel
theorem dX8_leastProduct_0 : decode cX8_leastProduct 0 = .ok (.lload_n 0, 1) := by decide +kernel
theorem dX8_leastProduct_1 : decode cX8_leastProduct 1 = .ok (.lload 4, 2) := by decide +kernel
theorem dX8_leastProduct_3 : decode cX8_leastProduct 3 = .ok (.lmul, 1) := by decide +kernel
theorem dX8_leastProduct_4 : decode cX8_leastProduct 4 = .ok (.lload_n 0, 1) := by decide +kernel
theorem dX8_leastProduct_5 : decode cX8_leastProduct 5 = .ok (.lload 6, 2) := by decide +kernel
theorem dX8_leastProduct_7 : decode cX8_leastProduct 7 = .ok (.lmul, 1) := by decide +kernel
theorem dX8_leastProduct_8 : decode cX8_leastProduct 8 = .ok (.invokestatic 147, 3) := by decide +kernel
theorem dX8_leastProduct_11 : decode cX8_leastProduct 11 = .ok (.lload_n 2, 1) := by decide +kernel
theorem dX8_leastProduct_12 : decode cX8_leastProduct 12 = .ok (.lload 4, 2) := by decide +kernel
theorem dX8_leastProduct_14 : decode cX8_leastProduct 14 = .ok (.lmul, 1) := by decide +kernel
theorem dX8_leastProduct_15 : decode cX8_leastProduct 15 = .ok (.lload_n 2, 1) := by decide +kernel
theorem dX8_leastProduct_16 : decode cX8_leastProduct 16 = .ok (.lload 6, 2) := by decide +kernel
theorem dX8_leastProduct_18 : decode cX8_leastProduct 18 = .ok (.lmul, 1) := by decide +kernel
theorem dX8_leastProduct_19 : decode cX8_leastProduct 19 = .ok (.invokestatic 147, 3) := by decide +kernel
theorem dX8_leastProduct_22 : decode cX8_leastProduct 22 = .ok (.invokestatic 147, 3) := by decide +kernel
theorem dX8_leastProduct_25 : decode cX8_leastProduct 25 = .ok (.lreturn, 1) := by decide +kernel
theorem dX8_greatestProduct_0 : decode cX8_greatestProduct 0 = .ok (.lload_n 0, 1) := by decide +kernel
theorem dX8_greatestProduct_1 : decode cX8_greatestProduct 1 = .ok (.lload 4, 2) := by decide +kernel
theorem dX8_greatestProduct_3 : decode cX8_greatestProduct 3 = .ok (.lmul, 1) := by decide +kernel
theorem dX8_greatestProduct_4 : decode cX8_greatestProduct 4 = .ok (.lload_n 0, 1) := by decide +kernel
theorem dX8_greatestProduct_5 : decode cX8_greatestProduct 5 = .ok (.lload 6, 2) := by decide +kernel
theorem dX8_greatestProduct_7 : decode cX8_greatestProduct 7 = .ok (.lmul, 1) := by decide +kernel
theorem dX8_greatestProduct_8 : decode cX8_greatestProduct 8 = .ok (.invokestatic 109, 3) := by decide +kernel
theorem dX8_greatestProduct_11 : decode cX8_greatestProduct 11 = .ok (.lload_n 2, 1) := by decide +kernel
theorem dX8_greatestProduct_12 : decode cX8_greatestProduct 12 = .ok (.lload 4, 2) := by decide +kernel
theorem dX8_greatestProduct_14 : decode cX8_greatestProduct 14 = .ok (.lmul, 1) := by decide +kernel
theorem dX8_greatestProduct_15 : decode cX8_greatestProduct 15 = .ok (.lload_n 2, 1) := by decide +kernel
theorem dX8_greatestProduct_16 : decode cX8_greatestProduct 16 = .ok (.lload 6, 2) := by decide +kernel
theorem dX8_greatestProduct_18 : decode cX8_greatestProduct 18 = .ok (.lmul, 1) := by decide +kernel
theorem dX8_greatestProduct_19 : decode cX8_greatestProduct 19 = .ok (.invokestatic 109, 3) := by decide +kernel
theorem dX8_greatestProduct_22 : decode cX8_greatestProduct 22 = .ok (.invokestatic 109, 3) := by decide +kernel
theorem dX8_greatestProduct_25 : decode cX8_greatestProduct 25 = .ok (.lreturn, 1) := by decide +kernel
theorem rx_aac7aaf654 : Int32.ofInt 63 = 63 := by decide
theorem rx_745f463bf8 : Int32.ofInt 128 = 128 := by decide
theorem rx_c53a69782d : (128 : Int32).toInt = 128 := by decide
theorem rx_4723659b9f : Int32.ofInt 4095 = 4095 := by decide
def ow_k_floorDiv : List Cond := []
def vs_k_floorDiv : List Cond := .code yJ9_floorDiv_f86c9 cJ9_floorDiv_f86c9 6 (some .long) :: (ow_k_floorDiv)
theorem vg_k_floorDiv : vs_k_floorDiv.all goodWord = true := by decide +kernel
theorem dd_k_floorDiv : yJ9_floorDiv_f86c9.cls ≠ "java/lang/invoke/MethodHandle" ∧ yJ9_floorDiv_f86c9.cls ≠ "java/lang/invoke/VarHandle" ∧ (parseMethodDescriptor yJ9_floorDiv_f86c9.desc).map (fun d => d.parameters.length) = some 2 := by decide +kernel
def rm_k_floorDiv : Room := { frames := 0, cells := 0, slots := 0, locals := 0 }
set_option maxHeartbeats 4000000 in
set_option maxRecDepth 100000 in
theorem k_floorDiv (l : Launch) (dC : Nat → ClassId) (dI : Nat → Nat → Nat) (x : Int64) (y : Int64) (hy : ¬ y = 0) (sz : Nat) : Met l yJ9_floorDiv_f86c9 vs_k_floorDiv rm_k_floorDiv (va_Pc [.long x, .long y] (wSt dC dI [] [] sz)) (va_Ql (fun (r : Int64) (_ : Unit) => True) (fun (_ : Unit) => wEn dC dI (va_A [] sz) [] []) (va_A [] sz)) 0 0 (va_A [] sz) := by
  refine va_MetF (cc := cJ9_floorDiv_f86c9) (maxL := 6) (ret := (some .long)) (by decide +kernel) rfl ?_
  intro p e s m args below meth c s₁ B hml hv
  obtain ⟨rfl, hsz, hP, hK, hD0, hE⟩ := hv
  have hx := B.exec
  have hb := B.bytes
  have hr := B.returns
  have hts := atoms_spec (ws := vs_k_floorDiv) B.pre
  have hown : s.vm.findClass RJ9 = some m.cls := findClass_of_methodNamed B.named
  have hlocks := B.notSynchronized
  subst hsz
  have hD := hD0.self (sz := s.heap.size)
  generalize hAe : va_A [] s.heap.size = A at hD ⊢
  have hA : ∀ q : Nat, s.heap.size ≤ q → A q := fun q h => by rw [← hAe]; exact Or.inr h
  have hl := lv_entry ([.long x, .long y]) (n := 6) (Nat.le_of_ble_eq_true rfl)
  rw [lg_entry_eq]
  generalize (lg_sl ([.long x, .long y]) ++ List.replicate (6 - (lg_sl ([.long x, .long y])).length) Slot.unset).toArray = ls at hl ⊢
  have hl : lv_has ls 6 [(0, .long x), (2, .long y)] := hl
  have ho := fun w (h : w ∈ ow_k_floorDiv) => hts w (List.mem_cons_of_mem _ h)
  refine zQ (fun Q hQ => ?_)
  refine zH (A := A) (ws := []) (fun H hP hS => ?_) hP
  refine lv_lload_n hx hb dJ9_floorDiv_f86c9_0 rfl (lv_at hl 0 rfl) ?_
  refine lv_lload_n hx hb dJ9_floorDiv_f86c9_1 rfl (lv_at hl 1 rfl) ?_
  refine lv_ldiv hx hb dJ9_floorDiv_f86c9_2 hy ?_
  refine lv_topl (fun y1_ ey1_ => ?_)
  refine lv_lstore (lv' := [(4, .long y1_), (0, .long x), (2, .long y)]) hx hb dJ9_floorDiv_f86c9_3 hl (Nat.le_of_ble_eq_true rfl) rfl (fun ls hl => ?_)
  refine lv_lload_n hx hb dJ9_floorDiv_f86c9_5 rfl (lv_at hl 1 rfl) ?_
  refine lv_lload_n hx hb dJ9_floorDiv_f86c9_6 rfl (lv_at hl 2 rfl) ?_
  refine lv_lxor hx hb dJ9_floorDiv_f86c9_7 ?_
  refine lv_topl (fun y2_ ey2_ => ?_)
  refine lv_lconst (v := 0) hx hb dJ9_floorDiv_f86c9_8 (by decide) ?_
  refine W.lcmp hx hb dJ9_floorDiv_f86c9_9 ?_
  refine lv_topi (fun z3_ ez3_ => ?_)
  refine lv_if_ge (tgt := 27) hx hb dJ9_floorDiv_f86c9_10 rfl (fun c4_ => ?_) (fun c4_ => ?_)
  · have tc4_ := (show 0 ≤ z3_.toInt from ti_le rg_11 rfl c4_)
    have lc4_ : (0 : Int64) ≤ y2_ := (lg_cmp_ge y2_ 0).mp (by rw [← ez3_]; exact c4_)
    refine lv_lload hx hb dJ9_floorDiv_f86c9_27 (lv_at hl 0 rfl) ?_
    rw [hQ]
    exact W.lret (v := y1_) hx hb hr (fun t ht hW => ⟨⟨y1_, (), rfl, trivial, wEn_of empP (hK.sub [] rfl) empD ht hW⟩, hS.F ht⟩) hS.2.2 dJ9_floorDiv_f86c9_29
  · have tc4_ := (show z3_.toInt < 0 from ti_nle rg_11 rfl c4_)
    have lc4_ : ¬ (0 : Int64) ≤ y2_ := fun h => c4_ (by rw [ez3_]; exact (lg_cmp_ge y2_ 0).mpr h)
    refine lv_lload hx hb dJ9_floorDiv_f86c9_13 (lv_at hl 0 rfl) ?_
    refine lv_lload_n hx hb dJ9_floorDiv_f86c9_15 rfl (lv_at hl 2 rfl) ?_
    refine lv_lmul hx hb dJ9_floorDiv_f86c9_16 ?_
    refine lv_topl (fun y5_ ey5_ => ?_)
    refine lv_lload_n hx hb dJ9_floorDiv_f86c9_17 rfl (lv_at hl 1 rfl) ?_
    refine W.lcmp hx hb dJ9_floorDiv_f86c9_18 ?_
    refine lv_topi (fun z6_ ez6_ => ?_)
    refine lv_if_eq (tgt := 27) hx hb dJ9_floorDiv_f86c9_19 rfl (fun c7_ => ?_) (fun c7_ => ?_)
    · have tc7_ := (show z6_.toInt = 0 from ti_eq rfl rg_11 c7_)
      have lc7_ : y5_ = x := (lg_cmp_eq y5_ x).mp (by rw [← ez6_]; exact c7_)
      refine lv_lload hx hb dJ9_floorDiv_f86c9_27 (lv_at hl 0 rfl) ?_
      rw [hQ]
      exact W.lret (v := y1_) hx hb hr (fun t ht hW => ⟨⟨y1_, (), rfl, trivial, wEn_of empP (hK.sub [] rfl) empD ht hW⟩, hS.F ht⟩) hS.2.2 dJ9_floorDiv_f86c9_29
    · have tc7_ := (show z6_.toInt ≠ 0 from ti_ne rfl rg_11 c7_)
      have lc7_ : ¬ y5_ = x := fun h => c7_ (by rw [ez6_]; exact (lg_cmp_eq y5_ x).mpr h)
      refine lv_lload hx hb dJ9_floorDiv_f86c9_22 (lv_at hl 0 rfl) ?_
      refine lv_lconst (v := 1) hx hb dJ9_floorDiv_f86c9_24 (by decide) ?_
      refine lv_lsub hx hb dJ9_floorDiv_f86c9_25 ?_
      refine lv_topl (fun y8_ ey8_ => ?_)
      rw [hQ]
      exact W.lret (v := y8_) hx hb hr (fun t ht hW => ⟨⟨y8_, (), rfl, trivial, wEn_of empP (hK.sub [] rfl) empD ht hW⟩, hS.F ht⟩) hS.2.2 dJ9_floorDiv_f86c9_26
def ow_k_floorMod : List Cond := []
def vs_k_floorMod : List Cond := .code yJ9_floorMod_f86c9 cJ9_floorMod_f86c9 6 (some .long) :: (ow_k_floorMod)
theorem vg_k_floorMod : vs_k_floorMod.all goodWord = true := by decide +kernel
theorem dd_k_floorMod : yJ9_floorMod_f86c9.cls ≠ "java/lang/invoke/MethodHandle" ∧ yJ9_floorMod_f86c9.cls ≠ "java/lang/invoke/VarHandle" ∧ (parseMethodDescriptor yJ9_floorMod_f86c9.desc).map (fun d => d.parameters.length) = some 2 := by decide +kernel
def rm_k_floorMod : Room := { frames := 0, cells := 0, slots := 0, locals := 0 }
set_option maxHeartbeats 4000000 in
set_option maxRecDepth 100000 in
theorem k_floorMod (l : Launch) (dC : Nat → ClassId) (dI : Nat → Nat → Nat) (x : Int64) (y : Int64) (hy : 1 ≤ y.toInt ∧ y.toInt ≤ 6) (sz : Nat) : Met l yJ9_floorMod_f86c9 vs_k_floorMod rm_k_floorMod (va_Pc [.long x, .long y] (wSt dC dI [] [] sz)) (va_Ql (fun (r : Int64) (_ : Unit) => (0 ≤ r.toInt ∧ r.toInt < y.toInt)) (fun (_ : Unit) => wEn dC dI (va_A [] sz) [] []) (va_A [] sz)) 0 0 (va_A [] sz) := by
  refine va_MetF (cc := cJ9_floorMod_f86c9) (maxL := 6) (ret := (some .long)) (by decide +kernel) rfl ?_
  intro p e s m args below meth c s₁ B hml hv
  obtain ⟨rfl, hsz, hP, hK, hD0, hE⟩ := hv
  have hx := B.exec
  have hb := B.bytes
  have hr := B.returns
  have hts := atoms_spec (ws := vs_k_floorMod) B.pre
  have hown : s.vm.findClass RJ9 = some m.cls := findClass_of_methodNamed B.named
  have hlocks := B.notSynchronized
  subst hsz
  have hD := hD0.self (sz := s.heap.size)
  generalize hAe : va_A [] s.heap.size = A at hD ⊢
  have hA : ∀ q : Nat, s.heap.size ≤ q → A q := fun q h => by rw [← hAe]; exact Or.inr h
  have hl := lv_entry ([.long x, .long y]) (n := 6) (Nat.le_of_ble_eq_true rfl)
  rw [lg_entry_eq]
  generalize (lg_sl ([.long x, .long y]) ++ List.replicate (6 - (lg_sl ([.long x, .long y])).length) Slot.unset).toArray = ls at hl ⊢
  have hl : lv_has ls 6 [(0, .long x), (2, .long y)] := hl
  have ho := fun w (h : w ∈ ow_k_floorMod) => hts w (List.mem_cons_of_mem _ h)
  refine zQ (fun Q hQ => ?_)
  refine zH (A := A) (ws := []) (fun H hP hS => ?_) hP
  refine lv_lload_n hx hb dJ9_floorMod_f86c9_0 rfl (lv_at hl 0 rfl) ?_
  refine lv_lload_n hx hb dJ9_floorMod_f86c9_1 rfl (lv_at hl 1 rfl) ?_
  refine lv_lrem hx hb dJ9_floorMod_f86c9_2 (fun h9 => absurd (congrArg Int64.toInt h9) (show y.toInt ≠ (0 : Int64).toInt from fun h8 => by have h7 : (0 : Int64).toInt = 0 := (by decide); omega)) ?_
  refine lv_topl (fun y1_ ey1_ => ?_)
  have fm_ := fmod_ok ey1_ hy.1 hy.2
  refine lv_lstore (lv' := [(4, .long y1_), (0, .long x), (2, .long y)]) hx hb dJ9_floorMod_f86c9_3 hl (Nat.le_of_ble_eq_true rfl) rfl (fun ls hl => ?_)
  refine lv_lload_n hx hb dJ9_floorMod_f86c9_5 rfl (lv_at hl 1 rfl) ?_
  refine lv_lload_n hx hb dJ9_floorMod_f86c9_6 rfl (lv_at hl 2 rfl) ?_
  refine lv_lxor hx hb dJ9_floorMod_f86c9_7 ?_
  refine lv_topl (fun y2_ ey2_ => ?_)
  refine lv_lconst (v := 0) hx hb dJ9_floorMod_f86c9_8 (by decide) ?_
  refine W.lcmp hx hb dJ9_floorMod_f86c9_9 ?_
  refine lv_topi (fun z3_ ez3_ => ?_)
  have o1 : 0 ≤ y.toInt := by omega
  have xn_ := lxor_neg ey2_ o1
  refine lv_if_ge (tgt := 25) hx hb dJ9_floorMod_f86c9_10 rfl (fun c4_ => ?_) (fun c4_ => ?_)
  · have tc4_ := (show 0 ≤ z3_.toInt from ti_le rg_11 rfl c4_)
    have lc4_ : (0 : Int64) ≤ y2_ := (lg_cmp_ge y2_ 0).mp (by rw [← ez3_]; exact c4_)
    have xx_ : ¬ x < 0 := fun h9 => absurd (Int64.lt_iff_toInt_lt.mp (xn_.mpr h9)) (Int.not_lt.mpr (Int64.le_iff_toInt_le.mp lc4_))
    have fn_ := fm_.2.1 xx_
    refine lv_lload hx hb dJ9_floorMod_f86c9_25 (lv_at hl 0 rfl) ?_
    have o2 : 0 ≤ y1_.toInt := by omega
    have o3 : y1_.toInt < y.toInt := by omega
    rw [hQ]
    exact W.lret (v := y1_) hx hb hr (fun t ht hW => ⟨⟨y1_, (), rfl, (show 0 ≤ y1_.toInt ∧ y1_.toInt < y.toInt from ⟨o2, o3⟩), wEn_of empP (hK.sub [] rfl) empD ht hW⟩, hS.F ht⟩) hS.2.2 dJ9_floorMod_f86c9_27
  · have tc4_ := (show z3_.toInt < 0 from ti_nle rg_11 rfl c4_)
    have lc4_ : ¬ (0 : Int64) ≤ y2_ := fun h => c4_ (by rw [ez3_]; exact (lg_cmp_ge y2_ 0).mpr h)
    have xx_ : x < 0 := xn_.mp (Classical.byContradiction (fun h9 => lc4_ (Int64.le_iff_toInt_le.mpr (Int.not_lt.mp (fun h8 => h9 (Int64.lt_iff_toInt_lt.mpr h8))))))
    have fn_ := fm_.2.2 xx_
    refine lv_lload hx hb dJ9_floorMod_f86c9_13 (lv_at hl 0 rfl) ?_
    refine lv_lconst (v := 0) hx hb dJ9_floorMod_f86c9_15 (by decide) ?_
    refine W.lcmp hx hb dJ9_floorMod_f86c9_16 ?_
    refine lv_topi (fun z5_ ez5_ => ?_)
    refine lv_if_eq (tgt := 25) hx hb dJ9_floorMod_f86c9_17 rfl (fun c6_ => ?_) (fun c6_ => ?_)
    · have tc6_ := (show z5_.toInt = 0 from ti_eq rfl rg_11 c6_)
      have lc6_ : y1_ = 0 := (lg_cmp_eq y1_ 0).mp (by rw [← ez5_]; exact c6_)
      have m0_ : y1_.toInt = 0 := by rw [lc6_]; decide
      refine lv_lload hx hb dJ9_floorMod_f86c9_25 (lv_at hl 0 rfl) ?_
      have o4 : 0 ≤ y1_.toInt := by omega
      have o5 : y1_.toInt < y.toInt := by omega
      rw [hQ]
      exact W.lret (v := y1_) hx hb hr (fun t ht hW => ⟨⟨y1_, (), rfl, (show 0 ≤ y1_.toInt ∧ y1_.toInt < y.toInt from ⟨o4, o5⟩), wEn_of empP (hK.sub [] rfl) empD ht hW⟩, hS.F ht⟩) hS.2.2 dJ9_floorMod_f86c9_27
    · have tc6_ := (show z5_.toInt ≠ 0 from ti_ne rfl rg_11 c6_)
      have lc6_ : ¬ y1_ = 0 := fun h => c6_ (by rw [ez5_]; exact (lg_cmp_eq y1_ 0).mpr h)
      have m0_ : y1_.toInt ≠ 0 := fun h9 => lc6_ (Int64.toInt_inj.mp (h9.trans (by decide)))
      refine lv_lload hx hb dJ9_floorMod_f86c9_20 (lv_at hl 0 rfl) ?_
      refine lv_lload_n hx hb dJ9_floorMod_f86c9_22 rfl (lv_at hl 2 rfl) ?_
      refine lv_ladd hx hb dJ9_floorMod_f86c9_23 ?_
      refine lv_topl (fun y7_ ey7_ => ?_)
      have o6 : -1000 ≤ y1_.toInt + y.toInt := by omega
      have o7 : y1_.toInt + y.toInt ≤ 1000 := by omega
      have ty7_ := ladd_small ey7_ o6 o7
      have o8 : 0 ≤ y7_.toInt := by omega
      have o9 : y7_.toInt < y.toInt := by omega
      rw [hQ]
      exact W.lret (v := y7_) hx hb hr (fun t ht hW => ⟨⟨y7_, (), rfl, (show 0 ≤ y7_.toInt ∧ y7_.toInt < y.toInt from ⟨o8, o9⟩), wEn_of empP (hK.sub [] rfl) empD ht hW⟩, hS.F ht⟩) hS.2.2 dJ9_floorMod_f86c9_24
def ow_k_bitCount : List Cond := [.constant RJ6 265 (1431655765), .constant RJ6 266 (858993459), .constant RJ6 267 (252645135)]
def vs_k_bitCount : List Cond := .code yJ6_bitCount_0f7a4 cJ6_bitCount_0f7a4 1 (some .int) :: (ow_k_bitCount)
theorem vg_k_bitCount : vs_k_bitCount.all goodWord = true := by decide +kernel
theorem dd_k_bitCount : yJ6_bitCount_0f7a4.cls ≠ "java/lang/invoke/MethodHandle" ∧ yJ6_bitCount_0f7a4.cls ≠ "java/lang/invoke/VarHandle" ∧ (parseMethodDescriptor yJ6_bitCount_0f7a4.desc).map (fun d => d.parameters.length) = some 1 := by decide +kernel
def rm_k_bitCount : Room := { frames := 0, cells := 0, slots := 0, locals := 0 }
set_option maxHeartbeats 4000000 in
set_option maxRecDepth 100000 in
theorem k_bitCount (l : Launch) (dC : Nat → ClassId) (dI : Nat → Nat → Nat) (x : Int32)  (sz : Nat) : Met l yJ6_bitCount_0f7a4 vs_k_bitCount rm_k_bitCount (va_Pc [.int x] (wSt dC dI [] [] sz)) (va_Qi (fun (r : Int32) (_ : Unit) => True) (fun (_ : Unit) => wEn dC dI (va_A [] sz) [] []) (va_A [] sz)) 0 0 (va_A [] sz) := by
  refine va_MetF (cc := cJ6_bitCount_0f7a4) (maxL := 1) (ret := (some .int)) (by decide +kernel) rfl ?_
  intro p e s m args below meth c s₁ B hml hv
  obtain ⟨rfl, hsz, hP, hK, hD0, hE⟩ := hv
  have hx := B.exec
  have hb := B.bytes
  have hr := B.returns
  have hts := atoms_spec (ws := vs_k_bitCount) B.pre
  have hown : s.vm.findClass RJ6 = some m.cls := findClass_of_methodNamed B.named
  have hlocks := B.notSynchronized
  subst hsz
  have hD := hD0.self (sz := s.heap.size)
  generalize hAe : va_A [] s.heap.size = A at hD ⊢
  have hA : ∀ q : Nat, s.heap.size ≤ q → A q := fun q h => by rw [← hAe]; exact Or.inr h
  have hl := lv_entry ([.int x]) (n := 1) (Nat.le_of_ble_eq_true rfl)
  rw [lg_entry_eq]
  generalize (lg_sl ([.int x]) ++ List.replicate (1 - (lg_sl ([.int x])).length) Slot.unset).toArray = ls at hl ⊢
  have hl : lv_has ls 1 [(0, .int x)] := hl
  have ho := fun w (h : w ∈ ow_k_bitCount) => hts w (List.mem_cons_of_mem _ h)
  refine zQ (fun Q hQ => ?_)
  refine zH (A := A) (ws := []) (fun H hP hS => ?_) hP
  refine lv_iload_n hx hb dJ6_bitCount_0f7a4_0 rfl (lv_at hl 0 rfl) ?_
  refine lv_iload_n hx hb dJ6_bitCount_0f7a4_1 rfl (lv_at hl 0 rfl) ?_
  refine lv_iconst (v := 1) hx hb dJ6_bitCount_0f7a4_2 rg_6 ?_
  refine lv_iushr hx hb dJ6_bitCount_0f7a4_3 rfl ?_
  refine lv_topi (fun z1_ ez1_ => ?_)
  refine lv_ldcw (v := (1431655765)) hx hb hown (ho (.constant RJ6 265 (1431655765)) (List.mem_of_getElem? (i := 0) rfl)) dJ6_bitCount_0f7a4_4 ?_
  refine lv_iand hx hb dJ6_bitCount_0f7a4_7 ?_
  refine lv_topi (fun z2_ ez2_ => ?_)
  refine lv_isub hx hb dJ6_bitCount_0f7a4_8 ?_
  refine lv_topi (fun z3_ ez3_ => ?_)
  refine lv_istore_n (lv' := [(0, .int z3_)]) hx hb dJ6_bitCount_0f7a4_9 rfl hl (Nat.le_of_ble_eq_true rfl) rfl (fun ls hl => ?_)
  refine lv_iload_n hx hb dJ6_bitCount_0f7a4_10 rfl (lv_at hl 0 rfl) ?_
  refine lv_ldcw (v := (858993459)) hx hb hown (ho (.constant RJ6 266 (858993459)) (List.mem_of_getElem? (i := 1) rfl)) dJ6_bitCount_0f7a4_11 ?_
  refine lv_iand hx hb dJ6_bitCount_0f7a4_14 ?_
  refine lv_topi (fun z4_ ez4_ => ?_)
  refine lv_iload_n hx hb dJ6_bitCount_0f7a4_15 rfl (lv_at hl 0 rfl) ?_
  refine lv_iconst (v := 2) hx hb dJ6_bitCount_0f7a4_16 rg_19 ?_
  refine lv_iushr hx hb dJ6_bitCount_0f7a4_17 rfl ?_
  refine lv_topi (fun z5_ ez5_ => ?_)
  refine lv_ldcw (v := (858993459)) hx hb hown (ho (.constant RJ6 266 (858993459)) (List.mem_of_getElem? (i := 1) rfl)) dJ6_bitCount_0f7a4_18 ?_
  refine lv_iand hx hb dJ6_bitCount_0f7a4_21 ?_
  refine lv_topi (fun z6_ ez6_ => ?_)
  refine lv_iadd hx hb dJ6_bitCount_0f7a4_22 ?_
  refine lv_topi (fun z7_ ez7_ => ?_)
  refine lv_istore_n (lv' := [(0, .int z7_)]) hx hb dJ6_bitCount_0f7a4_23 rfl hl (Nat.le_of_ble_eq_true rfl) rfl (fun ls hl => ?_)
  refine lv_iload_n hx hb dJ6_bitCount_0f7a4_24 rfl (lv_at hl 0 rfl) ?_
  refine lv_iload_n hx hb dJ6_bitCount_0f7a4_25 rfl (lv_at hl 0 rfl) ?_
  refine lv_iconst (v := 4) hx hb dJ6_bitCount_0f7a4_26 rg_31 ?_
  refine lv_iushr hx hb dJ6_bitCount_0f7a4_27 rfl ?_
  refine lv_topi (fun z8_ ez8_ => ?_)
  refine lv_iadd hx hb dJ6_bitCount_0f7a4_28 ?_
  refine lv_topi (fun z9_ ez9_ => ?_)
  refine lv_ldcw (v := (252645135)) hx hb hown (ho (.constant RJ6 267 (252645135)) (List.mem_of_getElem? (i := 2) rfl)) dJ6_bitCount_0f7a4_29 ?_
  refine lv_iand hx hb dJ6_bitCount_0f7a4_32 ?_
  refine lv_topi (fun z10_ ez10_ => ?_)
  refine lv_istore_n (lv' := [(0, .int z10_)]) hx hb dJ6_bitCount_0f7a4_33 rfl hl (Nat.le_of_ble_eq_true rfl) rfl (fun ls hl => ?_)
  refine lv_iload_n hx hb dJ6_bitCount_0f7a4_34 rfl (lv_at hl 0 rfl) ?_
  refine lv_iload_n hx hb dJ6_bitCount_0f7a4_35 rfl (lv_at hl 0 rfl) ?_
  refine lv_bipush (v := 8) hx hb dJ6_bitCount_0f7a4_36 rg_23 ?_
  refine lv_iushr hx hb dJ6_bitCount_0f7a4_38 rfl ?_
  refine lv_topi (fun z11_ ez11_ => ?_)
  refine lv_iadd hx hb dJ6_bitCount_0f7a4_39 ?_
  refine lv_topi (fun z12_ ez12_ => ?_)
  refine lv_istore_n (lv' := [(0, .int z12_)]) hx hb dJ6_bitCount_0f7a4_40 rfl hl (Nat.le_of_ble_eq_true rfl) rfl (fun ls hl => ?_)
  refine lv_iload_n hx hb dJ6_bitCount_0f7a4_41 rfl (lv_at hl 0 rfl) ?_
  refine lv_iload_n hx hb dJ6_bitCount_0f7a4_42 rfl (lv_at hl 0 rfl) ?_
  refine lv_bipush (v := 16) hx hb dJ6_bitCount_0f7a4_43 rg_63 ?_
  refine lv_iushr hx hb dJ6_bitCount_0f7a4_45 rfl ?_
  refine lv_topi (fun z13_ ez13_ => ?_)
  refine lv_iadd hx hb dJ6_bitCount_0f7a4_46 ?_
  refine lv_topi (fun z14_ ez14_ => ?_)
  refine lv_istore_n (lv' := [(0, .int z14_)]) hx hb dJ6_bitCount_0f7a4_47 rfl hl (Nat.le_of_ble_eq_true rfl) rfl (fun ls hl => ?_)
  refine lv_iload_n hx hb dJ6_bitCount_0f7a4_48 rfl (lv_at hl 0 rfl) ?_
  refine lv_bipush (v := 63) hx hb dJ6_bitCount_0f7a4_49 rx_aac7aaf654 ?_
  refine lv_iand hx hb dJ6_bitCount_0f7a4_51 ?_
  refine lv_topi (fun z15_ ez15_ => ?_)
  rw [hQ]
  exact W.iret (v := z15_) hx hb hr (fun t ht hW => ⟨⟨z15_, (), rfl, trivial, wEn_of empP (hK.sub [] rfl) empD ht hW⟩, hS.F ht⟩) hS.2.2 dJ6_bitCount_0f7a4_52
def ow_k_floored : List Cond := []
def vs_k_floored : List Cond := .code yX11_floored cX11_floored 3 (some .long) :: (ow_k_floored ++ (([.methodLink RX11 373 yJ9_floorDiv_f86c9, .static yJ9_floorDiv_f86c9, .initialized yJ9_floorDiv_f86c9.cls] : List Cond) ++ (vs_k_floorDiv)))
theorem vg_k_floored : vs_k_floored.all goodWord = true := by decide +kernel
theorem dd_k_floored : yX11_floored.cls ≠ "java/lang/invoke/MethodHandle" ∧ yX11_floored.cls ≠ "java/lang/invoke/VarHandle" ∧ (parseMethodDescriptor yX11_floored.desc).map (fun d => d.parameters.length) = some 2 := by decide +kernel
def rm_k_floored : Room := { frames := 1, cells := 0, slots := 0, locals := 25 }
theorem gd_k_floored_373_k_floorDiv : GoodIn vs_k_floored (va_wsS RX11 373 yJ9_floorDiv_f86c9 vs_k_floorDiv) := goodIn_app (goodIn_sub (fun w h => (List.mem_cons_of_mem _ (List.mem_append_right _ (List.mem_append_left _ h)))) (by decide +kernel)) (goodIn_sub (fun w h => (List.mem_cons_of_mem _ (List.mem_append_right _ (List.mem_append_right _ h)))) vg_k_floorDiv)
set_option maxHeartbeats 4000000 in
set_option maxRecDepth 100000 in
theorem k_floored (l : Launch) (dC : Nat → ClassId) (dI : Nat → Nat → Nat) (x : Int64) (y : Int32)  (sz : Nat) : Met l yX11_floored vs_k_floored rm_k_floored (va_Pc [.long x, .int y] (wSt dC dI [] [] sz)) (va_Ql (fun (r : Int64) (_ : Unit) => True) (fun (_ : Unit) => wEn dC dI (va_A [] sz) [] []) (va_A [] sz)) 0 0 (va_A [] sz) := by
  refine Met.ofW (cc := cX11_floored) (maxL := 3) (ret := (some .long)) (by decide +kernel) rfl ?_
  intro p e s m args below meth c s₁ B hml hv
  obtain ⟨rfl, hsz, hP, hK, hD0, hE⟩ := hv
  have hx := B.exec
  have hb := B.bytes
  have hr := B.returns
  have hts := atoms_spec (ws := vs_k_floored) B.pre
  have hown : s.vm.findClass RX11 = some m.cls := findClass_of_methodNamed B.named
  have hlocks := B.notSynchronized
  subst hsz
  have hD := hD0.self (sz := s.heap.size)
  generalize hAe : va_A [] s.heap.size = A at hD ⊢
  have hA : ∀ q : Nat, s.heap.size ≤ q → A q := fun q h => by rw [← hAe]; exact Or.inr h
  have hl := lv_entry ([.long x, .int y]) (n := 3) (Nat.le_of_ble_eq_true rfl)
  rw [lg_entry_eq]
  generalize (lg_sl ([.long x, .int y]) ++ List.replicate (3 - (lg_sl ([.long x, .int y])).length) Slot.unset).toArray = ls at hl ⊢
  have hl : lv_has ls 3 [(0, .long x), (2, .int y)] := hl
  have ho := fun w (h : w ∈ ow_k_floored) => hts w (List.mem_cons_of_mem _ (List.mem_append_left _ h))
  refine zQ (fun Q hQ => ?_)
  refine zH (A := A) (ws := []) (fun H hP hS => ?_) hP
  refine lv_iload_n hx hb dX11_floored_0 rfl (lv_at hl 1 rfl) ?_
  refine lv_iconst (v := 1) hx hb dX11_floored_1 rg_6 ?_
  refine lv_icmp_gt (tgt := 9) hx hb dX11_floored_2 rfl (fun c1_ => ?_) (fun c1_ => ?_)
  · have tc1_ := (show 1 < y.toInt from ti_lt rg_18 rfl c1_)
    refine lv_lload_n hx hb dX11_floored_9 rfl (lv_at hl 0 rfl) ?_
    refine lv_iload_n hx hb dX11_floored_10 rfl (lv_at hl 1 rfl) ?_
    refine lv_i2l hx hb dX11_floored_11 rfl ?_
    refine lv_topl (fun y2_ ey2_ => ?_)
    have o1 : y.toInt ≠ 0 := by omega
    refine zs_l (va_runS (As := [.long x, .long y2_]) (rest := []) ⟨hx, hb, hml, hown, hts⟩ (k_floorDiv l dC dI x y2_ (i2l_ne ey2_ o1) H.size) (va_cwS 2 hts gd_k_floored_373_k_floorDiv rfl rfl rfl dd_k_floorDiv ⟨Nat.le_of_ble_eq_true rfl, Nat.le_of_ble_eq_true rfl⟩) (preS (A := A) empP (hK.sub (tys' := []) [] rfl) empD hE) rfl rfl hl.1 rfl (lv_room (Nat.le_of_ble_eq_true rfl)) dX11_floored_12 ⟨Nat.le_of_ble_eq_true rfl, Nat.le_of_ble_eq_true rfl⟩) hP hD hS hA (fun y3_ H locs hq hP hD hS => ?_)
    have q4_ : True := hq
    refine W.widen (k := 0) (n := 0) (Nat.le_of_ble_eq_true rfl) (Nat.le_of_ble_eq_true rfl) ?_
    refine lv_iload_n hx hb dX11_floored_15 rfl (lv_at hl 1 rfl) ?_
    refine lv_i2l hx hb dX11_floored_16 rfl ?_
    refine lv_topl (fun y5_ ey5_ => ?_)
    refine lv_lmul hx hb dX11_floored_17 ?_
    refine lv_topl (fun y6_ ey6_ => ?_)
    rw [hQ]
    exact W.lret (v := y6_) hx hb hr (fun t ht hW => ⟨⟨y6_, (), rfl, trivial, wEn_of empP (hK.sub [] rfl) empD ht hW⟩, hS.F ht⟩) hS.2.2 dX11_floored_18
  · have tc1_ := (show y.toInt ≤ 1 from ti_nlt rg_18 rfl c1_)
    refine lv_lload_n hx hb dX11_floored_5 rfl (lv_at hl 0 rfl) ?_
    refine lv_goto (tgt := 18) hx hb dX11_floored_6 rfl ?_
    rw [hQ]
    exact W.lret (v := x) hx hb hr (fun t ht hW => ⟨⟨x, (), rfl, trivial, wEn_of empP (hK.sub [] rfl) empD ht hW⟩, hS.F ht⟩) hS.2.2 dX11_floored_18
def ow_k_fits : List Cond := []
def vs_k_fits : List Cond := .code yX0_fits cX0_fits 4 (some .boolean) :: (ow_k_fits)
theorem vg_k_fits : vs_k_fits.all goodWord = true := by decide +kernel
theorem dd_k_fits : yX0_fits.cls ≠ "java/lang/invoke/MethodHandle" ∧ yX0_fits.cls ≠ "java/lang/invoke/VarHandle" ∧ (parseMethodDescriptor yX0_fits.desc).map (fun d => d.parameters.length) = some 3 := by decide +kernel
def rm_k_fits : Room := { frames := 0, cells := 0, slots := 0, locals := 0 }
set_option maxHeartbeats 4000000 in
set_option maxRecDepth 100000 in
theorem k_fits (l : Launch) (dC : Nat → ClassId) (dI : Nat → Nat → Nat) (x : Int32) (y : Int32) (z : Int32)  (sz : Nat) : Met l yX0_fits vs_k_fits rm_k_fits (va_Pc [.int x, .int y, .int z] (wSt dC dI [] [] sz)) (va_Qi (fun (r : Int32) (_ : Unit) => ((r.toInt = 1 ∧ 0 ≤ z.toInt ∧ z.toInt ≤ 99) ∨ r.toInt = 0)) (fun (_ : Unit) => wEn dC dI (va_A [] sz) [] []) (va_A [] sz)) 0 0 (va_A [] sz) := by
  refine Met.ofW (cc := cX0_fits) (maxL := 4) (ret := (some .boolean)) (by decide +kernel) rfl ?_
  intro p e s m args below meth c s₁ B hml hv
  obtain ⟨rfl, hsz, hP, hK, hD0, hE⟩ := hv
  have hx := B.exec
  have hb := B.bytes
  have hr := B.returns
  have hts := atoms_spec (ws := vs_k_fits) B.pre
  have hown : s.vm.findClass RX0 = some m.cls := findClass_of_methodNamed B.named
  have hlocks := B.notSynchronized
  subst hsz
  have hD := hD0.self (sz := s.heap.size)
  generalize hAe : va_A [] s.heap.size = A at hD ⊢
  have hA : ∀ q : Nat, s.heap.size ≤ q → A q := fun q h => by rw [← hAe]; exact Or.inr h
  have hl := lv_entry ([.int x, .int y, .int z]) (n := 4) (Nat.le_of_ble_eq_true rfl)
  rw [lg_entry_eq]
  generalize (lg_sl ([.int x, .int y, .int z]) ++ List.replicate (4 - (lg_sl ([.int x, .int y, .int z])).length) Slot.unset).toArray = ls at hl ⊢
  have hl : lv_has ls 4 [(0, .int x), (1, .int y), (2, .int z)] := hl
  have ho := fun w (h : w ∈ ow_k_fits) => hts w (List.mem_cons_of_mem _ h)
  refine zQ (fun Q hQ => ?_)
  refine zH (A := A) (ws := []) (fun H hP hS => ?_) hP
  have pt14_ : ∀ (s14_ : Int32) (H : Heap) (locs : List Loc) (ls : Array Slot), va_P (dC, dI) vwCl [] H → va_D A [] → va_S A s.heap H locs → lv_has ls 4 [(0, .int x), (1, .int y), (2, .int z)] → W p l e (headSpec vs_k_fits rm_k_fits).room s m #[Value.int x, Value.int y, Value.int z] below meth c H locs 0 0 Q (F0 m 14 ls [.int s14_]) := by
    intro s14_ H locs ls hP hD hS hl
    refine lv_istore_n (lv' := [(3, .int s14_), (0, .int x), (1, .int y), (2, .int z)]) hx hb dX0_fits_14 rfl hl (Nat.le_of_ble_eq_true rfl) rfl (fun ls hl => ?_)
    refine lv_iload_n hx hb dX0_fits_15 rfl (lv_at hl 2 rfl) ?_
    by_cases c_lo : y.toInt < 0
    · refine lv_tableOut (tgt := 196) hx hb dX0_fits_16 (Or.inl c_lo) rfl ?_
      refine lv_iconst (v := 0) hx hb dX0_fits_196 rg_0 ?_
      have kk1_ : (0 : Int32).toInt = 0 := rg_11
      have o1 : ((0 : Int32).toInt = 1 ∧ 0 ≤ z.toInt ∧ z.toInt ≤ 99) ∨ (0 : Int32).toInt = 0 := by omega
      rw [hQ]
      exact W.zret (v := 0) hx hb hr rfl (fun t ht hW => ⟨⟨0, (), rfl, o1, wEn_of empP (hK.sub [] rfl) empD ht hW⟩, hS.F ht⟩) hS.2.2 dX0_fits_197
    · by_cases c_hi : 6 < y.toInt
      · refine lv_tableOut (tgt := 196) hx hb dX0_fits_16 (Or.inr c_hi) rfl ?_
        refine lv_iconst (v := 0) hx hb dX0_fits_196 rg_0 ?_
        have kk2_ : (0 : Int32).toInt = 0 := rg_11
        have o2 : ((0 : Int32).toInt = 1 ∧ 0 ≤ z.toInt ∧ z.toInt ≤ 99) ∨ (0 : Int32).toInt = 0 := by omega
        rw [hQ]
        exact W.zret (v := 0) hx hb hr rfl (fun t ht hW => ⟨⟨0, (), rfl, o2, wEn_of empP (hK.sub [] rfl) empD ht hW⟩, hS.F ht⟩) hS.2.2 dX0_fits_197
      · rcases (show y.toInt = 0 ∨ y.toInt = 1 ∨ y.toInt = 2 ∨ y.toInt = 3 ∨ y.toInt = 4 ∨ y.toInt = 5 ∨ y.toInt = 6 by omega) with t_sw | t_sw | t_sw | t_sw | t_sw | t_sw | t_sw
        · refine lv_tableIn (tgt := 60) (off := 44) hx hb dX0_fits_16 (by rw [t_sw]; decide) (by rw [t_sw]; decide) (by rw [t_sw]; decide) (by decide) ?_
          refine lv_iload_n hx hb dX0_fits_60 rfl (lv_at hl 1 rfl) ?_
          refine lv_if_ne (tgt := 79) hx hb dX0_fits_61 rfl (fun c3_ => ?_) (fun c3_ => ?_)
          · have tc3_ := (show x.toInt ≠ 0 from ti_ne rfl rg_11 c3_)
            refine lv_iconst (v := 0) hx hb dX0_fits_79 rg_0 ?_
            have kk4_ : (0 : Int32).toInt = 0 := rg_11
            have o3 : ((0 : Int32).toInt = 1 ∧ 0 ≤ z.toInt ∧ z.toInt ≤ 99) ∨ (0 : Int32).toInt = 0 := by omega
            rw [hQ]
            exact W.zret (v := 0) hx hb hr rfl (fun t ht hW => ⟨⟨0, (), rfl, o3, wEn_of empP (hK.sub [] rfl) empD ht hW⟩, hS.F ht⟩) hS.2.2 dX0_fits_80
          · have tc3_ := (show x.toInt = 0 from ti_eq rfl rg_11 c3_)
            refine lv_iload_n hx hb dX0_fits_64 rfl (lv_at hl 3 rfl) ?_
            refine lv_iconst (v := 2) hx hb dX0_fits_65 rg_19 ?_
            refine lv_icmp_lt (tgt := 79) hx hb dX0_fits_66 rfl (fun c5_ => ?_) (fun c5_ => ?_)
            · have tc5_ := (show z.toInt < 2 from ti_lt rfl rg_20 c5_)
              refine lv_iconst (v := 0) hx hb dX0_fits_79 rg_0 ?_
              have kk6_ : (0 : Int32).toInt = 0 := rg_11
              have o4 : ((0 : Int32).toInt = 1 ∧ 0 ≤ z.toInt ∧ z.toInt ≤ 99) ∨ (0 : Int32).toInt = 0 := by omega
              rw [hQ]
              exact W.zret (v := 0) hx hb hr rfl (fun t ht hW => ⟨⟨0, (), rfl, o4, wEn_of empP (hK.sub [] rfl) empD ht hW⟩, hS.F ht⟩) hS.2.2 dX0_fits_80
            · have tc5_ := (show 2 ≤ z.toInt from ti_nlt rfl rg_20 c5_)
              refine lv_iload_n hx hb dX0_fits_69 rfl (lv_at hl 3 rfl) ?_
              refine lv_bipush (v := 6) hx hb dX0_fits_70 rg_55 ?_
              refine lv_icmp_gt (tgt := 79) hx hb dX0_fits_72 rfl (fun c7_ => ?_) (fun c7_ => ?_)
              · have tc7_ := (show 6 < z.toInt from ti_lt rg_70 rfl c7_)
                refine lv_iconst (v := 0) hx hb dX0_fits_79 rg_0 ?_
                have kk8_ : (0 : Int32).toInt = 0 := rg_11
                have o5 : ((0 : Int32).toInt = 1 ∧ 0 ≤ z.toInt ∧ z.toInt ≤ 99) ∨ (0 : Int32).toInt = 0 := by omega
                rw [hQ]
                exact W.zret (v := 0) hx hb hr rfl (fun t ht hW => ⟨⟨0, (), rfl, o5, wEn_of empP (hK.sub [] rfl) empD ht hW⟩, hS.F ht⟩) hS.2.2 dX0_fits_80
              · have tc7_ := (show z.toInt ≤ 6 from ti_nlt rg_70 rfl c7_)
                refine lv_iconst (v := 1) hx hb dX0_fits_75 rg_6 ?_
                refine lv_goto (tgt := 80) hx hb dX0_fits_76 rfl ?_
                have kk9_ : (1 : Int32).toInt = 1 := rg_18
                have o6 : ((1 : Int32).toInt = 1 ∧ 0 ≤ z.toInt ∧ z.toInt ≤ 99) ∨ (1 : Int32).toInt = 0 := by omega
                rw [hQ]
                exact W.zret (v := 1) hx hb hr rfl (fun t ht hW => ⟨⟨1, (), rfl, o6, wEn_of empP (hK.sub [] rfl) empD ht hW⟩, hS.F ht⟩) hS.2.2 dX0_fits_80
        · refine lv_tableIn (tgt := 81) (off := 65) hx hb dX0_fits_16 (by rw [t_sw]; decide) (by rw [t_sw]; decide) (by rw [t_sw]; decide) (by decide) ?_
          refine lv_iload_n hx hb dX0_fits_81 rfl (lv_at hl 3 rfl) ?_
          refine lv_iconst (v := 1) hx hb dX0_fits_82 rg_6 ?_
          refine lv_icmp_lt (tgt := 96) hx hb dX0_fits_83 rfl (fun c10_ => ?_) (fun c10_ => ?_)
          · have tc10_ := (show z.toInt < 1 from ti_lt rfl rg_18 c10_)
            refine lv_iconst (v := 0) hx hb dX0_fits_96 rg_0 ?_
            have kk11_ : (0 : Int32).toInt = 0 := rg_11
            have o7 : ((0 : Int32).toInt = 1 ∧ 0 ≤ z.toInt ∧ z.toInt ≤ 99) ∨ (0 : Int32).toInt = 0 := by omega
            rw [hQ]
            exact W.zret (v := 0) hx hb hr rfl (fun t ht hW => ⟨⟨0, (), rfl, o7, wEn_of empP (hK.sub [] rfl) empD ht hW⟩, hS.F ht⟩) hS.2.2 dX0_fits_97
          · have tc10_ := (show 1 ≤ z.toInt from ti_nlt rfl rg_18 c10_)
            refine lv_iload_n hx hb dX0_fits_86 rfl (lv_at hl 3 rfl) ?_
            refine lv_bipush (v := 10) hx hb dX0_fits_87 rg_34 ?_
            refine lv_icmp_gt (tgt := 96) hx hb dX0_fits_89 rfl (fun c12_ => ?_) (fun c12_ => ?_)
            · have tc12_ := (show 10 < z.toInt from ti_lt rg_45 rfl c12_)
              refine lv_iconst (v := 0) hx hb dX0_fits_96 rg_0 ?_
              have kk13_ : (0 : Int32).toInt = 0 := rg_11
              have o8 : ((0 : Int32).toInt = 1 ∧ 0 ≤ z.toInt ∧ z.toInt ≤ 99) ∨ (0 : Int32).toInt = 0 := by omega
              rw [hQ]
              exact W.zret (v := 0) hx hb hr rfl (fun t ht hW => ⟨⟨0, (), rfl, o8, wEn_of empP (hK.sub [] rfl) empD ht hW⟩, hS.F ht⟩) hS.2.2 dX0_fits_97
            · have tc12_ := (show z.toInt ≤ 10 from ti_nlt rg_45 rfl c12_)
              refine lv_iconst (v := 1) hx hb dX0_fits_92 rg_6 ?_
              refine lv_goto (tgt := 97) hx hb dX0_fits_93 rfl ?_
              have kk14_ : (1 : Int32).toInt = 1 := rg_18
              have o9 : ((1 : Int32).toInt = 1 ∧ 0 ≤ z.toInt ∧ z.toInt ≤ 99) ∨ (1 : Int32).toInt = 0 := by omega
              rw [hQ]
              exact W.zret (v := 1) hx hb hr rfl (fun t ht hW => ⟨⟨1, (), rfl, o9, wEn_of empP (hK.sub [] rfl) empD ht hW⟩, hS.F ht⟩) hS.2.2 dX0_fits_97
        · refine lv_tableIn (tgt := 98) (off := 82) hx hb dX0_fits_16 (by rw [t_sw]; decide) (by rw [t_sw]; decide) (by rw [t_sw]; decide) (by decide) ?_
          refine lv_iload_n hx hb dX0_fits_98 rfl (lv_at hl 1 rfl) ?_
          refine lv_bipush (v := 7) hx hb dX0_fits_99 rg_54 ?_
          refine lv_icmp_ne (tgt := 117) hx hb dX0_fits_101 rfl (fun c15_ => ?_) (fun c15_ => ?_)
          · have tc15_ := (show x.toInt ≠ 7 from ti_ne rfl rg_77 c15_)
            refine lv_iconst (v := 0) hx hb dX0_fits_117 rg_0 ?_
            have kk16_ : (0 : Int32).toInt = 0 := rg_11
            have o10 : ((0 : Int32).toInt = 1 ∧ 0 ≤ z.toInt ∧ z.toInt ≤ 99) ∨ (0 : Int32).toInt = 0 := by omega
            rw [hQ]
            exact W.zret (v := 0) hx hb hr rfl (fun t ht hW => ⟨⟨0, (), rfl, o10, wEn_of empP (hK.sub [] rfl) empD ht hW⟩, hS.F ht⟩) hS.2.2 dX0_fits_118
          · have tc15_ := (show x.toInt = 7 from ti_eq rfl rg_77 c15_)
            refine lv_iload_n hx hb dX0_fits_104 rfl (lv_at hl 3 rfl) ?_
            refine lv_if_lt (tgt := 117) hx hb dX0_fits_105 rfl (fun c17_ => ?_) (fun c17_ => ?_)
            · have tc17_ := (show z.toInt < 0 from ti_lt rfl rg_11 c17_)
              refine lv_iconst (v := 0) hx hb dX0_fits_117 rg_0 ?_
              have kk18_ : (0 : Int32).toInt = 0 := rg_11
              have o11 : ((0 : Int32).toInt = 1 ∧ 0 ≤ z.toInt ∧ z.toInt ≤ 99) ∨ (0 : Int32).toInt = 0 := by omega
              rw [hQ]
              exact W.zret (v := 0) hx hb hr rfl (fun t ht hW => ⟨⟨0, (), rfl, o11, wEn_of empP (hK.sub [] rfl) empD ht hW⟩, hS.F ht⟩) hS.2.2 dX0_fits_118
            · have tc17_ := (show 0 ≤ z.toInt from ti_nlt rfl rg_11 c17_)
              refine lv_iload_n hx hb dX0_fits_108 rfl (lv_at hl 3 rfl) ?_
              refine lv_iconst (v := 1) hx hb dX0_fits_109 rg_6 ?_
              refine lv_icmp_gt (tgt := 117) hx hb dX0_fits_110 rfl (fun c19_ => ?_) (fun c19_ => ?_)
              · have tc19_ := (show 1 < z.toInt from ti_lt rg_18 rfl c19_)
                refine lv_iconst (v := 0) hx hb dX0_fits_117 rg_0 ?_
                have kk20_ : (0 : Int32).toInt = 0 := rg_11
                have o12 : ((0 : Int32).toInt = 1 ∧ 0 ≤ z.toInt ∧ z.toInt ≤ 99) ∨ (0 : Int32).toInt = 0 := by omega
                rw [hQ]
                exact W.zret (v := 0) hx hb hr rfl (fun t ht hW => ⟨⟨0, (), rfl, o12, wEn_of empP (hK.sub [] rfl) empD ht hW⟩, hS.F ht⟩) hS.2.2 dX0_fits_118
              · have tc19_ := (show z.toInt ≤ 1 from ti_nlt rg_18 rfl c19_)
                refine lv_iconst (v := 1) hx hb dX0_fits_113 rg_6 ?_
                refine lv_goto (tgt := 118) hx hb dX0_fits_114 rfl ?_
                have kk21_ : (1 : Int32).toInt = 1 := rg_18
                have o13 : ((1 : Int32).toInt = 1 ∧ 0 ≤ z.toInt ∧ z.toInt ≤ 99) ∨ (1 : Int32).toInt = 0 := by omega
                rw [hQ]
                exact W.zret (v := 1) hx hb hr rfl (fun t ht hW => ⟨⟨1, (), rfl, o13, wEn_of empP (hK.sub [] rfl) empD ht hW⟩, hS.F ht⟩) hS.2.2 dX0_fits_118
        · refine lv_tableIn (tgt := 119) (off := 103) hx hb dX0_fits_16 (by rw [t_sw]; decide) (by rw [t_sw]; decide) (by rw [t_sw]; decide) (by decide) ?_
          refine lv_iload_n hx hb dX0_fits_119 rfl (lv_at hl 0 rfl) ?_
          refine lv_if_ne (tgt := 129) hx hb dX0_fits_120 rfl (fun c22_ => ?_) (fun c22_ => ?_)
          · have tc22_ := (show s14_.toInt ≠ 0 from ti_ne rfl rg_11 c22_)
            refine lv_iload_n hx hb dX0_fits_129 rfl (lv_at hl 3 rfl) ?_
            refine lv_iconst (v := 2) hx hb dX0_fits_130 rg_19 ?_
            refine lv_icmp_lt (tgt := 144) hx hb dX0_fits_131 rfl (fun c23_ => ?_) (fun c23_ => ?_)
            · have tc23_ := (show z.toInt < 2 from ti_lt rfl rg_20 c23_)
              refine lv_iconst (v := 0) hx hb dX0_fits_144 rg_0 ?_
              have kk24_ : (0 : Int32).toInt = 0 := rg_11
              have o14 : ((0 : Int32).toInt = 1 ∧ 0 ≤ z.toInt ∧ z.toInt ≤ 99) ∨ (0 : Int32).toInt = 0 := by omega
              rw [hQ]
              exact W.zret (v := 0) hx hb hr rfl (fun t ht hW => ⟨⟨0, (), rfl, o14, wEn_of empP (hK.sub [] rfl) empD ht hW⟩, hS.F ht⟩) hS.2.2 dX0_fits_145
            · have tc23_ := (show 2 ≤ z.toInt from ti_nlt rfl rg_20 c23_)
              refine lv_iload_n hx hb dX0_fits_134 rfl (lv_at hl 3 rfl) ?_
              refine lv_bipush (v := 99) hx hb dX0_fits_135 rg_78 ?_
              refine lv_icmp_gt (tgt := 144) hx hb dX0_fits_137 rfl (fun c25_ => ?_) (fun c25_ => ?_)
              · have tc25_ := (show 99 < z.toInt from ti_lt rg_79 rfl c25_)
                refine lv_iconst (v := 0) hx hb dX0_fits_144 rg_0 ?_
                have kk26_ : (0 : Int32).toInt = 0 := rg_11
                have o15 : ((0 : Int32).toInt = 1 ∧ 0 ≤ z.toInt ∧ z.toInt ≤ 99) ∨ (0 : Int32).toInt = 0 := by omega
                rw [hQ]
                exact W.zret (v := 0) hx hb hr rfl (fun t ht hW => ⟨⟨0, (), rfl, o15, wEn_of empP (hK.sub [] rfl) empD ht hW⟩, hS.F ht⟩) hS.2.2 dX0_fits_145
              · have tc25_ := (show z.toInt ≤ 99 from ti_nlt rg_79 rfl c25_)
                refine lv_iconst (v := 1) hx hb dX0_fits_140 rg_6 ?_
                refine lv_goto (tgt := 145) hx hb dX0_fits_141 rfl ?_
                have kk27_ : (1 : Int32).toInt = 1 := rg_18
                have o16 : ((1 : Int32).toInt = 1 ∧ 0 ≤ z.toInt ∧ z.toInt ≤ 99) ∨ (1 : Int32).toInt = 0 := by omega
                rw [hQ]
                exact W.zret (v := 1) hx hb hr rfl (fun t ht hW => ⟨⟨1, (), rfl, o16, wEn_of empP (hK.sub [] rfl) empD ht hW⟩, hS.F ht⟩) hS.2.2 dX0_fits_145
          · have tc22_ := (show s14_.toInt = 0 from ti_eq rfl rg_11 c22_)
            refine lv_iload_n hx hb dX0_fits_123 rfl (lv_at hl 1 rfl) ?_
            refine lv_bipush (v := 6) hx hb dX0_fits_124 rg_55 ?_
            refine lv_icmp_ne (tgt := 144) hx hb dX0_fits_126 rfl (fun c28_ => ?_) (fun c28_ => ?_)
            · have tc28_ := (show x.toInt ≠ 6 from ti_ne rfl rg_70 c28_)
              refine lv_iconst (v := 0) hx hb dX0_fits_144 rg_0 ?_
              have kk29_ : (0 : Int32).toInt = 0 := rg_11
              have o17 : ((0 : Int32).toInt = 1 ∧ 0 ≤ z.toInt ∧ z.toInt ≤ 99) ∨ (0 : Int32).toInt = 0 := by omega
              rw [hQ]
              exact W.zret (v := 0) hx hb hr rfl (fun t ht hW => ⟨⟨0, (), rfl, o17, wEn_of empP (hK.sub [] rfl) empD ht hW⟩, hS.F ht⟩) hS.2.2 dX0_fits_145
            · have tc28_ := (show x.toInt = 6 from ti_eq rfl rg_70 c28_)
              refine lv_iload_n hx hb dX0_fits_129 rfl (lv_at hl 3 rfl) ?_
              refine lv_iconst (v := 2) hx hb dX0_fits_130 rg_19 ?_
              refine lv_icmp_lt (tgt := 144) hx hb dX0_fits_131 rfl (fun c30_ => ?_) (fun c30_ => ?_)
              · have tc30_ := (show z.toInt < 2 from ti_lt rfl rg_20 c30_)
                refine lv_iconst (v := 0) hx hb dX0_fits_144 rg_0 ?_
                have kk31_ : (0 : Int32).toInt = 0 := rg_11
                have o18 : ((0 : Int32).toInt = 1 ∧ 0 ≤ z.toInt ∧ z.toInt ≤ 99) ∨ (0 : Int32).toInt = 0 := by omega
                rw [hQ]
                exact W.zret (v := 0) hx hb hr rfl (fun t ht hW => ⟨⟨0, (), rfl, o18, wEn_of empP (hK.sub [] rfl) empD ht hW⟩, hS.F ht⟩) hS.2.2 dX0_fits_145
              · have tc30_ := (show 2 ≤ z.toInt from ti_nlt rfl rg_20 c30_)
                refine lv_iload_n hx hb dX0_fits_134 rfl (lv_at hl 3 rfl) ?_
                refine lv_bipush (v := 99) hx hb dX0_fits_135 rg_78 ?_
                refine lv_icmp_gt (tgt := 144) hx hb dX0_fits_137 rfl (fun c32_ => ?_) (fun c32_ => ?_)
                · have tc32_ := (show 99 < z.toInt from ti_lt rg_79 rfl c32_)
                  refine lv_iconst (v := 0) hx hb dX0_fits_144 rg_0 ?_
                  have kk33_ : (0 : Int32).toInt = 0 := rg_11
                  have o19 : ((0 : Int32).toInt = 1 ∧ 0 ≤ z.toInt ∧ z.toInt ≤ 99) ∨ (0 : Int32).toInt = 0 := by omega
                  rw [hQ]
                  exact W.zret (v := 0) hx hb hr rfl (fun t ht hW => ⟨⟨0, (), rfl, o19, wEn_of empP (hK.sub [] rfl) empD ht hW⟩, hS.F ht⟩) hS.2.2 dX0_fits_145
                · have tc32_ := (show z.toInt ≤ 99 from ti_nlt rg_79 rfl c32_)
                  refine lv_iconst (v := 1) hx hb dX0_fits_140 rg_6 ?_
                  refine lv_goto (tgt := 145) hx hb dX0_fits_141 rfl ?_
                  have kk34_ : (1 : Int32).toInt = 1 := rg_18
                  have o20 : ((1 : Int32).toInt = 1 ∧ 0 ≤ z.toInt ∧ z.toInt ≤ 99) ∨ (1 : Int32).toInt = 0 := by omega
                  rw [hQ]
                  exact W.zret (v := 1) hx hb hr rfl (fun t ht hW => ⟨⟨1, (), rfl, o20, wEn_of empP (hK.sub [] rfl) empD ht hW⟩, hS.F ht⟩) hS.2.2 dX0_fits_145
        · refine lv_tableIn (tgt := 146) (off := 130) hx hb dX0_fits_16 (by rw [t_sw]; decide) (by rw [t_sw]; decide) (by rw [t_sw]; decide) (by decide) ?_
          refine lv_iload_n hx hb dX0_fits_146 rfl (lv_at hl 3 rfl) ?_
          refine lv_if_ne (tgt := 154) hx hb dX0_fits_147 rfl (fun c35_ => ?_) (fun c35_ => ?_)
          · have tc35_ := (show z.toInt ≠ 0 from ti_ne rfl rg_11 c35_)
            refine lv_iconst (v := 0) hx hb dX0_fits_154 rg_0 ?_
            have kk36_ : (0 : Int32).toInt = 0 := rg_11
            have o21 : ((0 : Int32).toInt = 1 ∧ 0 ≤ z.toInt ∧ z.toInt ≤ 99) ∨ (0 : Int32).toInt = 0 := by omega
            rw [hQ]
            exact W.zret (v := 0) hx hb hr rfl (fun t ht hW => ⟨⟨0, (), rfl, o21, wEn_of empP (hK.sub [] rfl) empD ht hW⟩, hS.F ht⟩) hS.2.2 dX0_fits_155
          · have tc35_ := (show z.toInt = 0 from ti_eq rfl rg_11 c35_)
            refine lv_iconst (v := 1) hx hb dX0_fits_150 rg_6 ?_
            refine lv_goto (tgt := 155) hx hb dX0_fits_151 rfl ?_
            have kk37_ : (1 : Int32).toInt = 1 := rg_18
            have o22 : ((1 : Int32).toInt = 1 ∧ 0 ≤ z.toInt ∧ z.toInt ≤ 99) ∨ (1 : Int32).toInt = 0 := by omega
            rw [hQ]
            exact W.zret (v := 1) hx hb hr rfl (fun t ht hW => ⟨⟨1, (), rfl, o22, wEn_of empP (hK.sub [] rfl) empD ht hW⟩, hS.F ht⟩) hS.2.2 dX0_fits_155
        · refine lv_tableIn (tgt := 156) (off := 140) hx hb dX0_fits_16 (by rw [t_sw]; decide) (by rw [t_sw]; decide) (by rw [t_sw]; decide) (by decide) ?_
          refine lv_iload_n hx hb dX0_fits_156 rfl (lv_at hl 0 rfl) ?_
          refine lv_if_eq (tgt := 174) hx hb dX0_fits_157 rfl (fun c38_ => ?_) (fun c38_ => ?_)
          · have tc38_ := (show s14_.toInt = 0 from ti_eq rfl rg_11 c38_)
            refine lv_iconst (v := 0) hx hb dX0_fits_174 rg_0 ?_
            have kk39_ : (0 : Int32).toInt = 0 := rg_11
            have o23 : ((0 : Int32).toInt = 1 ∧ 0 ≤ z.toInt ∧ z.toInt ≤ 99) ∨ (0 : Int32).toInt = 0 := by omega
            rw [hQ]
            exact W.zret (v := 0) hx hb hr rfl (fun t ht hW => ⟨⟨0, (), rfl, o23, wEn_of empP (hK.sub [] rfl) empD ht hW⟩, hS.F ht⟩) hS.2.2 dX0_fits_175
          · have tc38_ := (show s14_.toInt ≠ 0 from ti_ne rfl rg_11 c38_)
            refine lv_iload_n hx hb dX0_fits_160 rfl (lv_at hl 3 rfl) ?_
            refine lv_iconst (v := 1) hx hb dX0_fits_161 rg_6 ?_
            refine lv_icmp_lt (tgt := 174) hx hb dX0_fits_162 rfl (fun c40_ => ?_) (fun c40_ => ?_)
            · have tc40_ := (show z.toInt < 1 from ti_lt rfl rg_18 c40_)
              refine lv_iconst (v := 0) hx hb dX0_fits_174 rg_0 ?_
              have kk41_ : (0 : Int32).toInt = 0 := rg_11
              have o24 : ((0 : Int32).toInt = 1 ∧ 0 ≤ z.toInt ∧ z.toInt ≤ 99) ∨ (0 : Int32).toInt = 0 := by omega
              rw [hQ]
              exact W.zret (v := 0) hx hb hr rfl (fun t ht hW => ⟨⟨0, (), rfl, o24, wEn_of empP (hK.sub [] rfl) empD ht hW⟩, hS.F ht⟩) hS.2.2 dX0_fits_175
            · have tc40_ := (show 1 ≤ z.toInt from ti_nlt rfl rg_18 c40_)
              refine lv_iload_n hx hb dX0_fits_165 rfl (lv_at hl 3 rfl) ?_
              refine lv_iconst (v := 5) hx hb dX0_fits_166 rg_14 ?_
              refine lv_icmp_gt (tgt := 174) hx hb dX0_fits_167 rfl (fun c42_ => ?_) (fun c42_ => ?_)
              · have tc42_ := (show 5 < z.toInt from ti_lt rg_15 rfl c42_)
                refine lv_iconst (v := 0) hx hb dX0_fits_174 rg_0 ?_
                have kk43_ : (0 : Int32).toInt = 0 := rg_11
                have o25 : ((0 : Int32).toInt = 1 ∧ 0 ≤ z.toInt ∧ z.toInt ≤ 99) ∨ (0 : Int32).toInt = 0 := by omega
                rw [hQ]
                exact W.zret (v := 0) hx hb hr rfl (fun t ht hW => ⟨⟨0, (), rfl, o25, wEn_of empP (hK.sub [] rfl) empD ht hW⟩, hS.F ht⟩) hS.2.2 dX0_fits_175
              · have tc42_ := (show z.toInt ≤ 5 from ti_nlt rg_15 rfl c42_)
                refine lv_iconst (v := 1) hx hb dX0_fits_170 rg_6 ?_
                refine lv_goto (tgt := 175) hx hb dX0_fits_171 rfl ?_
                have kk44_ : (1 : Int32).toInt = 1 := rg_18
                have o26 : ((1 : Int32).toInt = 1 ∧ 0 ≤ z.toInt ∧ z.toInt ≤ 99) ∨ (1 : Int32).toInt = 0 := by omega
                rw [hQ]
                exact W.zret (v := 1) hx hb hr rfl (fun t ht hW => ⟨⟨1, (), rfl, o26, wEn_of empP (hK.sub [] rfl) empD ht hW⟩, hS.F ht⟩) hS.2.2 dX0_fits_175
        · refine lv_tableIn (tgt := 176) (off := 160) hx hb dX0_fits_16 (by rw [t_sw]; decide) (by rw [t_sw]; decide) (by rw [t_sw]; decide) (by decide) ?_
          refine lv_iload_n hx hb dX0_fits_176 rfl (lv_at hl 0 rfl) ?_
          refine lv_if_ne (tgt := 186) hx hb dX0_fits_177 rfl (fun c45_ => ?_) (fun c45_ => ?_)
          · have tc45_ := (show s14_.toInt ≠ 0 from ti_ne rfl rg_11 c45_)
            refine lv_iload_n hx hb dX0_fits_186 rfl (lv_at hl 3 rfl) ?_
            refine lv_if_ne (tgt := 194) hx hb dX0_fits_187 rfl (fun c46_ => ?_) (fun c46_ => ?_)
            · have tc46_ := (show z.toInt ≠ 0 from ti_ne rfl rg_11 c46_)
              refine lv_iconst (v := 0) hx hb dX0_fits_194 rg_0 ?_
              have kk47_ : (0 : Int32).toInt = 0 := rg_11
              have o27 : ((0 : Int32).toInt = 1 ∧ 0 ≤ z.toInt ∧ z.toInt ≤ 99) ∨ (0 : Int32).toInt = 0 := by omega
              rw [hQ]
              exact W.zret (v := 0) hx hb hr rfl (fun t ht hW => ⟨⟨0, (), rfl, o27, wEn_of empP (hK.sub [] rfl) empD ht hW⟩, hS.F ht⟩) hS.2.2 dX0_fits_195
            · have tc46_ := (show z.toInt = 0 from ti_eq rfl rg_11 c46_)
              refine lv_iconst (v := 1) hx hb dX0_fits_190 rg_6 ?_
              refine lv_goto (tgt := 195) hx hb dX0_fits_191 rfl ?_
              have kk48_ : (1 : Int32).toInt = 1 := rg_18
              have o28 : ((1 : Int32).toInt = 1 ∧ 0 ≤ z.toInt ∧ z.toInt ≤ 99) ∨ (1 : Int32).toInt = 0 := by omega
              rw [hQ]
              exact W.zret (v := 1) hx hb hr rfl (fun t ht hW => ⟨⟨1, (), rfl, o28, wEn_of empP (hK.sub [] rfl) empD ht hW⟩, hS.F ht⟩) hS.2.2 dX0_fits_195
          · have tc45_ := (show s14_.toInt = 0 from ti_eq rfl rg_11 c45_)
            refine lv_iload_n hx hb dX0_fits_180 rfl (lv_at hl 1 rfl) ?_
            refine lv_bipush (v := 6) hx hb dX0_fits_181 rg_55 ?_
            refine lv_icmp_ne (tgt := 194) hx hb dX0_fits_183 rfl (fun c49_ => ?_) (fun c49_ => ?_)
            · have tc49_ := (show x.toInt ≠ 6 from ti_ne rfl rg_70 c49_)
              refine lv_iconst (v := 0) hx hb dX0_fits_194 rg_0 ?_
              have kk50_ : (0 : Int32).toInt = 0 := rg_11
              have o29 : ((0 : Int32).toInt = 1 ∧ 0 ≤ z.toInt ∧ z.toInt ≤ 99) ∨ (0 : Int32).toInt = 0 := by omega
              rw [hQ]
              exact W.zret (v := 0) hx hb hr rfl (fun t ht hW => ⟨⟨0, (), rfl, o29, wEn_of empP (hK.sub [] rfl) empD ht hW⟩, hS.F ht⟩) hS.2.2 dX0_fits_195
            · have tc49_ := (show x.toInt = 6 from ti_eq rfl rg_70 c49_)
              refine lv_iload_n hx hb dX0_fits_186 rfl (lv_at hl 3 rfl) ?_
              refine lv_if_ne (tgt := 194) hx hb dX0_fits_187 rfl (fun c51_ => ?_) (fun c51_ => ?_)
              · have tc51_ := (show z.toInt ≠ 0 from ti_ne rfl rg_11 c51_)
                refine lv_iconst (v := 0) hx hb dX0_fits_194 rg_0 ?_
                have kk52_ : (0 : Int32).toInt = 0 := rg_11
                have o30 : ((0 : Int32).toInt = 1 ∧ 0 ≤ z.toInt ∧ z.toInt ≤ 99) ∨ (0 : Int32).toInt = 0 := by omega
                rw [hQ]
                exact W.zret (v := 0) hx hb hr rfl (fun t ht hW => ⟨⟨0, (), rfl, o30, wEn_of empP (hK.sub [] rfl) empD ht hW⟩, hS.F ht⟩) hS.2.2 dX0_fits_195
              · have tc51_ := (show z.toInt = 0 from ti_eq rfl rg_11 c51_)
                refine lv_iconst (v := 1) hx hb dX0_fits_190 rg_6 ?_
                refine lv_goto (tgt := 195) hx hb dX0_fits_191 rfl ?_
                have kk53_ : (1 : Int32).toInt = 1 := rg_18
                have o31 : ((1 : Int32).toInt = 1 ∧ 0 ≤ z.toInt ∧ z.toInt ≤ 99) ∨ (1 : Int32).toInt = 0 := by omega
                rw [hQ]
                exact W.zret (v := 1) hx hb hr rfl (fun t ht hW => ⟨⟨1, (), rfl, o31, wEn_of empP (hK.sub [] rfl) empD ht hW⟩, hS.F ht⟩) hS.2.2 dX0_fits_195
  refine lv_iload_n hx hb dX0_fits_0 rfl (lv_at hl 0 rfl) ?_
  refine lv_if_eq (tgt := 9) hx hb dX0_fits_1 rfl (fun c54_ => ?_) (fun c54_ => ?_)
  · have tc54_ := (show x.toInt = 0 from ti_eq rfl rg_11 c54_)
    refine lv_iconst (v := 1) hx hb dX0_fits_9 rg_6 ?_
    refine lv_goto (tgt := 14) hx hb dX0_fits_10 rfl ?_
    have kk55_ : (1 : Int32).toInt = 1 := rg_18
    exact pt14_  1 _ _ _  hP hD hS (lv_sub hl [0, 1, 2] rfl)
  · have tc54_ := (show x.toInt ≠ 0 from ti_ne rfl rg_11 c54_)
    refine lv_iload_n hx hb dX0_fits_4 rfl (lv_at hl 0 rfl) ?_
    refine lv_iconst (v := 1) hx hb dX0_fits_5 rg_6 ?_
    refine lv_icmp_ne (tgt := 13) hx hb dX0_fits_6 rfl (fun c56_ => ?_) (fun c56_ => ?_)
    · have tc56_ := (show x.toInt ≠ 1 from ti_ne rfl rg_18 c56_)
      refine lv_iconst (v := 0) hx hb dX0_fits_13 rg_0 ?_
      have kk57_ : (0 : Int32).toInt = 0 := rg_11
      exact pt14_  0 _ _ _  hP hD hS (lv_sub hl [0, 1, 2] rfl)
    · have tc56_ := (show x.toInt = 1 from ti_eq rfl rg_18 c56_)
      refine lv_iconst (v := 1) hx hb dX0_fits_9 rg_6 ?_
      refine lv_goto (tgt := 14) hx hb dX0_fits_10 rfl ?_
      have kk58_ : (1 : Int32).toInt = 1 := rg_18
      exact pt14_  1 _ _ _  hP hD hS (lv_sub hl [0, 1, 2] rfl)
def ow_k_sourceOf : List Cond := []
def vs_k_sourceOf : List Cond := .code yX10_sourceOf cX10_sourceOf 3 (some .int) :: (ow_k_sourceOf)
theorem vg_k_sourceOf : vs_k_sourceOf.all goodWord = true := by decide +kernel
theorem dd_k_sourceOf : yX10_sourceOf.cls ≠ "java/lang/invoke/MethodHandle" ∧ yX10_sourceOf.cls ≠ "java/lang/invoke/VarHandle" ∧ (parseMethodDescriptor yX10_sourceOf.desc).map (fun d => d.parameters.length) = some 2 := by decide +kernel
def rm_k_sourceOf : Room := { frames := 0, cells := 0, slots := 0, locals := 0 }
set_option maxHeartbeats 4000000 in
set_option maxRecDepth 100000 in
theorem k_sourceOf (l : Launch) (dC : Nat → ClassId) (dI : Nat → Nat → Nat) (x : Int32) (y : Int32) (hx0 : 0 ≤ x.toInt ∧ x.toInt ≤ 40) (sz : Nat) : Met l yX10_sourceOf vs_k_sourceOf rm_k_sourceOf (va_Pc [.int x, .int y] (wSt dC dI [] [] sz)) (va_Qi (fun (r : Int32) (_ : Unit) => (0 ≤ r.toInt ∧ r.toInt ≤ 40)) (fun (_ : Unit) => wEn dC dI (va_A [] sz) [] []) (va_A [] sz)) 0 0 (va_A [] sz) := by
  refine Met.ofW (cc := cX10_sourceOf) (maxL := 3) (ret := (some .int)) (by decide +kernel) rfl ?_
  intro p e s m args below meth c s₁ B hml hv
  obtain ⟨rfl, hsz, hP, hK, hD0, hE⟩ := hv
  have hx := B.exec
  have hb := B.bytes
  have hr := B.returns
  have hts := atoms_spec (ws := vs_k_sourceOf) B.pre
  have hown : s.vm.findClass RX10 = some m.cls := findClass_of_methodNamed B.named
  have hlocks := B.notSynchronized
  subst hsz
  have hD := hD0.self (sz := s.heap.size)
  generalize hAe : va_A [] s.heap.size = A at hD ⊢
  have hA : ∀ q : Nat, s.heap.size ≤ q → A q := fun q h => by rw [← hAe]; exact Or.inr h
  have hl := lv_entry ([.int x, .int y]) (n := 3) (Nat.le_of_ble_eq_true rfl)
  rw [lg_entry_eq]
  generalize (lg_sl ([.int x, .int y]) ++ List.replicate (3 - (lg_sl ([.int x, .int y])).length) Slot.unset).toArray = ls at hl ⊢
  have hl : lv_has ls 3 [(0, .int x), (1, .int y)] := hl
  have ho := fun w (h : w ∈ ow_k_sourceOf) => hts w (List.mem_cons_of_mem _ h)
  refine zQ (fun Q hQ => ?_)
  refine zH (A := A) (ws := []) (fun H hP hS => ?_) hP
  refine lv_iload_n hx hb dX10_sourceOf_0 rfl (lv_at hl 0 rfl) ?_
  refine lv_if_le (tgt := 14) hx hb dX10_sourceOf_1 rfl (fun c1_ => ?_) (fun c1_ => ?_)
  · have tc1_ := (show x.toInt ≤ 0 from ti_le rfl rg_11 c1_)
    refine lv_iconst (v := 0) hx hb dX10_sourceOf_14 rg_0 ?_
    refine lv_istore_n (lv' := [(2, .int 0), (0, .int x), (1, .int y)]) hx hb dX10_sourceOf_15 rfl hl (Nat.le_of_ble_eq_true rfl) rfl (fun ls hl => ?_)
    refine lv_iload_n hx hb dX10_sourceOf_16 rfl (lv_at hl 2 rfl) ?_
    refine lv_bipush (v := 6) hx hb dX10_sourceOf_17 rg_55 ?_
    refine lv_icmp_ne (tgt := 32) hx hb dX10_sourceOf_19 rfl (fun c2_ => ?_) (fun c2_ => ?_)
    · have tc2_ := (show y.toInt ≠ 6 from ti_ne rfl rg_70 c2_)
      refine lv_iload_n hx hb dX10_sourceOf_32 rfl (lv_at hl 1 rfl) ?_
      have o1 : 0 ≤ x.toInt := by omega
      have o2 : x.toInt ≤ 40 := by omega
      rw [hQ]
      exact W.iret (v := x) hx hb hr (fun t ht hW => ⟨⟨x, (), rfl, ⟨o1, o2⟩, wEn_of empP (hK.sub [] rfl) empD ht hW⟩, hS.F ht⟩) hS.2.2 dX10_sourceOf_33
    · have tc2_ := (show y.toInt = 6 from ti_eq rfl rg_70 c2_)
      refine lv_iload_n hx hb dX10_sourceOf_22 rfl (lv_at hl 0 rfl) ?_
      refine lv_if_eq (tgt := 32) hx hb dX10_sourceOf_23 rfl (fun _ => ?_) (fun cc => absurd (by decide) cc)
      refine lv_iload_n hx hb dX10_sourceOf_32 rfl (lv_at hl 1 rfl) ?_
      have o3 : 0 ≤ x.toInt := by omega
      have o4 : x.toInt ≤ 40 := by omega
      rw [hQ]
      exact W.iret (v := x) hx hb hr (fun t ht hW => ⟨⟨x, (), rfl, ⟨o3, o4⟩, wEn_of empP (hK.sub [] rfl) empD ht hW⟩, hS.F ht⟩) hS.2.2 dX10_sourceOf_33
  · have tc1_ := (show 0 < x.toInt from ti_nle rfl rg_11 c1_)
    refine lv_iload_n hx hb dX10_sourceOf_4 rfl (lv_at hl 0 rfl) ?_
    refine lv_bipush (v := 40) hx hb dX10_sourceOf_5 rg_73 ?_
    refine lv_icmp_ge (tgt := 14) hx hb dX10_sourceOf_7 rfl (fun c3_ => ?_) (fun c3_ => ?_)
    · have tc3_ := (show 40 ≤ x.toInt from ti_le rg_74 rfl c3_)
      refine lv_iconst (v := 0) hx hb dX10_sourceOf_14 rg_0 ?_
      refine lv_istore_n (lv' := [(2, .int 0), (0, .int x), (1, .int y)]) hx hb dX10_sourceOf_15 rfl hl (Nat.le_of_ble_eq_true rfl) rfl (fun ls hl => ?_)
      refine lv_iload_n hx hb dX10_sourceOf_16 rfl (lv_at hl 2 rfl) ?_
      refine lv_bipush (v := 6) hx hb dX10_sourceOf_17 rg_55 ?_
      refine lv_icmp_ne (tgt := 32) hx hb dX10_sourceOf_19 rfl (fun c4_ => ?_) (fun c4_ => ?_)
      · have tc4_ := (show y.toInt ≠ 6 from ti_ne rfl rg_70 c4_)
        refine lv_iload_n hx hb dX10_sourceOf_32 rfl (lv_at hl 1 rfl) ?_
        have o5 : 0 ≤ x.toInt := by omega
        have o6 : x.toInt ≤ 40 := by omega
        rw [hQ]
        exact W.iret (v := x) hx hb hr (fun t ht hW => ⟨⟨x, (), rfl, ⟨o5, o6⟩, wEn_of empP (hK.sub [] rfl) empD ht hW⟩, hS.F ht⟩) hS.2.2 dX10_sourceOf_33
      · have tc4_ := (show y.toInt = 6 from ti_eq rfl rg_70 c4_)
        refine lv_iload_n hx hb dX10_sourceOf_22 rfl (lv_at hl 0 rfl) ?_
        refine lv_if_eq (tgt := 32) hx hb dX10_sourceOf_23 rfl (fun _ => ?_) (fun cc => absurd (by decide) cc)
        refine lv_iload_n hx hb dX10_sourceOf_32 rfl (lv_at hl 1 rfl) ?_
        have o7 : 0 ≤ x.toInt := by omega
        have o8 : x.toInt ≤ 40 := by omega
        rw [hQ]
        exact W.iret (v := x) hx hb hr (fun t ht hW => ⟨⟨x, (), rfl, ⟨o7, o8⟩, wEn_of empP (hK.sub [] rfl) empD ht hW⟩, hS.F ht⟩) hS.2.2 dX10_sourceOf_33
    · have tc3_ := (show x.toInt < 40 from ti_nle rg_74 rfl c3_)
      refine lv_iconst (v := 1) hx hb dX10_sourceOf_10 rg_6 ?_
      refine lv_goto (tgt := 15) hx hb dX10_sourceOf_11 rfl ?_
      refine lv_istore_n (lv' := [(2, .int 1), (0, .int x), (1, .int y)]) hx hb dX10_sourceOf_15 rfl hl (Nat.le_of_ble_eq_true rfl) rfl (fun ls hl => ?_)
      refine lv_iload_n hx hb dX10_sourceOf_16 rfl (lv_at hl 2 rfl) ?_
      refine lv_bipush (v := 6) hx hb dX10_sourceOf_17 rg_55 ?_
      refine lv_icmp_ne (tgt := 32) hx hb dX10_sourceOf_19 rfl (fun c5_ => ?_) (fun c5_ => ?_)
      · have tc5_ := (show y.toInt ≠ 6 from ti_ne rfl rg_70 c5_)
        refine lv_iload_n hx hb dX10_sourceOf_32 rfl (lv_at hl 1 rfl) ?_
        have o9 : 0 ≤ x.toInt := by omega
        have o10 : x.toInt ≤ 40 := by omega
        rw [hQ]
        exact W.iret (v := x) hx hb hr (fun t ht hW => ⟨⟨x, (), rfl, ⟨o9, o10⟩, wEn_of empP (hK.sub [] rfl) empD ht hW⟩, hS.F ht⟩) hS.2.2 dX10_sourceOf_33
      · have tc5_ := (show y.toInt = 6 from ti_eq rfl rg_70 c5_)
        refine lv_iload_n hx hb dX10_sourceOf_22 rfl (lv_at hl 0 rfl) ?_
        refine lv_if_eq (tgt := 32) hx hb dX10_sourceOf_23 rfl (fun cc => absurd cc (by decide)) (fun _ => ?_)
        refine lv_iload_n hx hb dX10_sourceOf_26 rfl (lv_at hl 1 rfl) ?_
        refine lv_iconst (v := 1) hx hb dX10_sourceOf_27 rg_6 ?_
        refine lv_isub hx hb dX10_sourceOf_28 ?_
        refine lv_topi (fun z6_ ez6_ => ?_)
        have o11 : -2147483648 ≤ x.toInt - 1 := by omega
        have o12 : x.toInt - 1 ≤ 2147483647 := by omega
        have tz6_ : z6_.toInt = x.toInt - 1 := ti_sub ez6_ rfl rg_18 o11 o12
        refine lv_goto (tgt := 33) hx hb dX10_sourceOf_29 rfl ?_
        have o13 : 0 ≤ z6_.toInt := by omega
        have o14 : z6_.toInt ≤ 40 := by omega
        rw [hQ]
        exact W.iret (v := z6_) hx hb hr (fun t ht hW => ⟨⟨z6_, (), rfl, ⟨o13, o14⟩, wEn_of empP (hK.sub [] rfl) empD ht hW⟩, hS.F ht⟩) hS.2.2 dX10_sourceOf_33
def ow_k_gcd : List Cond := []
def vs_k_gcd : List Cond := .code yX11_greatestDivisor cX11_greatestDivisor 11 (some .long) :: (ow_k_gcd)
theorem vg_k_gcd : vs_k_gcd.all goodWord = true := by decide +kernel
theorem dd_k_gcd : yX11_greatestDivisor.cls ≠ "java/lang/invoke/MethodHandle" ∧ yX11_greatestDivisor.cls ≠ "java/lang/invoke/VarHandle" ∧ (parseMethodDescriptor yX11_greatestDivisor.desc).map (fun d => d.parameters.length) = some 2 := by decide +kernel
def rm_k_gcd : Room := { frames := 0, cells := 0, slots := 0, locals := 0 }
set_option maxHeartbeats 4000000 in
set_option maxRecDepth 100000 in
theorem k_gcd (l : Launch) (dC : Nat → ClassId) (dI : Nat → Nat → Nat) (x : Int64) (y : Int64)  (sz : Nat) : Met l yX11_greatestDivisor vs_k_gcd rm_k_gcd (va_Pc [.long x, .long y] (wSt dC dI [] [] sz)) (va_Ql (fun (r : Int64) (_ : Unit) => True) (fun (_ : Unit) => wEn dC dI (va_A [] sz) [] []) (va_A [] sz)) 0 0 (va_A [] sz) := by
  refine Met.ofW (cc := cX11_greatestDivisor) (maxL := 11) (ret := (some .long)) (by decide +kernel) rfl ?_
  intro p e s m args below meth c s₁ B hml hv
  obtain ⟨rfl, hsz, hP, hK, hD0, hE⟩ := hv
  have hx := B.exec
  have hb := B.bytes
  have hr := B.returns
  have hts := atoms_spec (ws := vs_k_gcd) B.pre
  have hown : s.vm.findClass RX11 = some m.cls := findClass_of_methodNamed B.named
  have hlocks := B.notSynchronized
  subst hsz
  have hD := hD0.self (sz := s.heap.size)
  generalize hAe : va_A [] s.heap.size = A at hD ⊢
  have hA : ∀ q : Nat, s.heap.size ≤ q → A q := fun q h => by rw [← hAe]; exact Or.inr h
  have hl := lv_entry ([.long x, .long y]) (n := 11) (Nat.le_of_ble_eq_true rfl)
  rw [lg_entry_eq]
  generalize (lg_sl ([.long x, .long y]) ++ List.replicate (11 - (lg_sl ([.long x, .long y])).length) Slot.unset).toArray = ls at hl ⊢
  have hl : lv_has ls 11 [(0, .long x), (2, .long y)] := hl
  have ho := fun w (h : w ∈ ow_k_gcd) => hts w (List.mem_cons_of_mem _ h)
  refine zQ (fun Q hQ => ?_)
  refine zH (A := A) (ws := []) (fun H hP hS => ?_) hP
  refine lv_lload_n hx hb dX11_greatestDivisor_0 rfl (lv_at hl 0 rfl) ?_
  refine lv_lstore (lv' := [(4, .long x), (0, .long x), (2, .long y)]) hx hb dX11_greatestDivisor_1 hl (Nat.le_of_ble_eq_true rfl) rfl (fun ls hl => ?_)
  refine lv_lload_n hx hb dX11_greatestDivisor_3 rfl (lv_at hl 2 rfl) ?_
  refine lv_lstore (lv' := [(6, .long y), (4, .long x), (0, .long x), (2, .long y)]) hx hb dX11_greatestDivisor_4 hl (Nat.le_of_ble_eq_true rfl) rfl (fun ls hl => ?_)
  refine lv_iconst (v := 0) hx hb dX11_greatestDivisor_6 rg_0 ?_
  refine lv_istore (lv' := [(8, .int 0), (6, .long y), (4, .long x), (0, .long x), (2, .long y)]) hx hb dX11_greatestDivisor_7 hl (Nat.le_of_ble_eq_true rfl) rfl (fun ls hl => ?_)
  have pt9_ : ∀ (n9_ : Nat) (v4_ : Int64) (v6_ : Int64) (v8_ : Int32) (H : Heap) (locs : List Loc) (ls : Array Slot), (128 - v8_.toInt).toNat < n9_ → (0 ≤ v8_.toInt) → va_P (dC, dI) vwCl [] H → va_D A [] → va_S A s.heap H locs → lv_has ls 11 [(4, .long v4_), (6, .long v6_), (8, .int v8_)] → W p l e (headSpec vs_k_gcd rm_k_gcd).room s m #[Value.long x, Value.long y] below meth c H locs 0 0 Q (F0 m 9 ls []) := by
    intro n9_
    induction n9_ with
    | zero => intro v4_ v6_ v8_ H locs ls hn9_ hf9_0_ hP hD hS hl; exact absurd hn9_ (Nat.not_lt_zero _)
    | succ n9_ ih9_ =>
      intro v4_ v6_ v8_ H locs ls hn9_ hf9_0_ hP hD hS hl
      refine lv_iload hx hb dX11_greatestDivisor_9 (lv_at hl 2 rfl) ?_
      refine lv_sipush (v := 128) hx hb dX11_greatestDivisor_11 rx_745f463bf8 ?_
      refine lv_icmp_ge (tgt := 45) hx hb dX11_greatestDivisor_14 rfl (fun c1_ => ?_) (fun c1_ => ?_)
      · have tc1_ := (show 128 ≤ v8_.toInt from ti_le rx_c53a69782d rfl c1_)
        refine lv_lload hx hb dX11_greatestDivisor_45 (lv_at hl 0 rfl) ?_
        rw [hQ]
        exact W.lret (v := v4_) hx hb hr (fun t ht hW => ⟨⟨v4_, (), rfl, trivial, wEn_of empP (hK.sub [] rfl) empD ht hW⟩, hS.F ht⟩) hS.2.2 dX11_greatestDivisor_47
      · have tc1_ := (show v8_.toInt < 128 from ti_nle rx_c53a69782d rfl c1_)
        refine lv_lload hx hb dX11_greatestDivisor_17 (lv_at hl 1 rfl) ?_
        refine lv_lconst (v := 0) hx hb dX11_greatestDivisor_19 (by decide) ?_
        refine W.lcmp hx hb dX11_greatestDivisor_20 ?_
        refine lv_topi (fun z2_ ez2_ => ?_)
        refine lv_if_eq (tgt := 45) hx hb dX11_greatestDivisor_21 rfl (fun c3_ => ?_) (fun c3_ => ?_)
        · have tc3_ := (show z2_.toInt = 0 from ti_eq rfl rg_11 c3_)
          have lc3_ : v6_ = 0 := (lg_cmp_eq v6_ 0).mp (by rw [← ez2_]; exact c3_)
          refine lv_lload hx hb dX11_greatestDivisor_45 (lv_at hl 0 rfl) ?_
          rw [hQ]
          exact W.lret (v := v4_) hx hb hr (fun t ht hW => ⟨⟨v4_, (), rfl, trivial, wEn_of empP (hK.sub [] rfl) empD ht hW⟩, hS.F ht⟩) hS.2.2 dX11_greatestDivisor_47
        · have tc3_ := (show z2_.toInt ≠ 0 from ti_ne rfl rg_11 c3_)
          have lc3_ : ¬ v6_ = 0 := fun h => c3_ (by rw [ez2_]; exact (lg_cmp_eq v6_ 0).mpr h)
          refine lv_lload hx hb dX11_greatestDivisor_24 (lv_at hl 0 rfl) ?_
          refine lv_lload hx hb dX11_greatestDivisor_26 (lv_at hl 1 rfl) ?_
          refine lv_lrem hx hb dX11_greatestDivisor_28 lc3_ ?_
          refine lv_topl (fun y4_ ey4_ => ?_)
          refine lv_lstore (lv' := [(9, .long y4_), (4, .long v4_), (6, .long v6_), (8, .int v8_)]) hx hb dX11_greatestDivisor_29 hl (Nat.le_of_ble_eq_true rfl) rfl (fun ls hl => ?_)
          refine lv_lload hx hb dX11_greatestDivisor_31 (lv_at hl 2 rfl) ?_
          refine lv_lstore (lv' := [(4, .long v6_), (9, .long y4_), (6, .long v6_), (8, .int v8_)]) hx hb dX11_greatestDivisor_33 hl (Nat.le_of_ble_eq_true rfl) rfl (fun ls hl => ?_)
          refine lv_lload hx hb dX11_greatestDivisor_35 (lv_at hl 1 rfl) ?_
          refine lv_lstore (lv' := [(6, .long y4_), (4, .long v6_), (9, .long y4_), (8, .int v8_)]) hx hb dX11_greatestDivisor_37 hl (Nat.le_of_ble_eq_true rfl) rfl (fun ls hl => ?_)
          obtain ⟨z5_, ez5_⟩ : ∃ y : Int32, y = v8_ + 1 := ⟨_, rfl⟩
          have o1 : -2147483648 ≤ v8_.toInt + 1 := by omega
          have o2 : v8_.toInt + 1 ≤ 2147483647 := by omega
          have tz5_ := ti_add ez5_ rfl rg_18 o1 o2
          refine lv_iinc (v := z5_) (lv' := [(8, .int z5_), (6, .long y4_), (4, .long v6_), (9, .long y4_)]) hx hb dX11_greatestDivisor_39 hl (k := 3) rfl (iincp ez5_ rg_6) (Nat.le_of_ble_eq_true rfl) rfl (fun ls hl => ?_)
          refine lv_goto (tgt := 9) hx hb dX11_greatestDivisor_42 rfl ?_
          have o3 : (128 - z5_.toInt).toNat < n9_ := by omega
          have o4 : 0 ≤ z5_.toInt := by omega
          exact ih9_  v6_ y4_ z5_ _ _ _ o3 o4 hP hD hS (lv_sub hl [2, 1, 0] rfl)
  have kk6_ : (0 : Int32).toInt = 0 := rg_11
  have o5 : 0 ≤ (0 : Int32).toInt := by omega
  exact pt9_ _  x y 0 _ _ _ (Nat.lt_succ_self _) o5 hP hD hS (lv_sub hl [2, 1, 0] rfl)
def ow_k_isBetter : List Cond := []
def vs_k_isBetter : List Cond := .code yX11_isBetter cX11_isBetter 6 (some .boolean) :: (ow_k_isBetter ++ (([.methodLink RX11 321 yJ6_bitCount_0f7a4, .static yJ6_bitCount_0f7a4, .initialized yJ6_bitCount_0f7a4.cls] : List Cond) ++ (vs_k_bitCount)))
theorem vg_k_isBetter : vs_k_isBetter.all goodWord = true := by decide +kernel
theorem dd_k_isBetter : yX11_isBetter.cls ≠ "java/lang/invoke/MethodHandle" ∧ yX11_isBetter.cls ≠ "java/lang/invoke/VarHandle" ∧ (parseMethodDescriptor yX11_isBetter.desc).map (fun d => d.parameters.length) = some 4 := by decide +kernel
def rm_k_isBetter : Room := { frames := 1, cells := 0, slots := 0, locals := 20 }
theorem gd_k_isBetter_321_k_bitCount : GoodIn vs_k_isBetter (va_wsS RX11 321 yJ6_bitCount_0f7a4 vs_k_bitCount) := goodIn_app (goodIn_sub (fun w h => (List.mem_cons_of_mem _ (List.mem_append_right _ (List.mem_append_left _ h)))) (by decide +kernel)) (goodIn_sub (fun w h => (List.mem_cons_of_mem _ (List.mem_append_right _ (List.mem_append_right _ h)))) vg_k_bitCount)
set_option maxHeartbeats 4000000 in
set_option maxRecDepth 100000 in
theorem k_isBetter (l : Launch) (dC : Nat → ClassId) (dI : Nat → Nat → Nat) (x : Int32) (y : Int32) (z : Int32) (v : Int32)  (sz : Nat) : Met l yX11_isBetter vs_k_isBetter rm_k_isBetter (va_Pc [.int x, .int y, .int z, .int v] (wSt dC dI [] [] sz)) (va_Qi (fun (r : Int32) (_ : Unit) => (r.toInt = 0 ∨ r.toInt = 1)) (fun (_ : Unit) => wEn dC dI (va_A [] sz) [] []) (va_A [] sz)) 0 0 (va_A [] sz) := by
  refine Met.ofW (cc := cX11_isBetter) (maxL := 6) (ret := (some .boolean)) (by decide +kernel) rfl ?_
  intro p e s m args below meth c s₁ B hml hv
  obtain ⟨rfl, hsz, hP, hK, hD0, hE⟩ := hv
  have hx := B.exec
  have hb := B.bytes
  have hr := B.returns
  have hts := atoms_spec (ws := vs_k_isBetter) B.pre
  have hown : s.vm.findClass RX11 = some m.cls := findClass_of_methodNamed B.named
  have hlocks := B.notSynchronized
  subst hsz
  have hD := hD0.self (sz := s.heap.size)
  generalize hAe : va_A [] s.heap.size = A at hD ⊢
  have hA : ∀ q : Nat, s.heap.size ≤ q → A q := fun q h => by rw [← hAe]; exact Or.inr h
  have hl := lv_entry ([.int x, .int y, .int z, .int v]) (n := 6) (Nat.le_of_ble_eq_true rfl)
  rw [lg_entry_eq]
  generalize (lg_sl ([.int x, .int y, .int z, .int v]) ++ List.replicate (6 - (lg_sl ([.int x, .int y, .int z, .int v])).length) Slot.unset).toArray = ls at hl ⊢
  have hl : lv_has ls 6 [(0, .int x), (1, .int y), (2, .int z), (3, .int v)] := hl
  have ho := fun w (h : w ∈ ow_k_isBetter) => hts w (List.mem_cons_of_mem _ (List.mem_append_left _ h))
  refine zQ (fun Q hQ => ?_)
  refine zH (A := A) (ws := []) (fun H hP hS => ?_) hP
  refine lv_iload_n hx hb dX11_isBetter_0 rfl (lv_at hl 0 rfl) ?_
  refine lv_iload_n hx hb dX11_isBetter_1 rfl (lv_at hl 2 rfl) ?_
  refine lv_icmp_eq (tgt := 16) hx hb dX11_isBetter_2 rfl (fun c1_ => ?_) (fun c1_ => ?_)
  · have tc1_ := (show x.toInt = z.toInt from ti_eq rfl rfl c1_)
    refine lv_iload_n hx hb dX11_isBetter_16 rfl (lv_at hl 1 rfl) ?_
    refine zs_i (va_runS (As := [.int y]) (rest := []) ⟨hx, hb, hml, hown, hts⟩ (k_bitCount l dC dI y  H.size) (va_cwS 1 hts gd_k_isBetter_321_k_bitCount rfl rfl rfl dd_k_bitCount ⟨Nat.le_of_ble_eq_true rfl, Nat.le_of_ble_eq_true rfl⟩) (preS (A := A) empP (hK.sub (tys' := []) [] rfl) empD hE) rfl rfl hl.1 rfl (lv_room (Nat.le_of_ble_eq_true rfl)) dX11_isBetter_17 ⟨Nat.le_of_ble_eq_true rfl, Nat.le_of_ble_eq_true rfl⟩) hP hD hS hA (fun z2_ H locs hq hP hD hS => ?_)
    have q3_ : True := hq
    refine W.widen (k := 0) (n := 0) (Nat.le_of_ble_eq_true rfl) (Nat.le_of_ble_eq_true rfl) ?_
    refine lv_istore (lv' := [(4, .int z2_), (0, .int x), (1, .int y), (2, .int z), (3, .int v)]) hx hb dX11_isBetter_20 hl (Nat.le_of_ble_eq_true rfl) rfl (fun ls hl => ?_)
    refine lv_iload_n hx hb dX11_isBetter_22 rfl (lv_at hl 4 rfl) ?_
    refine zs_i (va_runS (As := [.int v]) (rest := []) ⟨hx, hb, hml, hown, hts⟩ (k_bitCount l dC dI v  H.size) (va_cwS 1 hts gd_k_isBetter_321_k_bitCount rfl rfl rfl dd_k_bitCount ⟨Nat.le_of_ble_eq_true rfl, Nat.le_of_ble_eq_true rfl⟩) (preS (A := A) empP (hK.sub (tys' := []) [] rfl) empD hE) rfl rfl hl.1 rfl (lv_room (Nat.le_of_ble_eq_true rfl)) dX11_isBetter_23 ⟨Nat.le_of_ble_eq_true rfl, Nat.le_of_ble_eq_true rfl⟩) hP hD hS hA (fun z4_ H locs hq hP hD hS => ?_)
    have q5_ : True := hq
    refine W.widen (k := 0) (n := 0) (Nat.le_of_ble_eq_true rfl) (Nat.le_of_ble_eq_true rfl) ?_
    refine lv_istore (lv' := [(5, .int z4_), (4, .int z2_), (0, .int x), (1, .int y), (2, .int z), (3, .int v)]) hx hb dX11_isBetter_26 hl (Nat.le_of_ble_eq_true rfl) rfl (fun ls hl => ?_)
    refine lv_iload hx hb dX11_isBetter_28 (lv_at hl 1 rfl) ?_
    refine lv_iload hx hb dX11_isBetter_30 (lv_at hl 0 rfl) ?_
    refine lv_icmp_eq (tgt := 50) hx hb dX11_isBetter_32 rfl (fun c6_ => ?_) (fun c6_ => ?_)
    · have tc6_ := (show z2_.toInt = z4_.toInt from ti_eq rfl rfl c6_)
      refine lv_iload_n hx hb dX11_isBetter_50 rfl (lv_at hl 3 rfl) ?_
      refine lv_iload_n hx hb dX11_isBetter_51 rfl (lv_at hl 5 rfl) ?_
      refine lv_icmp_ge (tgt := 59) hx hb dX11_isBetter_52 rfl (fun c7_ => ?_) (fun c7_ => ?_)
      · have tc7_ := (show v.toInt ≤ y.toInt from ti_le rfl rfl c7_)
        refine lv_iconst (v := 0) hx hb dX11_isBetter_59 rg_0 ?_
        have kk8_ : (0 : Int32).toInt = 0 := rg_11
        have o1 : (0 : Int32).toInt = 0 ∨ (0 : Int32).toInt = 1 := by omega
        rw [hQ]
        exact W.zret (v := 0) hx hb hr rfl (fun t ht hW => ⟨⟨0, (), rfl, o1, wEn_of empP (hK.sub [] rfl) empD ht hW⟩, hS.F ht⟩) hS.2.2 dX11_isBetter_60
      · have tc7_ := (show y.toInt < v.toInt from ti_nle rfl rfl c7_)
        refine lv_iconst (v := 1) hx hb dX11_isBetter_55 rg_6 ?_
        refine lv_goto (tgt := 60) hx hb dX11_isBetter_56 rfl ?_
        have kk9_ : (1 : Int32).toInt = 1 := rg_18
        have o2 : (1 : Int32).toInt = 0 ∨ (1 : Int32).toInt = 1 := by omega
        rw [hQ]
        exact W.zret (v := 1) hx hb hr rfl (fun t ht hW => ⟨⟨1, (), rfl, o2, wEn_of empP (hK.sub [] rfl) empD ht hW⟩, hS.F ht⟩) hS.2.2 dX11_isBetter_60
    · have tc6_ := (show z2_.toInt ≠ z4_.toInt from ti_ne rfl rfl c6_)
      refine lv_iload hx hb dX11_isBetter_35 (lv_at hl 1 rfl) ?_
      refine lv_iload hx hb dX11_isBetter_37 (lv_at hl 0 rfl) ?_
      refine lv_icmp_ge (tgt := 46) hx hb dX11_isBetter_39 rfl (fun c10_ => ?_) (fun c10_ => ?_)
      · have tc10_ := (show z4_.toInt ≤ z2_.toInt from ti_le rfl rfl c10_)
        refine lv_iconst (v := 0) hx hb dX11_isBetter_46 rg_0 ?_
        refine lv_goto (tgt := 60) hx hb dX11_isBetter_47 rfl ?_
        have kk11_ : (0 : Int32).toInt = 0 := rg_11
        have o3 : (0 : Int32).toInt = 0 ∨ (0 : Int32).toInt = 1 := by omega
        rw [hQ]
        exact W.zret (v := 0) hx hb hr rfl (fun t ht hW => ⟨⟨0, (), rfl, o3, wEn_of empP (hK.sub [] rfl) empD ht hW⟩, hS.F ht⟩) hS.2.2 dX11_isBetter_60
      · have tc10_ := (show z2_.toInt < z4_.toInt from ti_nle rfl rfl c10_)
        refine lv_iconst (v := 1) hx hb dX11_isBetter_42 rg_6 ?_
        refine lv_goto (tgt := 60) hx hb dX11_isBetter_43 rfl ?_
        have kk12_ : (1 : Int32).toInt = 1 := rg_18
        have o4 : (1 : Int32).toInt = 0 ∨ (1 : Int32).toInt = 1 := by omega
        rw [hQ]
        exact W.zret (v := 1) hx hb hr rfl (fun t ht hW => ⟨⟨1, (), rfl, o4, wEn_of empP (hK.sub [] rfl) empD ht hW⟩, hS.F ht⟩) hS.2.2 dX11_isBetter_60
  · have tc1_ := (show x.toInt ≠ z.toInt from ti_ne rfl rfl c1_)
    refine lv_iload_n hx hb dX11_isBetter_5 rfl (lv_at hl 0 rfl) ?_
    refine lv_iload_n hx hb dX11_isBetter_6 rfl (lv_at hl 2 rfl) ?_
    refine lv_icmp_le (tgt := 14) hx hb dX11_isBetter_7 rfl (fun c13_ => ?_) (fun c13_ => ?_)
    · have tc13_ := (show x.toInt ≤ z.toInt from ti_le rfl rfl c13_)
      refine lv_iconst (v := 0) hx hb dX11_isBetter_14 rg_0 ?_
      have kk14_ : (0 : Int32).toInt = 0 := rg_11
      have o5 : (0 : Int32).toInt = 0 ∨ (0 : Int32).toInt = 1 := by omega
      rw [hQ]
      exact W.zret (v := 0) hx hb hr rfl (fun t ht hW => ⟨⟨0, (), rfl, o5, wEn_of empP (hK.sub [] rfl) empD ht hW⟩, hS.F ht⟩) hS.2.2 dX11_isBetter_15
    · have tc13_ := (show z.toInt < x.toInt from ti_nle rfl rfl c13_)
      refine lv_iconst (v := 1) hx hb dX11_isBetter_10 rg_6 ?_
      refine lv_goto (tgt := 15) hx hb dX11_isBetter_11 rfl ?_
      have kk15_ : (1 : Int32).toInt = 1 := rg_18
      have o6 : (1 : Int32).toInt = 0 ∨ (1 : Int32).toInt = 1 := by omega
      rw [hQ]
      exact W.zret (v := 1) hx hb hr rfl (fun t ht hW => ⟨⟨1, (), rfl, o6, wEn_of empP (hK.sub [] rfl) empD ht hW⟩, hS.F ht⟩) hS.2.2 dX11_isBetter_15
def ow_k_choiceIn : List Cond := []
def vs_k_choiceIn : List Cond := .code yX2_choiceIn cX2_choiceIn 1 (some .int) :: (ow_k_choiceIn)
theorem vg_k_choiceIn : vs_k_choiceIn.all goodWord = true := by decide +kernel
theorem dd_k_choiceIn : yX2_choiceIn.cls ≠ "java/lang/invoke/MethodHandle" ∧ yX2_choiceIn.cls ≠ "java/lang/invoke/VarHandle" ∧ (parseMethodDescriptor yX2_choiceIn.desc).map (fun d => d.parameters.length) = some 1 := by decide +kernel
def rm_k_choiceIn : Room := { frames := 0, cells := 0, slots := 0, locals := 0 }
set_option maxHeartbeats 4000000 in
set_option maxRecDepth 100000 in
theorem k_choiceIn (l : Launch) (dC : Nat → ClassId) (dI : Nat → Nat → Nat) (x : Int32)  (sz : Nat) : Met l yX2_choiceIn vs_k_choiceIn rm_k_choiceIn (va_Pc [.int x] (wSt dC dI [] [] sz)) (va_Qi (fun (r : Int32) (_ : Unit) => True) (fun (_ : Unit) => wEn dC dI (va_A [] sz) [] []) (va_A [] sz)) 0 0 (va_A [] sz) := by
  refine Met.ofW (cc := cX2_choiceIn) (maxL := 1) (ret := (some .int)) (by decide +kernel) rfl ?_
  intro p e s m args below meth c s₁ B hml hv
  obtain ⟨rfl, hsz, hP, hK, hD0, hE⟩ := hv
  have hx := B.exec
  have hb := B.bytes
  have hr := B.returns
  have hts := atoms_spec (ws := vs_k_choiceIn) B.pre
  have hown : s.vm.findClass RX2 = some m.cls := findClass_of_methodNamed B.named
  have hlocks := B.notSynchronized
  subst hsz
  have hD := hD0.self (sz := s.heap.size)
  generalize hAe : va_A [] s.heap.size = A at hD ⊢
  have hA : ∀ q : Nat, s.heap.size ≤ q → A q := fun q h => by rw [← hAe]; exact Or.inr h
  have hl := lv_entry ([.int x]) (n := 1) (Nat.le_of_ble_eq_true rfl)
  rw [lg_entry_eq]
  generalize (lg_sl ([.int x]) ++ List.replicate (1 - (lg_sl ([.int x])).length) Slot.unset).toArray = ls at hl ⊢
  have hl : lv_has ls 1 [(0, .int x)] := hl
  have ho := fun w (h : w ∈ ow_k_choiceIn) => hts w (List.mem_cons_of_mem _ h)
  refine zQ (fun Q hQ => ?_)
  refine zH (A := A) (ws := []) (fun H hP hS => ?_) hP
  refine lv_sipush (v := 4095) hx hb dX2_choiceIn_0 rx_4723659b9f ?_
  refine lv_iload_n hx hb dX2_choiceIn_3 rfl (lv_at hl 0 rfl) ?_
  refine lv_sipush (v := 4095) hx hb dX2_choiceIn_4 rx_4723659b9f ?_
  refine lv_iand hx hb dX2_choiceIn_7 ?_
  refine lv_topi (fun z1_ ez1_ => ?_)
  refine lv_isub hx hb dX2_choiceIn_8 ?_
  refine lv_topi (fun z2_ ez2_ => ?_)
  rw [hQ]
  exact W.iret (v := z2_) hx hb hr (fun t ht hW => ⟨⟨z2_, (), rfl, trivial, wEn_of empP (hK.sub [] rfl) empD ht hW⟩, hS.F ht⟩) hS.2.2 dX2_choiceIn_9
def ow_k_leastP : List Cond := [.methodLink RX8 147 Lib.MathLoose.min_long.x, .static Lib.MathLoose.min_long.x, .initialized "java/lang/Math", .code Lib.MathLoose.min_long.x Lib.MathLoose.min_long.code 4 (some .long)]
def vs_k_leastP : List Cond := .code yX8_leastProduct cX8_leastProduct 8 (some .long) :: (ow_k_leastP)
theorem vg_k_leastP : vs_k_leastP.all goodWord = true := by decide +kernel
theorem dd_k_leastP : yX8_leastProduct.cls ≠ "java/lang/invoke/MethodHandle" ∧ yX8_leastProduct.cls ≠ "java/lang/invoke/VarHandle" ∧ (parseMethodDescriptor yX8_leastProduct.desc).map (fun d => d.parameters.length) = some 4 := by decide +kernel
def rm_k_leastP : Room := { frames := 1, cells := 0, slots := 0, locals := 24 }
set_option maxHeartbeats 4000000 in
set_option maxRecDepth 100000 in
theorem k_leastP (l : Launch) (dC : Nat → ClassId) (dI : Nat → Nat → Nat) (a : Int64) (b : Int64) (x : Int64) (y : Int64)  (sz : Nat) : Met l yX8_leastProduct vs_k_leastP rm_k_leastP (va_Pc [.long a, .long b, .long x, .long y] (wSt dC dI [] [] sz)) (va_Ql (fun (r : Int64) (_ : Unit) => True) (fun (_ : Unit) => wEn dC dI (va_A [] sz) [] []) (va_A [] sz)) 0 0 (va_A [] sz) := by
  refine Met.ofW (cc := cX8_leastProduct) (maxL := 8) (ret := (some .long)) (by decide +kernel) rfl ?_
  intro p e s m args below meth c s₁ B hml hv
  obtain ⟨rfl, hsz, hP, hK, hD0, hE⟩ := hv
  have hx := B.exec
  have hb := B.bytes
  have hr := B.returns
  have hts := atoms_spec (ws := vs_k_leastP) B.pre
  have hown : s.vm.findClass RX8 = some m.cls := findClass_of_methodNamed B.named
  have hlocks := B.notSynchronized
  subst hsz
  have hD := hD0.self (sz := s.heap.size)
  generalize hAe : va_A [] s.heap.size = A at hD ⊢
  have hA : ∀ q : Nat, s.heap.size ≤ q → A q := fun q h => by rw [← hAe]; exact Or.inr h
  have hl := lv_entry ([.long a, .long b, .long x, .long y]) (n := 8) (Nat.le_of_ble_eq_true rfl)
  rw [lg_entry_eq]
  generalize (lg_sl ([.long a, .long b, .long x, .long y]) ++ List.replicate (8 - (lg_sl ([.long a, .long b, .long x, .long y])).length) Slot.unset).toArray = ls at hl ⊢
  have hl : lv_has ls 8 [(0, .long a), (2, .long b), (4, .long x), (6, .long y)] := hl
  have ho := fun w (h : w ∈ ow_k_leastP) => hts w (List.mem_cons_of_mem _ h)
  refine zQ (fun Q hQ => ?_)
  refine zH (A := A) (ws := []) (fun H hP hS => ?_) hP
  refine lv_lload_n hx hb dX8_leastProduct_0 rfl (lv_at hl 0 rfl) ?_
  refine lv_lload hx hb dX8_leastProduct_1 (lv_at hl 2 rfl) ?_
  refine lv_lmul hx hb dX8_leastProduct_3 ?_
  refine lv_topl (fun y1_ ey1_ => ?_)
  refine lv_lload_n hx hb dX8_leastProduct_4 rfl (lv_at hl 0 rfl) ?_
  refine lv_lload hx hb dX8_leastProduct_5 (lv_at hl 3 rfl) ?_
  refine lv_lmul hx hb dX8_leastProduct_7 ?_
  refine lv_topl (fun y2_ ey2_ => ?_)
  refine va_mmin_long hx hb (hml.trans hl.1.symm) hown (ho (.methodLink RX8 147 Lib.MathLoose.min_long.x) (List.mem_of_getElem? (i := 0) rfl)) (ho (.static Lib.MathLoose.min_long.x) (List.mem_of_getElem? (i := 1) rfl)) (ho (.initialized "java/lang/Math") (List.mem_of_getElem? (i := 2) rfl)) (ho (.code Lib.MathLoose.min_long.x Lib.MathLoose.min_long.code 4 (some .long)) (List.mem_of_getElem? (i := 3) rfl)) (Nat.le_of_ble_eq_true rfl) (Nat.le_of_ble_eq_true rfl) (Nat.le_of_ble_eq_true rfl) (Nat.le_of_ble_eq_true rfl) dX8_leastProduct_8 ?_
  refine lv_topl (fun y3_ ey3_ => ?_)
  refine lv_lload_n hx hb dX8_leastProduct_11 rfl (lv_at hl 1 rfl) ?_
  refine lv_lload hx hb dX8_leastProduct_12 (lv_at hl 2 rfl) ?_
  refine lv_lmul hx hb dX8_leastProduct_14 ?_
  refine lv_topl (fun y4_ ey4_ => ?_)
  refine lv_lload_n hx hb dX8_leastProduct_15 rfl (lv_at hl 1 rfl) ?_
  refine lv_lload hx hb dX8_leastProduct_16 (lv_at hl 3 rfl) ?_
  refine lv_lmul hx hb dX8_leastProduct_18 ?_
  refine lv_topl (fun y5_ ey5_ => ?_)
  refine va_mmin_long hx hb (hml.trans hl.1.symm) hown (ho (.methodLink RX8 147 Lib.MathLoose.min_long.x) (List.mem_of_getElem? (i := 0) rfl)) (ho (.static Lib.MathLoose.min_long.x) (List.mem_of_getElem? (i := 1) rfl)) (ho (.initialized "java/lang/Math") (List.mem_of_getElem? (i := 2) rfl)) (ho (.code Lib.MathLoose.min_long.x Lib.MathLoose.min_long.code 4 (some .long)) (List.mem_of_getElem? (i := 3) rfl)) (Nat.le_of_ble_eq_true rfl) (Nat.le_of_ble_eq_true rfl) (Nat.le_of_ble_eq_true rfl) (Nat.le_of_ble_eq_true rfl) dX8_leastProduct_19 ?_
  refine lv_topl (fun y6_ ey6_ => ?_)
  refine va_mmin_long hx hb (hml.trans hl.1.symm) hown (ho (.methodLink RX8 147 Lib.MathLoose.min_long.x) (List.mem_of_getElem? (i := 0) rfl)) (ho (.static Lib.MathLoose.min_long.x) (List.mem_of_getElem? (i := 1) rfl)) (ho (.initialized "java/lang/Math") (List.mem_of_getElem? (i := 2) rfl)) (ho (.code Lib.MathLoose.min_long.x Lib.MathLoose.min_long.code 4 (some .long)) (List.mem_of_getElem? (i := 3) rfl)) (Nat.le_of_ble_eq_true rfl) (Nat.le_of_ble_eq_true rfl) (Nat.le_of_ble_eq_true rfl) (Nat.le_of_ble_eq_true rfl) dX8_leastProduct_22 ?_
  refine lv_topl (fun y7_ ey7_ => ?_)
  rw [hQ]
  exact W.lret (v := y7_) hx hb hr (fun t ht hW => ⟨⟨y7_, (), rfl, trivial, wEn_of empP (hK.sub [] rfl) empD ht hW⟩, hS.F ht⟩) hS.2.2 dX8_leastProduct_25
def ow_k_greatP : List Cond := [.methodLink RX8 109 Lib.MathLoose.max_long.x, .static Lib.MathLoose.max_long.x, .initialized "java/lang/Math", .code Lib.MathLoose.max_long.x Lib.MathLoose.max_long.code 4 (some .long)]
def vs_k_greatP : List Cond := .code yX8_greatestProduct cX8_greatestProduct 8 (some .long) :: (ow_k_greatP)
theorem vg_k_greatP : vs_k_greatP.all goodWord = true := by decide +kernel
theorem dd_k_greatP : yX8_greatestProduct.cls ≠ "java/lang/invoke/MethodHandle" ∧ yX8_greatestProduct.cls ≠ "java/lang/invoke/VarHandle" ∧ (parseMethodDescriptor yX8_greatestProduct.desc).map (fun d => d.parameters.length) = some 4 := by decide +kernel
def rm_k_greatP : Room := { frames := 1, cells := 0, slots := 0, locals := 24 }
set_option maxHeartbeats 4000000 in
set_option maxRecDepth 100000 in
theorem k_greatP (l : Launch) (dC : Nat → ClassId) (dI : Nat → Nat → Nat) (a : Int64) (b : Int64) (x : Int64) (y : Int64)  (sz : Nat) : Met l yX8_greatestProduct vs_k_greatP rm_k_greatP (va_Pc [.long a, .long b, .long x, .long y] (wSt dC dI [] [] sz)) (va_Ql (fun (r : Int64) (_ : Unit) => True) (fun (_ : Unit) => wEn dC dI (va_A [] sz) [] []) (va_A [] sz)) 0 0 (va_A [] sz) := by
  refine Met.ofW (cc := cX8_greatestProduct) (maxL := 8) (ret := (some .long)) (by decide +kernel) rfl ?_
  intro p e s m args below meth c s₁ B hml hv
  obtain ⟨rfl, hsz, hP, hK, hD0, hE⟩ := hv
  have hx := B.exec
  have hb := B.bytes
  have hr := B.returns
  have hts := atoms_spec (ws := vs_k_greatP) B.pre
  have hown : s.vm.findClass RX8 = some m.cls := findClass_of_methodNamed B.named
  have hlocks := B.notSynchronized
  subst hsz
  have hD := hD0.self (sz := s.heap.size)
  generalize hAe : va_A [] s.heap.size = A at hD ⊢
  have hA : ∀ q : Nat, s.heap.size ≤ q → A q := fun q h => by rw [← hAe]; exact Or.inr h
  have hl := lv_entry ([.long a, .long b, .long x, .long y]) (n := 8) (Nat.le_of_ble_eq_true rfl)
  rw [lg_entry_eq]
  generalize (lg_sl ([.long a, .long b, .long x, .long y]) ++ List.replicate (8 - (lg_sl ([.long a, .long b, .long x, .long y])).length) Slot.unset).toArray = ls at hl ⊢
  have hl : lv_has ls 8 [(0, .long a), (2, .long b), (4, .long x), (6, .long y)] := hl
  have ho := fun w (h : w ∈ ow_k_greatP) => hts w (List.mem_cons_of_mem _ h)
  refine zQ (fun Q hQ => ?_)
  refine zH (A := A) (ws := []) (fun H hP hS => ?_) hP
  refine lv_lload_n hx hb dX8_greatestProduct_0 rfl (lv_at hl 0 rfl) ?_
  refine lv_lload hx hb dX8_greatestProduct_1 (lv_at hl 2 rfl) ?_
  refine lv_lmul hx hb dX8_greatestProduct_3 ?_
  refine lv_topl (fun y1_ ey1_ => ?_)
  refine lv_lload_n hx hb dX8_greatestProduct_4 rfl (lv_at hl 0 rfl) ?_
  refine lv_lload hx hb dX8_greatestProduct_5 (lv_at hl 3 rfl) ?_
  refine lv_lmul hx hb dX8_greatestProduct_7 ?_
  refine lv_topl (fun y2_ ey2_ => ?_)
  refine va_mmax_long hx hb (hml.trans hl.1.symm) hown (ho (.methodLink RX8 109 Lib.MathLoose.max_long.x) (List.mem_of_getElem? (i := 0) rfl)) (ho (.static Lib.MathLoose.max_long.x) (List.mem_of_getElem? (i := 1) rfl)) (ho (.initialized "java/lang/Math") (List.mem_of_getElem? (i := 2) rfl)) (ho (.code Lib.MathLoose.max_long.x Lib.MathLoose.max_long.code 4 (some .long)) (List.mem_of_getElem? (i := 3) rfl)) (Nat.le_of_ble_eq_true rfl) (Nat.le_of_ble_eq_true rfl) (Nat.le_of_ble_eq_true rfl) (Nat.le_of_ble_eq_true rfl) dX8_greatestProduct_8 ?_
  refine lv_topl (fun y3_ ey3_ => ?_)
  refine lv_lload_n hx hb dX8_greatestProduct_11 rfl (lv_at hl 1 rfl) ?_
  refine lv_lload hx hb dX8_greatestProduct_12 (lv_at hl 2 rfl) ?_
  refine lv_lmul hx hb dX8_greatestProduct_14 ?_
  refine lv_topl (fun y4_ ey4_ => ?_)
  refine lv_lload_n hx hb dX8_greatestProduct_15 rfl (lv_at hl 1 rfl) ?_
  refine lv_lload hx hb dX8_greatestProduct_16 (lv_at hl 3 rfl) ?_
  refine lv_lmul hx hb dX8_greatestProduct_18 ?_
  refine lv_topl (fun y5_ ey5_ => ?_)
  refine va_mmax_long hx hb (hml.trans hl.1.symm) hown (ho (.methodLink RX8 109 Lib.MathLoose.max_long.x) (List.mem_of_getElem? (i := 0) rfl)) (ho (.static Lib.MathLoose.max_long.x) (List.mem_of_getElem? (i := 1) rfl)) (ho (.initialized "java/lang/Math") (List.mem_of_getElem? (i := 2) rfl)) (ho (.code Lib.MathLoose.max_long.x Lib.MathLoose.max_long.code 4 (some .long)) (List.mem_of_getElem? (i := 3) rfl)) (Nat.le_of_ble_eq_true rfl) (Nat.le_of_ble_eq_true rfl) (Nat.le_of_ble_eq_true rfl) (Nat.le_of_ble_eq_true rfl) dX8_greatestProduct_19 ?_
  refine lv_topl (fun y6_ ey6_ => ?_)
  refine va_mmax_long hx hb (hml.trans hl.1.symm) hown (ho (.methodLink RX8 109 Lib.MathLoose.max_long.x) (List.mem_of_getElem? (i := 0) rfl)) (ho (.static Lib.MathLoose.max_long.x) (List.mem_of_getElem? (i := 1) rfl)) (ho (.initialized "java/lang/Math") (List.mem_of_getElem? (i := 2) rfl)) (ho (.code Lib.MathLoose.max_long.x Lib.MathLoose.max_long.code 4 (some .long)) (List.mem_of_getElem? (i := 3) rfl)) (Nat.le_of_ble_eq_true rfl) (Nat.le_of_ble_eq_true rfl) (Nat.le_of_ble_eq_true rfl) (Nat.le_of_ble_eq_true rfl) dX8_greatestProduct_22 ?_
  refine lv_topl (fun y7_ ey7_ => ?_)
  rw [hQ]
  exact W.lret (v := y7_) hx hb hr (fun t ht hW => ⟨⟨y7_, (), rfl, trivial, wEn_of empP (hK.sub [] rfl) empD ht hW⟩, hS.F ht⟩) hS.2.2 dX8_greatestProduct_25
