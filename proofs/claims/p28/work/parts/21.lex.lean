theorem dX12_sign_0 : decode cX12_sign 0 = .ok (.iload_n 1, 1) := by decide +kernel
theorem dX12_sign_1 : decode cX12_sign 1 = .ok (.aload_n 0, 1) := by decide +kernel
theorem dX12_sign_2 : decode cX12_sign 2 = .ok (.getfield 137, 3) := by decide +kernel
theorem dX12_sign_5 : decode cX12_sign 5 = .ok (.if_icmp .ge 16, 3) := by decide +kernel
theorem dX12_sign_21 : decode cX12_sign 21 = .ok (.iconst 0, 1) := by decide +kernel
theorem dX12_sign_22 : decode cX12_sign 22 = .ok (.ireturn, 1) := by decide +kernel
theorem dX12_sign_8 : decode cX12_sign 8 = .ok (.aload_n 0, 1) := by decide +kernel
theorem dX12_sign_9 : decode cX12_sign 9 = .ok (.getfield 13, 3) := by decide +kernel
theorem dX12_sign_12 : decode cX12_sign 12 = .ok (.iload_n 1, 1) := by decide +kernel
theorem dX12_sign_13 : decode cX12_sign 13 = .ok (.baload, 1) := by decide +kernel
theorem dX12_sign_14 : decode cX12_sign 14 = .ok (.sipush 255, 3) := by decide +kernel
theorem dX12_sign_17 : decode cX12_sign 17 = .ok (.iand, 1) := by decide +kernel
theorem dX12_sign_18 : decode cX12_sign 18 = .ok (.goto 4, 3) := by decide +kernel
theorem dX12_isLetter_0 : decode cX12_isLetter 0 = .ok (.iload_n 0, 1) := by decide +kernel
theorem dX12_isLetter_1 : decode cX12_isLetter 1 = .ok (.bipush 97, 2) := by decide +kernel
theorem dX12_isLetter_3 : decode cX12_isLetter 3 = .ok (.if_icmp .lt 13, 3) := by decide +kernel
theorem dX12_isLetter_16 : decode cX12_isLetter 16 = .ok (.iconst 0, 1) := by decide +kernel
theorem dX12_isLetter_17 : decode cX12_isLetter 17 = .ok (.ireturn, 1) := by decide +kernel
theorem dX12_isLetter_6 : decode cX12_isLetter 6 = .ok (.iload_n 0, 1) := by decide +kernel
theorem dX12_isLetter_7 : decode cX12_isLetter 7 = .ok (.bipush 122, 2) := by decide +kernel
theorem dX12_isLetter_9 : decode cX12_isLetter 9 = .ok (.if_icmp .gt 7, 3) := by decide +kernel
theorem dX12_isLetter_12 : decode cX12_isLetter 12 = .ok (.iconst 1, 1) := by decide +kernel
theorem dX12_isLetter_13 : decode cX12_isLetter 13 = .ok (.goto 4, 3) := by decide +kernel
theorem dX12_isDigit_0 : decode cX12_isDigit 0 = .ok (.iload_n 0, 1) := by decide +kernel
theorem dX12_isDigit_1 : decode cX12_isDigit 1 = .ok (.bipush 48, 2) := by decide +kernel
theorem dX12_isDigit_3 : decode cX12_isDigit 3 = .ok (.if_icmp .lt 13, 3) := by decide +kernel
theorem dX12_isDigit_16 : decode cX12_isDigit 16 = .ok (.iconst 0, 1) := by decide +kernel
theorem dX12_isDigit_17 : decode cX12_isDigit 17 = .ok (.ireturn, 1) := by decide +kernel
theorem dX12_isDigit_6 : decode cX12_isDigit 6 = .ok (.iload_n 0, 1) := by decide +kernel
theorem dX12_isDigit_7 : decode cX12_isDigit 7 = .ok (.bipush 57, 2) := by decide +kernel
theorem dX12_isDigit_9 : decode cX12_isDigit 9 = .ok (.if_icmp .gt 7, 3) := by decide +kernel
theorem dX12_isDigit_12 : decode cX12_isDigit 12 = .ok (.iconst 1, 1) := by decide +kernel
theorem dX12_isDigit_13 : decode cX12_isDigit 13 = .ok (.goto 4, 3) := by decide +kernel
theorem dX12_fails_0 : decode cX12_fails 0 = .ok (.aload_n 0, 1) := by decide +kernel
theorem dX12_fails_1 : decode cX12_fails 1 = .ok (.getfield 140, 3) := by decide +kernel
theorem dX12_fails_4 : decode cX12_fails 4 = .ok (.ifCond .le 4, 3) := by decide +kernel
theorem dX12_fails_8 : decode cX12_fails 8 = .ok (.aload_n 0, 1) := by decide +kernel
theorem dX12_fails_9 : decode cX12_fails 9 = .ok (.iload_n 1, 1) := by decide +kernel
theorem dX12_fails_10 : decode cX12_fails 10 = .ok (.putfield 140, 3) := by decide +kernel
theorem dX12_fails_13 : decode cX12_fails 13 = .ok (.aload_n 0, 1) := by decide +kernel
theorem dX12_fails_14 : decode cX12_fails 14 = .ok (.iload_n 2, 1) := by decide +kernel
theorem dX12_fails_15 : decode cX12_fails 15 = .ok (.putfield 16, 3) := by decide +kernel
theorem dX12_fails_18 : decode cX12_fails 18 = .ok (.return_, 1) := by decide +kernel
theorem dX12_fails_7 : decode cX12_fails 7 = .ok (.return_, 1) := by decide +kernel
theorem dX12_isGood_0 : decode cX12_isGood 0 = .ok (.aload_n 0, 1) := by decide +kernel
theorem dX12_isGood_1 : decode cX12_isGood 1 = .ok (.getfield 140, 3) := by decide +kernel
theorem dX12_isGood_4 : decode cX12_isGood 4 = .ok (.ifCond .ne 7, 3) := by decide +kernel
theorem dX12_isGood_11 : decode cX12_isGood 11 = .ok (.iconst 0, 1) := by decide +kernel
theorem dX12_isGood_12 : decode cX12_isGood 12 = .ok (.ireturn, 1) := by decide +kernel
theorem dX12_isGood_7 : decode cX12_isGood 7 = .ok (.iconst 1, 1) := by decide +kernel
theorem dX12_isGood_8 : decode cX12_isGood 8 = .ok (.goto 4, 3) := by decide +kernel
theorem dX12_is_0 : decode cX12_is 0 = .ok (.aload_n 0, 1) := by decide +kernel
theorem dX12_is_1 : decode cX12_is 1 = .ok (.getfield 199, 3) := by decide +kernel
theorem dX12_is_4 : decode cX12_is 4 = .ok (.iconst 5, 1) := by decide +kernel
theorem dX12_is_5 : decode cX12_is 5 = .ok (.if_icmp .ne 19, 3) := by decide +kernel
theorem dX12_is_24 : decode cX12_is 24 = .ok (.iconst 0, 1) := by decide +kernel
theorem dX12_is_25 : decode cX12_is 25 = .ok (.ireturn, 1) := by decide +kernel
theorem dX12_is_8 : decode cX12_is 8 = .ok (.aload_n 0, 1) := by decide +kernel
theorem dX12_is_9 : decode cX12_is 9 = .ok (.aload_n 0, 1) := by decide +kernel
theorem dX12_is_10 : decode cX12_is 10 = .ok (.getfield 192, 3) := by decide +kernel
theorem dX12_is_13 : decode cX12_is 13 = .ok (.invokevirtual 195, 3) := by decide +kernel
theorem dX12_is_16 : decode cX12_is 16 = .ok (.iload_n 1, 1) := by decide +kernel
theorem dX12_is_17 : decode cX12_is 17 = .ok (.if_icmp .ne 7, 3) := by decide +kernel
theorem dX12_is_20 : decode cX12_is 20 = .ok (.iconst 1, 1) := by decide +kernel
theorem dX12_is_21 : decode cX12_is 21 = .ok (.goto 4, 3) := by decide +kernel
theorem dX12_isWord_0 : decode cX12_isWord 0 = .ok (.aload_n 0, 1) := by decide +kernel
theorem dX12_isWord_1 : decode cX12_isWord 1 = .ok (.getfield 199, 3) := by decide +kernel
theorem dX12_isWord_4 : decode cX12_isWord 4 = .ok (.iconst 3, 1) := by decide +kernel
theorem dX12_isWord_5 : decode cX12_isWord 5 = .ok (.if_icmp .ne 16, 3) := by decide +kernel
theorem dX12_isWord_21 : decode cX12_isWord 21 = .ok (.iconst 0, 1) := by decide +kernel
theorem dX12_isWord_22 : decode cX12_isWord 22 = .ok (.ireturn, 1) := by decide +kernel
theorem dX12_isWord_8 : decode cX12_isWord 8 = .ok (.aload_n 0, 1) := by decide +kernel
theorem dX12_isWord_9 : decode cX12_isWord 9 = .ok (.getfield 206, 3) := by decide +kernel
theorem dX12_isWord_12 : decode cX12_isWord 12 = .ok (.lload_n 1, 1) := by decide +kernel
theorem dX12_isWord_13 : decode cX12_isWord 13 = .ok (.lcmp, 1) := by decide +kernel
theorem dX12_isWord_14 : decode cX12_isWord 14 = .ok (.ifCond .ne 7, 3) := by decide +kernel
theorem dX12_isWord_17 : decode cX12_isWord 17 = .ok (.iconst 1, 1) := by decide +kernel
theorem dX12_isWord_18 : decode cX12_isWord 18 = .ok (.goto 4, 3) := by decide +kernel
theorem dX12_wrong_0 : decode cX12_wrong 0 = .ok (.aload_n 0, 1) := by decide +kernel
theorem dX12_wrong_1 : decode cX12_wrong 1 = .ok (.aload_n 0, 1) := by decide +kernel
theorem dX12_wrong_2 : decode cX12_wrong 2 = .ok (.getfield 199, 3) := by decide +kernel
theorem dX12_wrong_5 : decode cX12_wrong 5 = .ok (.iconst 1, 1) := by decide +kernel
theorem dX12_wrong_6 : decode cX12_wrong 6 = .ok (.if_icmp .ne 7, 3) := by decide +kernel
theorem dX12_wrong_13 : decode cX12_wrong 13 = .ok (.iconst 2, 1) := by decide +kernel
theorem dX12_wrong_14 : decode cX12_wrong 14 = .ok (.aload_n 0, 1) := by decide +kernel
theorem dX12_wrong_15 : decode cX12_wrong 15 = .ok (.getfield 192, 3) := by decide +kernel
theorem dX12_wrong_18 : decode cX12_wrong 18 = .ok (.invokevirtual 220, 3) := by decide +kernel
theorem dX12_wrong_21 : decode cX12_wrong 21 = .ok (.return_, 1) := by decide +kernel
theorem dX12_wrong_9 : decode cX12_wrong 9 = .ok (.iconst 1, 1) := by decide +kernel
theorem dX12_wrong_10 : decode cX12_wrong 10 = .ok (.goto 4, 3) := by decide +kernel
theorem dX12_isKept_0 : decode cX12_isKept 0 = .ok (.lload_n 0, 1) := by decide +kernel
theorem dX12_isKept_1 : decode cX12_isKept 1 = .ok (.ldc2_w 143, 3) := by decide +kernel
theorem dX12_isKept_4 : decode cX12_isKept 4 = .ok (.lcmp, 1) := by decide +kernel
theorem dX12_isKept_5 : decode cX12_isKept 5 = .ok (.ifCond .eq 91, 3) := by decide +kernel
theorem dX12_isKept_96 : decode cX12_isKept 96 = .ok (.iconst 1, 1) := by decide +kernel
theorem dX12_isKept_97 : decode cX12_isKept 97 = .ok (.goto 4, 3) := by decide +kernel
theorem dX12_isKept_101 : decode cX12_isKept 101 = .ok (.istore_n 2, 1) := by decide +kernel
theorem dX12_isKept_102 : decode cX12_isKept 102 = .ok (.iload_n 2, 1) := by decide +kernel
theorem dX12_isKept_103 : decode cX12_isKept 103 = .ok (.ifCond .ne 91, 3) := by decide +kernel
theorem dX12_isKept_194 : decode cX12_isKept 194 = .ok (.iconst 1, 1) := by decide +kernel
theorem dX12_isKept_195 : decode cX12_isKept 195 = .ok (.goto 4, 3) := by decide +kernel
theorem dX12_isKept_199 : decode cX12_isKept 199 = .ok (.ireturn, 1) := by decide +kernel
theorem dX12_isKept_8 : decode cX12_isKept 8 = .ok (.lload_n 0, 1) := by decide +kernel
theorem dX12_isKept_9 : decode cX12_isKept 9 = .ok (.ldc2_w 145, 3) := by decide +kernel
theorem dX12_isKept_12 : decode cX12_isKept 12 = .ok (.lcmp, 1) := by decide +kernel
theorem dX12_isKept_13 : decode cX12_isKept 13 = .ok (.ifCond .eq 83, 3) := by decide +kernel
theorem dX12_isKept_16 : decode cX12_isKept 16 = .ok (.lload_n 0, 1) := by decide +kernel
theorem dX12_isKept_17 : decode cX12_isKept 17 = .ok (.ldc2_w 147, 3) := by decide +kernel
theorem dX12_isKept_20 : decode cX12_isKept 20 = .ok (.lcmp, 1) := by decide +kernel
theorem dX12_isKept_21 : decode cX12_isKept 21 = .ok (.ifCond .eq 75, 3) := by decide +kernel
theorem dX12_isKept_24 : decode cX12_isKept 24 = .ok (.lload_n 0, 1) := by decide +kernel
theorem dX12_isKept_25 : decode cX12_isKept 25 = .ok (.ldc2_w 149, 3) := by decide +kernel
theorem dX12_isKept_28 : decode cX12_isKept 28 = .ok (.lcmp, 1) := by decide +kernel
theorem dX12_isKept_29 : decode cX12_isKept 29 = .ok (.ifCond .eq 67, 3) := by decide +kernel
theorem dX12_isKept_32 : decode cX12_isKept 32 = .ok (.lload_n 0, 1) := by decide +kernel
theorem dX12_isKept_33 : decode cX12_isKept 33 = .ok (.ldc2_w 151, 3) := by decide +kernel
theorem dX12_isKept_36 : decode cX12_isKept 36 = .ok (.lcmp, 1) := by decide +kernel
theorem dX12_isKept_37 : decode cX12_isKept 37 = .ok (.ifCond .eq 59, 3) := by decide +kernel
theorem dX12_isKept_40 : decode cX12_isKept 40 = .ok (.lload_n 0, 1) := by decide +kernel
theorem dX12_isKept_41 : decode cX12_isKept 41 = .ok (.ldc2_w 153, 3) := by decide +kernel
theorem dX12_isKept_44 : decode cX12_isKept 44 = .ok (.lcmp, 1) := by decide +kernel
theorem dX12_isKept_45 : decode cX12_isKept 45 = .ok (.ifCond .eq 51, 3) := by decide +kernel
theorem dX12_isKept_48 : decode cX12_isKept 48 = .ok (.lload_n 0, 1) := by decide +kernel
theorem dX12_isKept_49 : decode cX12_isKept 49 = .ok (.ldc2_w 155, 3) := by decide +kernel
theorem dX12_isKept_52 : decode cX12_isKept 52 = .ok (.lcmp, 1) := by decide +kernel
theorem dX12_isKept_53 : decode cX12_isKept 53 = .ok (.ifCond .eq 43, 3) := by decide +kernel
theorem dX12_isKept_56 : decode cX12_isKept 56 = .ok (.lload_n 0, 1) := by decide +kernel
theorem dX12_isKept_57 : decode cX12_isKept 57 = .ok (.ldc2_w 157, 3) := by decide +kernel
theorem dX12_isKept_60 : decode cX12_isKept 60 = .ok (.lcmp, 1) := by decide +kernel
theorem dX12_isKept_61 : decode cX12_isKept 61 = .ok (.ifCond .eq 35, 3) := by decide +kernel
theorem dX12_isKept_64 : decode cX12_isKept 64 = .ok (.lload_n 0, 1) := by decide +kernel
theorem dX12_isKept_65 : decode cX12_isKept 65 = .ok (.ldc2_w 159, 3) := by decide +kernel
theorem dX12_isKept_68 : decode cX12_isKept 68 = .ok (.lcmp, 1) := by decide +kernel
theorem dX12_isKept_69 : decode cX12_isKept 69 = .ok (.ifCond .eq 27, 3) := by decide +kernel
theorem dX12_isKept_72 : decode cX12_isKept 72 = .ok (.lload_n 0, 1) := by decide +kernel
theorem dX12_isKept_73 : decode cX12_isKept 73 = .ok (.ldc2_w 161, 3) := by decide +kernel
theorem dX12_isKept_76 : decode cX12_isKept 76 = .ok (.lcmp, 1) := by decide +kernel
theorem dX12_isKept_77 : decode cX12_isKept 77 = .ok (.ifCond .eq 19, 3) := by decide +kernel
theorem dX12_isKept_80 : decode cX12_isKept 80 = .ok (.lload_n 0, 1) := by decide +kernel
theorem dX12_isKept_81 : decode cX12_isKept 81 = .ok (.ldc2_w 163, 3) := by decide +kernel
theorem dX12_isKept_84 : decode cX12_isKept 84 = .ok (.lcmp, 1) := by decide +kernel
theorem dX12_isKept_85 : decode cX12_isKept 85 = .ok (.ifCond .eq 11, 3) := by decide +kernel
theorem dX12_isKept_88 : decode cX12_isKept 88 = .ok (.lload_n 0, 1) := by decide +kernel
theorem dX12_isKept_89 : decode cX12_isKept 89 = .ok (.ldc2_w 165, 3) := by decide +kernel
theorem dX12_isKept_92 : decode cX12_isKept 92 = .ok (.lcmp, 1) := by decide +kernel
theorem dX12_isKept_93 : decode cX12_isKept 93 = .ok (.ifCond .ne 7, 3) := by decide +kernel
theorem dX12_isKept_100 : decode cX12_isKept 100 = .ok (.iconst 0, 1) := by decide +kernel
theorem dX12_isKept_106 : decode cX12_isKept 106 = .ok (.lload_n 0, 1) := by decide +kernel
theorem dX12_isKept_107 : decode cX12_isKept 107 = .ok (.ldc2_w 167, 3) := by decide +kernel
theorem dX12_isKept_110 : decode cX12_isKept 110 = .ok (.lcmp, 1) := by decide +kernel
theorem dX12_isKept_111 : decode cX12_isKept 111 = .ok (.ifCond .eq 83, 3) := by decide +kernel
theorem dX12_isKept_114 : decode cX12_isKept 114 = .ok (.lload_n 0, 1) := by decide +kernel
theorem dX12_isKept_115 : decode cX12_isKept 115 = .ok (.ldc2_w 169, 3) := by decide +kernel
theorem dX12_isKept_118 : decode cX12_isKept 118 = .ok (.lcmp, 1) := by decide +kernel
theorem dX12_isKept_119 : decode cX12_isKept 119 = .ok (.ifCond .eq 75, 3) := by decide +kernel
theorem dX12_isKept_122 : decode cX12_isKept 122 = .ok (.lload_n 0, 1) := by decide +kernel
theorem dX12_isKept_123 : decode cX12_isKept 123 = .ok (.ldc2_w 171, 3) := by decide +kernel
theorem dX12_isKept_126 : decode cX12_isKept 126 = .ok (.lcmp, 1) := by decide +kernel
theorem dX12_isKept_127 : decode cX12_isKept 127 = .ok (.ifCond .eq 67, 3) := by decide +kernel
theorem dX12_isKept_130 : decode cX12_isKept 130 = .ok (.lload_n 0, 1) := by decide +kernel
theorem dX12_isKept_131 : decode cX12_isKept 131 = .ok (.ldc2_w 173, 3) := by decide +kernel
theorem dX12_isKept_134 : decode cX12_isKept 134 = .ok (.lcmp, 1) := by decide +kernel
theorem dX12_isKept_135 : decode cX12_isKept 135 = .ok (.ifCond .eq 59, 3) := by decide +kernel
theorem dX12_isKept_138 : decode cX12_isKept 138 = .ok (.lload_n 0, 1) := by decide +kernel
theorem dX12_isKept_139 : decode cX12_isKept 139 = .ok (.ldc2_w 175, 3) := by decide +kernel
theorem dX12_isKept_142 : decode cX12_isKept 142 = .ok (.lcmp, 1) := by decide +kernel
theorem dX12_isKept_143 : decode cX12_isKept 143 = .ok (.ifCond .eq 51, 3) := by decide +kernel
theorem dX12_isKept_146 : decode cX12_isKept 146 = .ok (.lload_n 0, 1) := by decide +kernel
theorem dX12_isKept_147 : decode cX12_isKept 147 = .ok (.ldc2_w 177, 3) := by decide +kernel
theorem dX12_isKept_150 : decode cX12_isKept 150 = .ok (.lcmp, 1) := by decide +kernel
theorem dX12_isKept_151 : decode cX12_isKept 151 = .ok (.ifCond .eq 43, 3) := by decide +kernel
theorem dX12_isKept_154 : decode cX12_isKept 154 = .ok (.lload_n 0, 1) := by decide +kernel
theorem dX12_isKept_155 : decode cX12_isKept 155 = .ok (.ldc2_w 179, 3) := by decide +kernel
theorem dX12_isKept_158 : decode cX12_isKept 158 = .ok (.lcmp, 1) := by decide +kernel
theorem dX12_isKept_159 : decode cX12_isKept 159 = .ok (.ifCond .eq 35, 3) := by decide +kernel
theorem dX12_isKept_162 : decode cX12_isKept 162 = .ok (.lload_n 0, 1) := by decide +kernel
theorem dX12_isKept_163 : decode cX12_isKept 163 = .ok (.ldc2_w 181, 3) := by decide +kernel
theorem dX12_isKept_166 : decode cX12_isKept 166 = .ok (.lcmp, 1) := by decide +kernel
theorem dX12_isKept_167 : decode cX12_isKept 167 = .ok (.ifCond .eq 27, 3) := by decide +kernel
theorem dX12_isKept_170 : decode cX12_isKept 170 = .ok (.lload_n 0, 1) := by decide +kernel
theorem dX12_isKept_171 : decode cX12_isKept 171 = .ok (.ldc2_w 183, 3) := by decide +kernel
theorem dX12_isKept_174 : decode cX12_isKept 174 = .ok (.lcmp, 1) := by decide +kernel
theorem dX12_isKept_175 : decode cX12_isKept 175 = .ok (.ifCond .eq 19, 3) := by decide +kernel
theorem dX12_isKept_178 : decode cX12_isKept 178 = .ok (.lload_n 0, 1) := by decide +kernel
theorem dX12_isKept_179 : decode cX12_isKept 179 = .ok (.ldc2_w 185, 3) := by decide +kernel
theorem dX12_isKept_182 : decode cX12_isKept 182 = .ok (.lcmp, 1) := by decide +kernel
theorem dX12_isKept_183 : decode cX12_isKept 183 = .ok (.ifCond .eq 11, 3) := by decide +kernel
theorem dX12_isKept_186 : decode cX12_isKept 186 = .ok (.lload_n 0, 1) := by decide +kernel
theorem dX12_isKept_187 : decode cX12_isKept 187 = .ok (.ldc2_w 187, 3) := by decide +kernel
theorem dX12_isKept_190 : decode cX12_isKept 190 = .ok (.lcmp, 1) := by decide +kernel
theorem dX12_isKept_191 : decode cX12_isKept 191 = .ok (.ifCond .ne 7, 3) := by decide +kernel
theorem dX12_isKept_198 : decode cX12_isKept 198 = .ok (.iconst 0, 1) := by decide +kernel
theorem rg_0 : Int32.ofInt 0 = 0 := by decide
theorem rg_1 : Int32.ofInt 255 = 255 := by decide
theorem rg_2 : Int32.ofInt 97 = 97 := by decide
theorem rg_3 : (97 : Int32).toInt = 97 := by decide
theorem rg_4 : Int32.ofInt 122 = 122 := by decide
theorem rg_5 : (122 : Int32).toInt = 122 := by decide
theorem rg_6 : Int32.ofInt 1 = 1 := by decide
theorem rg_7 : Int32.ofInt 48 = 48 := by decide
theorem rg_8 : (48 : Int32).toInt = 48 := by decide
theorem rg_9 : Int32.ofInt 57 = 57 := by decide
theorem rg_10 : (57 : Int32).toInt = 57 := by decide
theorem rg_11 : (0 : Int32).toInt = 0 := by decide
theorem rg_12 : 4 ∈ [4, 5] := by decide
theorem rg_13 : 5 ∈ [4, 5] := by decide
theorem rg_14 : Int32.ofInt 5 = 5 := by decide
theorem rg_15 : (5 : Int32).toInt = 5 := by decide
theorem rg_16 : Int32.ofInt 3 = 3 := by decide
theorem rg_17 : (3 : Int32).toInt = 3 := by decide
theorem rg_18 : (1 : Int32).toInt = 1 := by decide
theorem rg_19 : Int32.ofInt 2 = 2 := by decide
theorem rg_20 : (2 : Int32).toInt = 2 := by decide
theorem rg_21 : ∀ q, q ∈ [4, 5] → q ∈ [4, 5] := by decide
def ow_n_sign : List Cond := [.fieldLink RX12 137 "NearEnoughModel" "size" "I", .fieldLink RX12 13 "NearEnoughModel" "text" "[B"]
def vs_n_sign : List Cond := .code yX12_sign cX12_sign 2 (some .int) :: (ow_n_sign ++ (wsX120))
theorem vg_n_sign : vs_n_sign.all goodWord = true := by decide +kernel
theorem dd_n_sign : yX12_sign.cls = RX12 ∧ yX12_sign.cls ≠ "java/lang/invoke/MethodHandle" ∧ yX12_sign.cls ≠ "java/lang/invoke/VarHandle" ∧ (parseMethodDescriptor yX12_sign.desc).map (fun d => d.parameters.length) = some 1 := by decide +kernel
def rm_n_sign : Room := { frames := 0, cells := 0, slots := 0, locals := 0 }
set_option maxHeartbeats 4000000 in
set_option maxRecDepth 100000 in
/-- sign(k) -/
theorem n_sign (l : Launch) (dC : Nat → ClassId) (dI : Nat → Nat → Nat) (h : Nat) (ad : Nat → Nat) (cl : Nat → ClassId) (sz : Nat) (σ : MS) (k : Int32) (hI : Inv σ) (hk : 0 ≤ k.toInt) : Met l yX12_sign vs_n_sign rm_n_sign (va_Pc [.ref h, .int k] (wSt dC dI (mW h ad cl σ) (mT cl) sz)) (va_Qi (fun (r : Int32) (τ : MS) => σ = τ ∧ (0 ≤ r.toInt ∧ r.toInt ≤ 255) ∧ (r.toInt ≠ 0 → k.toInt < (σ.1 3).toInt) ∧ r = sgn σ k) (fun (τ : MS) => wEn dC dI (va_A (mW h ad cl σ) sz) (mW h ad cl τ) []) (va_A (mW h ad cl σ) sz)) 0 0 (va_A (mW h ad cl σ) sz) := by
  refine Met.ofW (cc := cX12_sign) (maxL := 2) (ret := (some .int)) (by decide) rfl ?_
  intro p e s m args below meth c s₁ B hml hv
  obtain ⟨rfl, hsz, hP, hK, hD0, hE⟩ := hv
  have hx := B.exec
  have hb := B.bytes
  have hr := B.returns
  have hts := atoms_spec (ws := vs_n_sign) B.pre
  have hown : s.vm.findClass RX12 = some m.cls := findClass_of_methodNamed B.named
  have hlocks := B.notSynchronized
  subst hsz
  have hD := hD0.self (sz := s.heap.size)
  generalize hAe : va_A (mW h ad cl σ) s.heap.size = A at hD ⊢
  have hA : ∀ q : Nat, s.heap.size ≤ q → A q := fun q h => by rw [← hAe]; exact Or.inr h
  have hl := lv_entry ([.ref h, .int k]) (n := 2) (Nat.le_of_ble_eq_true rfl)
  rw [lg_entry_eq]
  generalize (lg_sl ([.ref h, .int k]) ++ List.replicate (2 - (lg_sl ([.ref h, .int k])).length) Slot.unset).toArray = ls at hl ⊢
  have hl : lv_has ls 2 [(0, .ref h), (1, .int k)] := hl
  have ho := fun w (h : w ∈ ow_n_sign) => hts w (List.mem_cons_of_mem _ (List.mem_append_left _ h))
  have hin12 : ∀ w ∈ u_ws RX12 TX12 59, w ∈ vs_n_sign := fun w h => (List.mem_cons_of_mem _ (List.mem_append_right _ h))
  refine zQ (fun Q hQ => ?_)
  refine zH (A := A) (ws := mW h ad cl σ) (fun H hP hS => ?_) hP
  refine lv_iload_n hx hb dX12_sign_0 rfl (lv_at hl 1 rfl) ?_
  refine lv_aload_n hx hb dX12_sign_1 rfl (lv_at hl 0 rfl) ?_
  refine va_get (D := (dC, dI)) (ci := 12) (v := .int (σ.1 3)) (C := RX12) (T := TX12) (N := 59) hx hb hts hin12 hown hK hP 0 rfl rfl 3 (Nat.le_of_ble_eq_true rfl) (ho (.fieldLink RX12 137 "NearEnoughModel" "size" "I") (List.mem_of_getElem? (i := 0) rfl)) (fun _ h9 => h9) rfl dX12_sign_2 ?_
  have bσ_3 : 0 ≤ (σ.1 3).toInt ∧ (σ.1 3).toInt ≤ 1000 := hI.1 3
  refine lv_icmp_ge (tgt := 21) hx hb dX12_sign_5 rfl (fun c1 => ?_) (fun c1 => ?_)
  · have tc1 := (show (σ.1 3).toInt ≤ k.toInt from ti_le rfl rfl c1)
    refine lv_iconst (v := 0) hx hb dX12_sign_21 rg_0 ?_
    rw [hQ]
    exact W.iret (v := 0) hx hb hr (fun t ht hW => ⟨⟨0, σ, rfl, ⟨rfl, (by have k9 : (0 : Int32).toInt = 0 := (by decide); omega), (by have k9 : (0 : Int32).toInt = 0 := (by decide); omega), (if_neg (Int32.not_lt.mpr c1)).symm⟩, wEn_of hP (hK.sub [] rfl) hD ht hW⟩, hS.F ht⟩) hS.2.2 dX12_sign_22
  · have tc1 := (show k.toInt < (σ.1 3).toInt from ti_nle rfl rfl c1)
    refine lv_aload_n hx hb dX12_sign_8 rfl (lv_at hl 0 rfl) ?_
    refine va_get (D := (dC, dI)) (ci := 12) (v := .ref (ad 1)) (C := RX12) (T := TX12) (N := 59) hx hb hts hin12 hown hK hP 0 rfl rfl 1 (Nat.le_of_ble_eq_true rfl) (ho (.fieldLink RX12 13 "NearEnoughModel" "text" "[B") (List.mem_of_getElem? (i := 1) rfl)) (fun _ h9 => h9) rfl dX12_sign_9 ?_
    refine lv_iload_n hx hb dX12_sign_12 rfl (lv_at hl 1 rfl) ?_
    have o1 : 0 ≤ k.toInt := by omega
    have o2 : k.toInt < ((1000 : Nat) : Int) := by omega
    refine va_bald hx hb hK hP 2 1 rfl rfl (ti_inx o1 o2) dX12_sign_13 ?_
    refine lv_topi (fun z2 ez2 => ?_)
    have gz2 : z2.toInt = ((σ.2.1 1) (Int32.toNatClampNeg k)).toInt := congrArg Int32.toInt (ez2.trans (congrFun rfl (Int32.toNatClampNeg k)))
    refine lv_sipush (v := 255) hx hb dX12_sign_14 rg_1 ?_
    refine lv_iand hx hb dX12_sign_17 ?_
    refine lv_topi (fun z3 ez3 => ?_)
    have tz3 := ti_and255 ez3
    refine lv_goto (tgt := 22) hx hb dX12_sign_18 rfl ?_
    rw [hQ]
    exact W.iret (v := z3) hx hb hr (fun t ht hW => ⟨⟨z3, σ, rfl, ⟨rfl, (by omega), (by omega), (by unfold sgn; rw [if_pos (Int32.not_le.mp c1), ez3, ez2])⟩, wEn_of hP (hK.sub [] rfl) hD ht hW⟩, hS.F ht⟩) hS.2.2 dX12_sign_22
def ow_n_isLetter : List Cond := []
def vs_n_isLetter : List Cond := .code yX12_isLetter cX12_isLetter 1 (some .boolean) :: (ow_n_isLetter)
theorem vg_n_isLetter : vs_n_isLetter.all goodWord = true := by decide +kernel
theorem dd_n_isLetter : yX12_isLetter.cls ≠ "java/lang/invoke/MethodHandle" ∧ yX12_isLetter.cls ≠ "java/lang/invoke/VarHandle" ∧ (parseMethodDescriptor yX12_isLetter.desc).map (fun d => d.parameters.length) = some 1 := by decide +kernel
def rm_n_isLetter : Room := { frames := 0, cells := 0, slots := 0, locals := 0 }
set_option maxHeartbeats 4000000 in
set_option maxRecDepth 100000 in
theorem n_isLetter (l : Launch) (dC : Nat → ClassId) (dI : Nat → Nat → Nat) (x : Int32)  (sz : Nat) : Met l yX12_isLetter vs_n_isLetter rm_n_isLetter (va_Pc [.int x] (wSt dC dI [] [] sz)) (va_Qi (fun (r : Int32) (_ : Unit) => (r.toInt = 1 ∧ 97 ≤ x.toInt ∧ x.toInt ≤ 122) ∨ (r.toInt = 0 ∧ (x.toInt < 97 ∨ 122 < x.toInt))) (fun (_ : Unit) => wEn dC dI (va_A [] sz) [] []) (va_A ([]) sz)) 0 0 (va_A ([]) sz) := by
  refine Met.ofW (cc := cX12_isLetter) (maxL := 1) (ret := (some .boolean)) (by decide) rfl ?_
  intro p e s m args below meth c s₁ B hml hv
  obtain ⟨rfl, hsz, hP, hK, hD0, hE⟩ := hv
  have hx := B.exec
  have hb := B.bytes
  have hr := B.returns
  have hts := atoms_spec (ws := vs_n_isLetter) B.pre
  have hown : s.vm.findClass RX12 = some m.cls := findClass_of_methodNamed B.named
  have hlocks := B.notSynchronized
  subst hsz
  have hD := hD0.self (sz := s.heap.size)
  generalize hAe : va_A ([]) s.heap.size = A at hD ⊢
  have hA : ∀ q : Nat, s.heap.size ≤ q → A q := fun q h => by rw [← hAe]; exact Or.inr h
  have hl := lv_entry ([.int x]) (n := 1) (Nat.le_of_ble_eq_true rfl)
  rw [lg_entry_eq]
  generalize (lg_sl ([.int x]) ++ List.replicate (1 - (lg_sl ([.int x])).length) Slot.unset).toArray = ls at hl ⊢
  have hl : lv_has ls 1 [(0, .int x)] := hl
  have ho := fun w (h : w ∈ ow_n_isLetter) => hts w (List.mem_cons_of_mem _ h)
  refine zQ (fun Q hQ => ?_)
  refine zH (A := A) (ws := []) (fun H hP hS => ?_) hP
  refine lv_iload_n hx hb dX12_isLetter_0 rfl (lv_at hl 0 rfl) ?_
  refine lv_bipush (v := 97) hx hb dX12_isLetter_1 rg_2 ?_
  refine lv_icmp_lt (tgt := 16) hx hb dX12_isLetter_3 rfl (fun c1 => ?_) (fun c1 => ?_)
  · have tc1 := (show x.toInt < 97 from ti_lt rfl rg_3 c1)
    refine lv_iconst (v := 0) hx hb dX12_isLetter_16 rg_0 ?_
    rw [hQ]
    exact W.zret (v := 0) hx hb hr rfl (fun t ht hW => ⟨⟨0, (), rfl, (by have k9 : (0 : Int32).toInt = 0 := (by decide); omega), wEn_of empP (hK.sub [] rfl) empD ht hW⟩, hS.F ht⟩) hS.2.2 dX12_isLetter_17
  · have tc1 := (show 97 ≤ x.toInt from ti_nlt rfl rg_3 c1)
    refine lv_iload_n hx hb dX12_isLetter_6 rfl (lv_at hl 0 rfl) ?_
    refine lv_bipush (v := 122) hx hb dX12_isLetter_7 rg_4 ?_
    refine lv_icmp_gt (tgt := 16) hx hb dX12_isLetter_9 rfl (fun c2 => ?_) (fun c2 => ?_)
    · have tc2 := (show 122 < x.toInt from ti_lt rg_5 rfl c2)
      refine lv_iconst (v := 0) hx hb dX12_isLetter_16 rg_0 ?_
      rw [hQ]
      exact W.zret (v := 0) hx hb hr rfl (fun t ht hW => ⟨⟨0, (), rfl, (by have k9 : (0 : Int32).toInt = 0 := (by decide); omega), wEn_of empP (hK.sub [] rfl) empD ht hW⟩, hS.F ht⟩) hS.2.2 dX12_isLetter_17
    · have tc2 := (show x.toInt ≤ 122 from ti_nlt rg_5 rfl c2)
      refine lv_iconst (v := 1) hx hb dX12_isLetter_12 rg_6 ?_
      refine lv_goto (tgt := 17) hx hb dX12_isLetter_13 rfl ?_
      rw [hQ]
      exact W.zret (v := 1) hx hb hr rfl (fun t ht hW => ⟨⟨1, (), rfl, (by have k9 : (1 : Int32).toInt = 1 := (by decide); omega), wEn_of empP (hK.sub [] rfl) empD ht hW⟩, hS.F ht⟩) hS.2.2 dX12_isLetter_17
def ow_n_isDigit : List Cond := []
def vs_n_isDigit : List Cond := .code yX12_isDigit cX12_isDigit 1 (some .boolean) :: (ow_n_isDigit)
theorem vg_n_isDigit : vs_n_isDigit.all goodWord = true := by decide +kernel
theorem dd_n_isDigit : yX12_isDigit.cls ≠ "java/lang/invoke/MethodHandle" ∧ yX12_isDigit.cls ≠ "java/lang/invoke/VarHandle" ∧ (parseMethodDescriptor yX12_isDigit.desc).map (fun d => d.parameters.length) = some 1 := by decide +kernel
def rm_n_isDigit : Room := { frames := 0, cells := 0, slots := 0, locals := 0 }
set_option maxHeartbeats 4000000 in
set_option maxRecDepth 100000 in
theorem n_isDigit (l : Launch) (dC : Nat → ClassId) (dI : Nat → Nat → Nat) (x : Int32)  (sz : Nat) : Met l yX12_isDigit vs_n_isDigit rm_n_isDigit (va_Pc [.int x] (wSt dC dI [] [] sz)) (va_Qi (fun (r : Int32) (_ : Unit) => (r.toInt = 1 ∧ 48 ≤ x.toInt ∧ x.toInt ≤ 57) ∨ (r.toInt = 0 ∧ (x.toInt < 48 ∨ 57 < x.toInt))) (fun (_ : Unit) => wEn dC dI (va_A [] sz) [] []) (va_A ([]) sz)) 0 0 (va_A ([]) sz) := by
  refine Met.ofW (cc := cX12_isDigit) (maxL := 1) (ret := (some .boolean)) (by decide) rfl ?_
  intro p e s m args below meth c s₁ B hml hv
  obtain ⟨rfl, hsz, hP, hK, hD0, hE⟩ := hv
  have hx := B.exec
  have hb := B.bytes
  have hr := B.returns
  have hts := atoms_spec (ws := vs_n_isDigit) B.pre
  have hown : s.vm.findClass RX12 = some m.cls := findClass_of_methodNamed B.named
  have hlocks := B.notSynchronized
  subst hsz
  have hD := hD0.self (sz := s.heap.size)
  generalize hAe : va_A ([]) s.heap.size = A at hD ⊢
  have hA : ∀ q : Nat, s.heap.size ≤ q → A q := fun q h => by rw [← hAe]; exact Or.inr h
  have hl := lv_entry ([.int x]) (n := 1) (Nat.le_of_ble_eq_true rfl)
  rw [lg_entry_eq]
  generalize (lg_sl ([.int x]) ++ List.replicate (1 - (lg_sl ([.int x])).length) Slot.unset).toArray = ls at hl ⊢
  have hl : lv_has ls 1 [(0, .int x)] := hl
  have ho := fun w (h : w ∈ ow_n_isDigit) => hts w (List.mem_cons_of_mem _ h)
  refine zQ (fun Q hQ => ?_)
  refine zH (A := A) (ws := []) (fun H hP hS => ?_) hP
  refine lv_iload_n hx hb dX12_isDigit_0 rfl (lv_at hl 0 rfl) ?_
  refine lv_bipush (v := 48) hx hb dX12_isDigit_1 rg_7 ?_
  refine lv_icmp_lt (tgt := 16) hx hb dX12_isDigit_3 rfl (fun c1 => ?_) (fun c1 => ?_)
  · have tc1 := (show x.toInt < 48 from ti_lt rfl rg_8 c1)
    refine lv_iconst (v := 0) hx hb dX12_isDigit_16 rg_0 ?_
    rw [hQ]
    exact W.zret (v := 0) hx hb hr rfl (fun t ht hW => ⟨⟨0, (), rfl, (by have k9 : (0 : Int32).toInt = 0 := (by decide); omega), wEn_of empP (hK.sub [] rfl) empD ht hW⟩, hS.F ht⟩) hS.2.2 dX12_isDigit_17
  · have tc1 := (show 48 ≤ x.toInt from ti_nlt rfl rg_8 c1)
    refine lv_iload_n hx hb dX12_isDigit_6 rfl (lv_at hl 0 rfl) ?_
    refine lv_bipush (v := 57) hx hb dX12_isDigit_7 rg_9 ?_
    refine lv_icmp_gt (tgt := 16) hx hb dX12_isDigit_9 rfl (fun c2 => ?_) (fun c2 => ?_)
    · have tc2 := (show 57 < x.toInt from ti_lt rg_10 rfl c2)
      refine lv_iconst (v := 0) hx hb dX12_isDigit_16 rg_0 ?_
      rw [hQ]
      exact W.zret (v := 0) hx hb hr rfl (fun t ht hW => ⟨⟨0, (), rfl, (by have k9 : (0 : Int32).toInt = 0 := (by decide); omega), wEn_of empP (hK.sub [] rfl) empD ht hW⟩, hS.F ht⟩) hS.2.2 dX12_isDigit_17
    · have tc2 := (show x.toInt ≤ 57 from ti_nlt rg_10 rfl c2)
      refine lv_iconst (v := 1) hx hb dX12_isDigit_12 rg_6 ?_
      refine lv_goto (tgt := 17) hx hb dX12_isDigit_13 rfl ?_
      rw [hQ]
      exact W.zret (v := 1) hx hb hr rfl (fun t ht hW => ⟨⟨1, (), rfl, (by have k9 : (1 : Int32).toInt = 1 := (by decide); omega), wEn_of empP (hK.sub [] rfl) empD ht hW⟩, hS.F ht⟩) hS.2.2 dX12_isDigit_17
def ow_n_fails : List Cond := [.fieldLink RX12 140 "NearEnoughModel" "faultKind" "I", .fieldLink RX12 16 "NearEnoughModel" "faultPlace" "I"]
def vs_n_fails : List Cond := .code yX12_fails cX12_fails 3 none :: (ow_n_fails ++ (wsX120))
theorem vg_n_fails : vs_n_fails.all goodWord = true := by decide +kernel
theorem dd_n_fails : yX12_fails.cls = RX12 ∧ yX12_fails.cls ≠ "java/lang/invoke/MethodHandle" ∧ yX12_fails.cls ≠ "java/lang/invoke/VarHandle" ∧ (parseMethodDescriptor yX12_fails.desc).map (fun d => d.parameters.length) = some 2 := by decide +kernel
def rm_n_fails : Room := { frames := 0, cells := 0, slots := 0, locals := 0 }
set_option maxHeartbeats 4000000 in
set_option maxRecDepth 100000 in
theorem n_fails (l : Launch) (dC : Nat → ClassId) (dI : Nat → Nat → Nat) (h : Nat) (ad : Nat → Nat) (cl : Nat → ClassId) (sz : Nat) (σ : MS) (a : Int32) (b : Int32) (hI : Inv σ) (ha : 0 ≤ a.toInt ∧ a.toInt ≤ 7) : Met l yX12_fails vs_n_fails rm_n_fails (va_Pc [.ref h, .int a, .int b] (wSt dC dI (mW h ad cl σ) (mT cl) sz)) (va_Qv (fun (τ : MS) => Inv τ ∧ eqx [4, 5] τ σ ∧ ((σ.1 4).toInt = 0 → 0 < a.toInt → (τ.1 4).toInt ≠ 0) ∧ Mo τ σ) (fun (τ : MS) => wEn dC dI (va_A (mW h ad cl σ) sz) (mW h ad cl τ) []) (va_A (mW h ad cl σ) sz)) 0 0 (va_A (mW h ad cl σ) sz) := by
  refine Met.ofW (cc := cX12_fails) (maxL := 3) (ret := none) (by decide) rfl ?_
  intro p e s m args below meth c s₁ B hml hv
  obtain ⟨rfl, hsz, hP, hK, hD0, hE⟩ := hv
  have hx := B.exec
  have hb := B.bytes
  have hr := B.returns
  have hts := atoms_spec (ws := vs_n_fails) B.pre
  have hown : s.vm.findClass RX12 = some m.cls := findClass_of_methodNamed B.named
  have hlocks := B.notSynchronized
  subst hsz
  have hD := hD0.self (sz := s.heap.size)
  generalize hAe : va_A (mW h ad cl σ) s.heap.size = A at hD ⊢
  have hA : ∀ q : Nat, s.heap.size ≤ q → A q := fun q h => by rw [← hAe]; exact Or.inr h
  have hl := lv_entry ([.ref h, .int a, .int b]) (n := 3) (Nat.le_of_ble_eq_true rfl)
  rw [lg_entry_eq]
  generalize (lg_sl ([.ref h, .int a, .int b]) ++ List.replicate (3 - (lg_sl ([.ref h, .int a, .int b])).length) Slot.unset).toArray = ls at hl ⊢
  have hl : lv_has ls 3 [(0, .ref h), (1, .int a), (2, .int b)] := hl
  have ho := fun w (h : w ∈ ow_n_fails) => hts w (List.mem_cons_of_mem _ (List.mem_append_left _ h))
  have hin12 : ∀ w ∈ u_ws RX12 TX12 59, w ∈ vs_n_fails := fun w h => (List.mem_cons_of_mem _ (List.mem_append_right _ h))
  refine zQ (fun Q hQ => ?_)
  refine zH (A := A) (ws := mW h ad cl σ) (fun H hP hS => ?_) hP
  refine lv_aload_n hx hb dX12_fails_0 rfl (lv_at hl 0 rfl) ?_
  refine va_get (D := (dC, dI)) (ci := 12) (v := .int (σ.1 4)) (C := RX12) (T := TX12) (N := 59) hx hb hts hin12 hown hK hP 0 rfl rfl 4 (Nat.le_of_ble_eq_true rfl) (ho (.fieldLink RX12 140 "NearEnoughModel" "faultKind" "I") (List.mem_of_getElem? (i := 0) rfl)) (fun _ h9 => h9) rfl dX12_fails_1 ?_
  have bσ_4 : 0 ≤ (σ.1 4).toInt ∧ (σ.1 4).toInt ≤ 7 := hI.1 4
  refine lv_if_le (tgt := 8) hx hb dX12_fails_4 rfl (fun c1 => ?_) (fun c1 => ?_)
  · have tc1 := (show (σ.1 4).toInt ≤ 0 from ti_le rfl rg_11 c1)
    refine lv_aload_n hx hb dX12_fails_8 rfl (lv_at hl 0 rfl) ?_
    refine lv_iload_n hx hb dX12_fails_9 rfl (lv_at hl 1 rfl) ?_
    refine va_put (D := (dC, dI)) (ci := 12) (v := .int a) (ty := tyX12 4) (C := RX12) (T := TX12) (N := 59) hx hb hts hin12 tyX12 tyX12_ok nmX12 hown hK hP hD hS 0 rfl rfl 4 (Nat.le_of_ble_eq_true rfl) (ho (.fieldLink RX12 140 "NearEnoughModel" "faultKind" "I") (List.mem_of_getElem? (i := 0) rfl)) (fun _ h9 => h9) rfl (tyX12_ok 4 (Nat.le_of_ble_eq_true rfl)) rfl rfl (Nat.le_of_ble_eq_true rfl) dX12_fails_10 (fun H locs hP hD hS => ?_)
    have hP : va_P (dC, dI) vwCl (mW h ad cl (sI σ 4 a)) H := hP
    have hD : va_D A (mW h ad cl (sI σ 4 a)) := hD
    refine lv_aload_n hx hb dX12_fails_13 rfl (lv_at hl 0 rfl) ?_
    refine lv_iload_n hx hb dX12_fails_14 rfl (lv_at hl 2 rfl) ?_
    refine va_put (D := (dC, dI)) (ci := 12) (v := .int b) (ty := tyX12 5) (C := RX12) (T := TX12) (N := 59) hx hb hts hin12 tyX12 tyX12_ok nmX12 hown hK hP hD hS 0 rfl rfl 5 (Nat.le_of_ble_eq_true rfl) (ho (.fieldLink RX12 16 "NearEnoughModel" "faultPlace" "I") (List.mem_of_getElem? (i := 1) rfl)) (fun _ h9 => h9) rfl (tyX12_ok 5 (Nat.le_of_ble_eq_true rfl)) rfl rfl (Nat.le_of_ble_eq_true rfl) dX12_fails_15 (fun H locs hP hD hS => ?_)
    have hP : va_P (dC, dI) vwCl (mW h ad cl (sI (sI σ 4 a) 5 b)) H := hP
    have hD : va_D A (mW h ad cl (sI (sI σ 4 a) 5 b)) := hD
    rw [hQ]
    have o1 : (0 : Int) ≤ a.toInt := by omega
    have o2 : a.toInt ≤ 7 := by omega
    exact W.vret hx hb hr (fun t ht hW => ⟨⟨(sI (sI σ 4 a) 5 b), rfl, ⟨(Inv.sI (Inv.sI hI (show (0 : Int) ≤ a.toInt ∧ a.toInt ≤ 7 from ⟨o1, o2⟩)) (Inv.any b)), (eqx.sI (eqx.sI eqx.rf rg_12) rg_13), (fun h8 h9 => show (a).toInt ≠ 0 by omega), (fun h9 => by have h8 : (a : Int32).toInt = 0 := h9; omega)⟩, wEn_of hP (hK.sub [] rfl) hD ht hW⟩, hS.F ht⟩) hS.2.2 dX12_fails_18
  · have tc1 := (show 0 < (σ.1 4).toInt from ti_nle rfl rg_11 c1)
    rw [hQ]
    exact W.vret hx hb hr (fun t ht hW => ⟨⟨σ, rfl, ⟨hI, eqx.rf, (fun h8 h9 => show ((σ.1 4)).toInt ≠ 0 by omega), Mo.rf⟩, wEn_of hP (hK.sub [] rfl) hD ht hW⟩, hS.F ht⟩) hS.2.2 dX12_fails_7
def ow_n_isGood : List Cond := [.fieldLink RX12 140 "NearEnoughModel" "faultKind" "I"]
def vs_n_isGood : List Cond := .code yX12_isGood cX12_isGood 1 (some .boolean) :: (ow_n_isGood ++ (wsX120))
theorem vg_n_isGood : vs_n_isGood.all goodWord = true := by decide +kernel
theorem dd_n_isGood : yX12_isGood.cls = RX12 ∧ yX12_isGood.cls ≠ "java/lang/invoke/MethodHandle" ∧ yX12_isGood.cls ≠ "java/lang/invoke/VarHandle" ∧ (parseMethodDescriptor yX12_isGood.desc).map (fun d => d.parameters.length) = some 0 := by decide +kernel
def rm_n_isGood : Room := { frames := 0, cells := 0, slots := 0, locals := 0 }
set_option maxHeartbeats 4000000 in
set_option maxRecDepth 100000 in
theorem n_isGood (l : Launch) (dC : Nat → ClassId) (dI : Nat → Nat → Nat) (h : Nat) (ad : Nat → Nat) (cl : Nat → ClassId) (sz : Nat) (σ : MS)  (hI : Inv σ) : Met l yX12_isGood vs_n_isGood rm_n_isGood (va_Pc [.ref h] (wSt dC dI (mW h ad cl σ) (mT cl) sz)) (va_Qi (fun (r : Int32) (τ : MS) => σ = τ ∧ ((r.toInt = 1 ∧ (σ.1 4).toInt = 0) ∨ (r.toInt = 0 ∧ (σ.1 4).toInt ≠ 0))) (fun (τ : MS) => wEn dC dI (va_A (mW h ad cl σ) sz) (mW h ad cl τ) []) (va_A (mW h ad cl σ) sz)) 0 0 (va_A (mW h ad cl σ) sz) := by
  refine Met.ofW (cc := cX12_isGood) (maxL := 1) (ret := (some .boolean)) (by decide) rfl ?_
  intro p e s m args below meth c s₁ B hml hv
  obtain ⟨rfl, hsz, hP, hK, hD0, hE⟩ := hv
  have hx := B.exec
  have hb := B.bytes
  have hr := B.returns
  have hts := atoms_spec (ws := vs_n_isGood) B.pre
  have hown : s.vm.findClass RX12 = some m.cls := findClass_of_methodNamed B.named
  have hlocks := B.notSynchronized
  subst hsz
  have hD := hD0.self (sz := s.heap.size)
  generalize hAe : va_A (mW h ad cl σ) s.heap.size = A at hD ⊢
  have hA : ∀ q : Nat, s.heap.size ≤ q → A q := fun q h => by rw [← hAe]; exact Or.inr h
  have hl := lv_entry ([.ref h]) (n := 1) (Nat.le_of_ble_eq_true rfl)
  rw [lg_entry_eq]
  generalize (lg_sl ([.ref h]) ++ List.replicate (1 - (lg_sl ([.ref h])).length) Slot.unset).toArray = ls at hl ⊢
  have hl : lv_has ls 1 [(0, .ref h)] := hl
  have ho := fun w (h : w ∈ ow_n_isGood) => hts w (List.mem_cons_of_mem _ (List.mem_append_left _ h))
  have hin12 : ∀ w ∈ u_ws RX12 TX12 59, w ∈ vs_n_isGood := fun w h => (List.mem_cons_of_mem _ (List.mem_append_right _ h))
  refine zQ (fun Q hQ => ?_)
  refine zH (A := A) (ws := mW h ad cl σ) (fun H hP hS => ?_) hP
  refine lv_aload_n hx hb dX12_isGood_0 rfl (lv_at hl 0 rfl) ?_
  refine va_get (D := (dC, dI)) (ci := 12) (v := .int (σ.1 4)) (C := RX12) (T := TX12) (N := 59) hx hb hts hin12 hown hK hP 0 rfl rfl 4 (Nat.le_of_ble_eq_true rfl) (ho (.fieldLink RX12 140 "NearEnoughModel" "faultKind" "I") (List.mem_of_getElem? (i := 0) rfl)) (fun _ h9 => h9) rfl dX12_isGood_1 ?_
  have bσ_4 : 0 ≤ (σ.1 4).toInt ∧ (σ.1 4).toInt ≤ 7 := hI.1 4
  refine lv_if_ne (tgt := 11) hx hb dX12_isGood_4 rfl (fun c1 => ?_) (fun c1 => ?_)
  · have tc1 := (show (σ.1 4).toInt ≠ 0 from ti_ne rfl rg_11 c1)
    refine lv_iconst (v := 0) hx hb dX12_isGood_11 rg_0 ?_
    rw [hQ]
    exact W.zret (v := 0) hx hb hr rfl (fun t ht hW => ⟨⟨0, σ, rfl, ⟨rfl, (by have k9 : (0 : Int32).toInt = 0 := (by decide); omega)⟩, wEn_of hP (hK.sub [] rfl) hD ht hW⟩, hS.F ht⟩) hS.2.2 dX12_isGood_12
  · have tc1 := (show (σ.1 4).toInt = 0 from ti_eq rfl rg_11 c1)
    refine lv_iconst (v := 1) hx hb dX12_isGood_7 rg_6 ?_
    refine lv_goto (tgt := 12) hx hb dX12_isGood_8 rfl ?_
    rw [hQ]
    exact W.zret (v := 1) hx hb hr rfl (fun t ht hW => ⟨⟨1, σ, rfl, ⟨rfl, (by have k9 : (1 : Int32).toInt = 1 := (by decide); omega)⟩, wEn_of hP (hK.sub [] rfl) hD ht hW⟩, hS.F ht⟩) hS.2.2 dX12_isGood_12
def ow_n_is : List Cond := [.fieldLink RX12 199 "NearEnoughModel" "token" "I", .fieldLink RX12 192 "NearEnoughModel" "at" "I"]
def vs_n_is : List Cond := .code yX12_is cX12_is 2 (some .boolean) :: (ow_n_is ++ (([.methodLink RX12 195 yX12_sign, .instanceMethod yX12_sign, .selects RX12 yX12_sign yX12_sign, .initialized RX12] : List Cond) ++ (vs_n_sign ++ (wsX120))))
theorem vg_n_is : vs_n_is.all goodWord = true := by decide +kernel
theorem dd_n_is : yX12_is.cls = RX12 ∧ yX12_is.cls ≠ "java/lang/invoke/MethodHandle" ∧ yX12_is.cls ≠ "java/lang/invoke/VarHandle" ∧ (parseMethodDescriptor yX12_is.desc).map (fun d => d.parameters.length) = some 1 := by decide +kernel
def rm_n_is : Room := { frames := 1, cells := 0, slots := 0, locals := 21 }
theorem gd_n_is_195_n_sign : GoodIn vs_n_is (wsV RX12 195 RX12 yX12_sign vs_n_sign) := goodIn_app (goodIn_sub (fun w h => (List.mem_cons_of_mem _ (List.mem_append_right _ (List.mem_append_left _ h)))) (by decide +kernel)) (goodIn_sub (fun w h => (List.mem_cons_of_mem _ (List.mem_append_right _ (List.mem_append_right _ (List.mem_append_left _ h))))) vg_n_sign)
set_option maxHeartbeats 4000000 in
set_option maxRecDepth 100000 in
theorem n_is (l : Launch) (dC : Nat → ClassId) (dI : Nat → Nat → Nat) (h : Nat) (ad : Nat → Nat) (cl : Nat → ClassId) (sz : Nat) (σ : MS) (x : Int32) (hI : Inv σ) : Met l yX12_is vs_n_is rm_n_is (va_Pc [.ref h, .int x] (wSt dC dI (mW h ad cl σ) (mT cl) sz)) (va_Qi (fun (r : Int32) (τ : MS) => σ = τ ∧ (r.toInt = 0 ∨ r.toInt = 1)) (fun (τ : MS) => wEn dC dI (va_A (mW h ad cl σ) sz) (mW h ad cl τ) []) (va_A (mW h ad cl σ) sz)) 0 0 (va_A (mW h ad cl σ) sz) := by
  refine Met.ofW (cc := cX12_is) (maxL := 2) (ret := (some .boolean)) (by decide) rfl ?_
  intro p e s m args below meth c s₁ B hml hv
  obtain ⟨rfl, hsz, hP, hK, hD0, hE⟩ := hv
  have hx := B.exec
  have hb := B.bytes
  have hr := B.returns
  have hts := atoms_spec (ws := vs_n_is) B.pre
  have hown : s.vm.findClass RX12 = some m.cls := findClass_of_methodNamed B.named
  have hlocks := B.notSynchronized
  subst hsz
  have hD := hD0.self (sz := s.heap.size)
  generalize hAe : va_A (mW h ad cl σ) s.heap.size = A at hD ⊢
  have hA : ∀ q : Nat, s.heap.size ≤ q → A q := fun q h => by rw [← hAe]; exact Or.inr h
  have hl := lv_entry ([.ref h, .int x]) (n := 2) (Nat.le_of_ble_eq_true rfl)
  rw [lg_entry_eq]
  generalize (lg_sl ([.ref h, .int x]) ++ List.replicate (2 - (lg_sl ([.ref h, .int x])).length) Slot.unset).toArray = ls at hl ⊢
  have hl : lv_has ls 2 [(0, .ref h), (1, .int x)] := hl
  have ho := fun w (h : w ∈ ow_n_is) => hts w (List.mem_cons_of_mem _ (List.mem_append_left _ h))
  have hin12 : ∀ w ∈ u_ws RX12 TX12 59, w ∈ vs_n_is := fun w h => (List.mem_cons_of_mem _ (List.mem_append_right _ (List.mem_append_right _ (List.mem_append_right _ h))))
  refine zQ (fun Q hQ => ?_)
  refine zH (A := A) (ws := mW h ad cl σ) (fun H hP hS => ?_) hP
  refine lv_aload_n hx hb dX12_is_0 rfl (lv_at hl 0 rfl) ?_
  refine va_get (D := (dC, dI)) (ci := 12) (v := .int (σ.1 8)) (C := RX12) (T := TX12) (N := 59) hx hb hts hin12 hown hK hP 0 rfl rfl 8 (Nat.le_of_ble_eq_true rfl) (ho (.fieldLink RX12 199 "NearEnoughModel" "token" "I") (List.mem_of_getElem? (i := 0) rfl)) (fun _ h9 => h9) rfl dX12_is_1 ?_
  have bσ_8 : 0 ≤ (σ.1 8).toInt ∧ (σ.1 8).toInt ≤ 5 := hI.1 8
  refine lv_iconst (v := 5) hx hb dX12_is_4 rg_14 ?_
  refine lv_icmp_ne (tgt := 24) hx hb dX12_is_5 rfl (fun c1 => ?_) (fun c1 => ?_)
  · have tc1 := (show (σ.1 8).toInt ≠ 5 from ti_ne rfl rg_15 c1)
    refine lv_iconst (v := 0) hx hb dX12_is_24 rg_0 ?_
    rw [hQ]
    exact W.zret (v := 0) hx hb hr rfl (fun t ht hW => ⟨⟨0, σ, rfl, ⟨rfl, (by have k9 : (0 : Int32).toInt = 0 := (by decide); omega)⟩, wEn_of hP (hK.sub [] rfl) hD ht hW⟩, hS.F ht⟩) hS.2.2 dX12_is_25
  · have tc1 := (show (σ.1 8).toInt = 5 from ti_eq rfl rg_15 c1)
    refine lv_aload_n hx hb dX12_is_8 rfl (lv_at hl 0 rfl) ?_
    refine lv_aload_n hx hb dX12_is_9 rfl (lv_at hl 0 rfl) ?_
    refine va_get (D := (dC, dI)) (ci := 12) (v := .int (σ.1 6)) (C := RX12) (T := TX12) (N := 59) hx hb hts hin12 hown hK hP 0 rfl rfl 6 (Nat.le_of_ble_eq_true rfl) (ho (.fieldLink RX12 192 "NearEnoughModel" "at" "I") (List.mem_of_getElem? (i := 1) rfl)) (fun _ h9 => h9) rfl dX12_is_10 ?_
    have bσ_6 : 0 ≤ (σ.1 6).toInt ∧ (σ.1 6).toInt ≤ 1000 := hI.1 6
    have o1 : 0 ≤ ((σ.1 6)).toInt := by omega
    refine zy_i (va_runV (As := [.int (σ.1 6)]) (rest := []) ⟨hx, hb, hml, hown, hts⟩ (n_sign l dC dI h ad cl H.size σ (σ.1 6) hI o1) (cwV 1 hts gd_n_is_195_n_sign rfl rfl rfl dd_n_sign ⟨Nat.le_of_ble_eq_true rfl, Nat.le_of_ble_eq_true rfl⟩) (preV hP hK hD hE (ci := 12) (q0 := 0) rfl rfl) rfl rfl hl.1 rfl (lv_room (Nat.le_of_ble_eq_true rfl)) dX12_is_13 ⟨Nat.le_of_ble_eq_true rfl, Nat.le_of_ble_eq_true rfl⟩) hD hS hA (fun z3 τ2 H locs hq hP hD hS => ?_)
    obtain ⟨rfl, f4, f5, f6⟩ := hq
    refine W.widen (k := 0) (n := 0) (Nat.le_of_ble_eq_true rfl) (Nat.le_of_ble_eq_true rfl) ?_
    refine lv_iload_n hx hb dX12_is_16 rfl (lv_at hl 1 rfl) ?_
    refine lv_icmp_ne (tgt := 24) hx hb dX12_is_17 rfl (fun c7 => ?_) (fun c7 => ?_)
    · have tc7 := (show z3.toInt ≠ x.toInt from ti_ne rfl rfl c7)
      refine lv_iconst (v := 0) hx hb dX12_is_24 rg_0 ?_
      rw [hQ]
      exact W.zret (v := 0) hx hb hr rfl (fun t ht hW => ⟨⟨0, σ, rfl, ⟨rfl, (by have k9 : (0 : Int32).toInt = 0 := (by decide); omega)⟩, wEn_of hP (hK.sub [] rfl) hD ht hW⟩, hS.F ht⟩) hS.2.2 dX12_is_25
    · have tc7 := (show z3.toInt = x.toInt from ti_eq rfl rfl c7)
      refine lv_iconst (v := 1) hx hb dX12_is_20 rg_6 ?_
      refine lv_goto (tgt := 25) hx hb dX12_is_21 rfl ?_
      rw [hQ]
      exact W.zret (v := 1) hx hb hr rfl (fun t ht hW => ⟨⟨1, σ, rfl, ⟨rfl, (by have k9 : (1 : Int32).toInt = 1 := (by decide); omega)⟩, wEn_of hP (hK.sub [] rfl) hD ht hW⟩, hS.F ht⟩) hS.2.2 dX12_is_25
def ow_n_isWord : List Cond := [.fieldLink RX12 199 "NearEnoughModel" "token" "I", .fieldLink RX12 206 "NearEnoughModel" "name" "J"]
def vs_n_isWord : List Cond := .code yX12_isWord cX12_isWord 3 (some .boolean) :: (ow_n_isWord ++ (wsX120))
theorem vg_n_isWord : vs_n_isWord.all goodWord = true := by decide +kernel
theorem dd_n_isWord : yX12_isWord.cls = RX12 ∧ yX12_isWord.cls ≠ "java/lang/invoke/MethodHandle" ∧ yX12_isWord.cls ≠ "java/lang/invoke/VarHandle" ∧ (parseMethodDescriptor yX12_isWord.desc).map (fun d => d.parameters.length) = some 1 := by decide +kernel
def rm_n_isWord : Room := { frames := 0, cells := 0, slots := 0, locals := 0 }
set_option maxHeartbeats 4000000 in
set_option maxRecDepth 100000 in
theorem n_isWord (l : Launch) (dC : Nat → ClassId) (dI : Nat → Nat → Nat) (h : Nat) (ad : Nat → Nat) (cl : Nat → ClassId) (sz : Nat) (σ : MS) (x : Int64) (hI : Inv σ) : Met l yX12_isWord vs_n_isWord rm_n_isWord (va_Pc [.ref h, .long x] (wSt dC dI (mW h ad cl σ) (mT cl) sz)) (va_Qi (fun (r : Int32) (τ : MS) => σ = τ ∧ (r.toInt = 0 ∨ r.toInt = 1)) (fun (τ : MS) => wEn dC dI (va_A (mW h ad cl σ) sz) (mW h ad cl τ) []) (va_A (mW h ad cl σ) sz)) 0 0 (va_A (mW h ad cl σ) sz) := by
  refine Met.ofW (cc := cX12_isWord) (maxL := 3) (ret := (some .boolean)) (by decide) rfl ?_
  intro p e s m args below meth c s₁ B hml hv
  obtain ⟨rfl, hsz, hP, hK, hD0, hE⟩ := hv
  have hx := B.exec
  have hb := B.bytes
  have hr := B.returns
  have hts := atoms_spec (ws := vs_n_isWord) B.pre
  have hown : s.vm.findClass RX12 = some m.cls := findClass_of_methodNamed B.named
  have hlocks := B.notSynchronized
  subst hsz
  have hD := hD0.self (sz := s.heap.size)
  generalize hAe : va_A (mW h ad cl σ) s.heap.size = A at hD ⊢
  have hA : ∀ q : Nat, s.heap.size ≤ q → A q := fun q h => by rw [← hAe]; exact Or.inr h
  have hl := lv_entry ([.ref h, .long x]) (n := 3) (Nat.le_of_ble_eq_true rfl)
  rw [lg_entry_eq]
  generalize (lg_sl ([.ref h, .long x]) ++ List.replicate (3 - (lg_sl ([.ref h, .long x])).length) Slot.unset).toArray = ls at hl ⊢
  have hl : lv_has ls 3 [(0, .ref h), (1, .long x)] := hl
  have ho := fun w (h : w ∈ ow_n_isWord) => hts w (List.mem_cons_of_mem _ (List.mem_append_left _ h))
  have hin12 : ∀ w ∈ u_ws RX12 TX12 59, w ∈ vs_n_isWord := fun w h => (List.mem_cons_of_mem _ (List.mem_append_right _ h))
  refine zQ (fun Q hQ => ?_)
  refine zH (A := A) (ws := mW h ad cl σ) (fun H hP hS => ?_) hP
  refine lv_aload_n hx hb dX12_isWord_0 rfl (lv_at hl 0 rfl) ?_
  refine va_get (D := (dC, dI)) (ci := 12) (v := .int (σ.1 8)) (C := RX12) (T := TX12) (N := 59) hx hb hts hin12 hown hK hP 0 rfl rfl 8 (Nat.le_of_ble_eq_true rfl) (ho (.fieldLink RX12 199 "NearEnoughModel" "token" "I") (List.mem_of_getElem? (i := 0) rfl)) (fun _ h9 => h9) rfl dX12_isWord_1 ?_
  have bσ_8 : 0 ≤ (σ.1 8).toInt ∧ (σ.1 8).toInt ≤ 5 := hI.1 8
  refine lv_iconst (v := 3) hx hb dX12_isWord_4 rg_16 ?_
  refine lv_icmp_ne (tgt := 21) hx hb dX12_isWord_5 rfl (fun c1 => ?_) (fun c1 => ?_)
  · have tc1 := (show (σ.1 8).toInt ≠ 3 from ti_ne rfl rg_17 c1)
    refine lv_iconst (v := 0) hx hb dX12_isWord_21 rg_0 ?_
    rw [hQ]
    exact W.zret (v := 0) hx hb hr rfl (fun t ht hW => ⟨⟨0, σ, rfl, ⟨rfl, (by have k9 : (0 : Int32).toInt = 0 := (by decide); omega)⟩, wEn_of hP (hK.sub [] rfl) hD ht hW⟩, hS.F ht⟩) hS.2.2 dX12_isWord_22
  · have tc1 := (show (σ.1 8).toInt = 3 from ti_eq rfl rg_17 c1)
    refine lv_aload_n hx hb dX12_isWord_8 rfl (lv_at hl 0 rfl) ?_
    refine va_get (D := (dC, dI)) (ci := 12) (v := .long (σ.2.2.2 10)) (C := RX12) (T := TX12) (N := 59) hx hb hts hin12 hown hK hP 0 rfl rfl 10 (Nat.le_of_ble_eq_true rfl) (ho (.fieldLink RX12 206 "NearEnoughModel" "name" "J") (List.mem_of_getElem? (i := 1) rfl)) (fun _ h9 => h9) rfl dX12_isWord_9 ?_
    refine lv_lload_n hx hb dX12_isWord_12 rfl (lv_at hl 1 rfl) ?_
    refine W.lcmp hx hb dX12_isWord_13 ?_
    refine lv_topi (fun z2 ez2 => ?_)
    refine lv_if_ne (tgt := 21) hx hb dX12_isWord_14 rfl (fun c3 => ?_) (fun c3 => ?_)
    · have tc3 := (show z2.toInt ≠ 0 from ti_ne rfl rg_11 c3)
      have lc3 : ¬ (σ.2.2.2 10) = x := fun h => c3 (by rw [ez2]; exact (lg_cmp_eq (σ.2.2.2 10) x).mpr h)
      refine lv_iconst (v := 0) hx hb dX12_isWord_21 rg_0 ?_
      rw [hQ]
      exact W.zret (v := 0) hx hb hr rfl (fun t ht hW => ⟨⟨0, σ, rfl, ⟨rfl, (by have k9 : (0 : Int32).toInt = 0 := (by decide); omega)⟩, wEn_of hP (hK.sub [] rfl) hD ht hW⟩, hS.F ht⟩) hS.2.2 dX12_isWord_22
    · have tc3 := (show z2.toInt = 0 from ti_eq rfl rg_11 c3)
      have lc3 : (σ.2.2.2 10) = x := (lg_cmp_eq (σ.2.2.2 10) x).mp (by rw [← ez2]; exact c3)
      refine lv_iconst (v := 1) hx hb dX12_isWord_17 rg_6 ?_
      refine lv_goto (tgt := 22) hx hb dX12_isWord_18 rfl ?_
      rw [hQ]
      exact W.zret (v := 1) hx hb hr rfl (fun t ht hW => ⟨⟨1, σ, rfl, ⟨rfl, (by have k9 : (1 : Int32).toInt = 1 := (by decide); omega)⟩, wEn_of hP (hK.sub [] rfl) hD ht hW⟩, hS.F ht⟩) hS.2.2 dX12_isWord_22
def ow_n_wrong : List Cond := [.fieldLink RX12 199 "NearEnoughModel" "token" "I", .fieldLink RX12 192 "NearEnoughModel" "at" "I"]
def vs_n_wrong : List Cond := .code yX12_wrong cX12_wrong 1 none :: (ow_n_wrong ++ (([.methodLink RX12 220 yX12_fails, .instanceMethod yX12_fails, .selects RX12 yX12_fails yX12_fails, .initialized RX12] : List Cond) ++ (vs_n_fails ++ (wsX120))))
theorem vg_n_wrong : vs_n_wrong.all goodWord = true := by decide +kernel
theorem dd_n_wrong : yX12_wrong.cls = RX12 ∧ yX12_wrong.cls ≠ "java/lang/invoke/MethodHandle" ∧ yX12_wrong.cls ≠ "java/lang/invoke/VarHandle" ∧ (parseMethodDescriptor yX12_wrong.desc).map (fun d => d.parameters.length) = some 0 := by decide +kernel
def rm_n_wrong : Room := { frames := 1, cells := 0, slots := 0, locals := 22 }
theorem gd_n_wrong_220_n_fails : GoodIn vs_n_wrong (wsV RX12 220 RX12 yX12_fails vs_n_fails) := goodIn_app (goodIn_sub (fun w h => (List.mem_cons_of_mem _ (List.mem_append_right _ (List.mem_append_left _ h)))) (by decide +kernel)) (goodIn_sub (fun w h => (List.mem_cons_of_mem _ (List.mem_append_right _ (List.mem_append_right _ (List.mem_append_left _ h))))) vg_n_fails)
set_option maxHeartbeats 4000000 in
set_option maxRecDepth 100000 in
theorem n_wrong (l : Launch) (dC : Nat → ClassId) (dI : Nat → Nat → Nat) (h : Nat) (ad : Nat → Nat) (cl : Nat → ClassId) (sz : Nat) (σ : MS)  (hI : Inv σ) : Met l yX12_wrong vs_n_wrong rm_n_wrong (va_Pc [.ref h] (wSt dC dI (mW h ad cl σ) (mT cl) sz)) (va_Qv (fun (τ : MS) => Inv τ ∧ eqx [4, 5] τ σ ∧ ((σ.1 4).toInt = 0 → (τ.1 4).toInt ≠ 0) ∧ Mo τ σ) (fun (τ : MS) => wEn dC dI (va_A (mW h ad cl σ) sz) (mW h ad cl τ) []) (va_A (mW h ad cl σ) sz)) 0 0 (va_A (mW h ad cl σ) sz) := by
  refine Met.ofW (cc := cX12_wrong) (maxL := 1) (ret := none) (by decide) rfl ?_
  intro p e s m args below meth c s₁ B hml hv
  obtain ⟨rfl, hsz, hP, hK, hD0, hE⟩ := hv
  have hx := B.exec
  have hb := B.bytes
  have hr := B.returns
  have hts := atoms_spec (ws := vs_n_wrong) B.pre
  have hown : s.vm.findClass RX12 = some m.cls := findClass_of_methodNamed B.named
  have hlocks := B.notSynchronized
  subst hsz
  have hD := hD0.self (sz := s.heap.size)
  generalize hAe : va_A (mW h ad cl σ) s.heap.size = A at hD ⊢
  have hA : ∀ q : Nat, s.heap.size ≤ q → A q := fun q h => by rw [← hAe]; exact Or.inr h
  have hl := lv_entry ([.ref h]) (n := 1) (Nat.le_of_ble_eq_true rfl)
  rw [lg_entry_eq]
  generalize (lg_sl ([.ref h]) ++ List.replicate (1 - (lg_sl ([.ref h])).length) Slot.unset).toArray = ls at hl ⊢
  have hl : lv_has ls 1 [(0, .ref h)] := hl
  have ho := fun w (h : w ∈ ow_n_wrong) => hts w (List.mem_cons_of_mem _ (List.mem_append_left _ h))
  have hin12 : ∀ w ∈ u_ws RX12 TX12 59, w ∈ vs_n_wrong := fun w h => (List.mem_cons_of_mem _ (List.mem_append_right _ (List.mem_append_right _ (List.mem_append_right _ h))))
  refine zQ (fun Q hQ => ?_)
  refine zH (A := A) (ws := mW h ad cl σ) (fun H hP hS => ?_) hP
  refine lv_aload_n hx hb dX12_wrong_0 rfl (lv_at hl 0 rfl) ?_
  refine lv_aload_n hx hb dX12_wrong_1 rfl (lv_at hl 0 rfl) ?_
  refine va_get (D := (dC, dI)) (ci := 12) (v := .int (σ.1 8)) (C := RX12) (T := TX12) (N := 59) hx hb hts hin12 hown hK hP 0 rfl rfl 8 (Nat.le_of_ble_eq_true rfl) (ho (.fieldLink RX12 199 "NearEnoughModel" "token" "I") (List.mem_of_getElem? (i := 0) rfl)) (fun _ h9 => h9) rfl dX12_wrong_2 ?_
  have bσ_8 : 0 ≤ (σ.1 8).toInt ∧ (σ.1 8).toInt ≤ 5 := hI.1 8
  refine lv_iconst (v := 1) hx hb dX12_wrong_5 rg_6 ?_
  refine lv_icmp_ne (tgt := 13) hx hb dX12_wrong_6 rfl (fun c1 => ?_) (fun c1 => ?_)
  · have tc1 := (show (σ.1 8).toInt ≠ 1 from ti_ne rfl rg_18 c1)
    refine lv_iconst (v := 2) hx hb dX12_wrong_13 rg_19 ?_
    refine lv_aload_n hx hb dX12_wrong_14 rfl (lv_at hl 0 rfl) ?_
    refine va_get (D := (dC, dI)) (ci := 12) (v := .int (σ.1 6)) (C := RX12) (T := TX12) (N := 59) hx hb hts hin12 hown hK hP 0 rfl rfl 6 (Nat.le_of_ble_eq_true rfl) (ho (.fieldLink RX12 192 "NearEnoughModel" "at" "I") (List.mem_of_getElem? (i := 1) rfl)) (fun _ h9 => h9) rfl dX12_wrong_15 ?_
    have bσ_6 : 0 ≤ (σ.1 6).toInt ∧ (σ.1 6).toInt ≤ 1000 := hI.1 6
    have kk2 : (2 : Int32).toInt = 2 := rg_20
    have o1 : 0 ≤ (2 : Int32).toInt := by omega
    have o2 : (2 : Int32).toInt ≤ 7 := by omega
    refine zy_v (va_runV (As := [.int 2, .int (σ.1 6)]) (rest := []) ⟨hx, hb, hml, hown, hts⟩ (n_fails l dC dI h ad cl H.size σ 2 (σ.1 6) hI ⟨o1, o2⟩) (cwV 2 hts gd_n_wrong_220_n_fails rfl rfl rfl dd_n_fails ⟨Nat.le_of_ble_eq_true rfl, Nat.le_of_ble_eq_true rfl⟩) (preV hP hK hD hE (ci := 12) (q0 := 0) rfl rfl) rfl rfl hl.1 rfl (lv_room (Nat.le_of_ble_eq_true rfl)) dX12_wrong_18 ⟨Nat.le_of_ble_eq_true rfl, Nat.le_of_ble_eq_true rfl⟩) hD hS hA (fun τ3 H locs hq hP hD hS => ?_)
    obtain ⟨hI5, hx6, f7, mo8⟩ := hq
    have Xτ3 : eqx [4, 5] τ3 σ := eqx.tr hx6 eqx.rf rg_21
    have Mτ3 : Mo τ3 σ := Mo.tr mo8 (fun h9 => Mo.rf h9)
    refine W.widen (k := 0) (n := 0) (Nat.le_of_ble_eq_true rfl) (Nat.le_of_ble_eq_true rfl) ?_
    rw [hQ]
    exact W.vret hx hb hr (fun t ht hW => ⟨⟨τ3, rfl, ⟨hI5, Xτ3, (fun h8 => f7 h8 (by decide)), Mτ3⟩, wEn_of hP (hK.sub [] rfl) hD ht hW⟩, hS.F ht⟩) hS.2.2 dX12_wrong_21
  · have tc1 := (show (σ.1 8).toInt = 1 from ti_eq rfl rg_18 c1)
    refine lv_iconst (v := 1) hx hb dX12_wrong_9 rg_6 ?_
    refine lv_goto (tgt := 14) hx hb dX12_wrong_10 rfl ?_
    refine lv_aload_n hx hb dX12_wrong_14 rfl (lv_at hl 0 rfl) ?_
    refine va_get (D := (dC, dI)) (ci := 12) (v := .int (σ.1 6)) (C := RX12) (T := TX12) (N := 59) hx hb hts hin12 hown hK hP 0 rfl rfl 6 (Nat.le_of_ble_eq_true rfl) (ho (.fieldLink RX12 192 "NearEnoughModel" "at" "I") (List.mem_of_getElem? (i := 1) rfl)) (fun _ h9 => h9) rfl dX12_wrong_15 ?_
    have bσ_6 : 0 ≤ (σ.1 6).toInt ∧ (σ.1 6).toInt ≤ 1000 := hI.1 6
    have kk9 : (1 : Int32).toInt = 1 := rg_18
    have o3 : 0 ≤ (1 : Int32).toInt := by omega
    have o4 : (1 : Int32).toInt ≤ 7 := by omega
    refine zy_v (va_runV (As := [.int 1, .int (σ.1 6)]) (rest := []) ⟨hx, hb, hml, hown, hts⟩ (n_fails l dC dI h ad cl H.size σ 1 (σ.1 6) hI ⟨o3, o4⟩) (cwV 2 hts gd_n_wrong_220_n_fails rfl rfl rfl dd_n_fails ⟨Nat.le_of_ble_eq_true rfl, Nat.le_of_ble_eq_true rfl⟩) (preV hP hK hD hE (ci := 12) (q0 := 0) rfl rfl) rfl rfl hl.1 rfl (lv_room (Nat.le_of_ble_eq_true rfl)) dX12_wrong_18 ⟨Nat.le_of_ble_eq_true rfl, Nat.le_of_ble_eq_true rfl⟩) hD hS hA (fun τ10 H locs hq hP hD hS => ?_)
    obtain ⟨hI12, hx13, f14, mo15⟩ := hq
    have Xτ10 : eqx [4, 5] τ10 σ := eqx.tr hx13 eqx.rf rg_21
    have Mτ10 : Mo τ10 σ := Mo.tr mo15 (fun h9 => Mo.rf h9)
    refine W.widen (k := 0) (n := 0) (Nat.le_of_ble_eq_true rfl) (Nat.le_of_ble_eq_true rfl) ?_
    rw [hQ]
    exact W.vret hx hb hr (fun t ht hW => ⟨⟨τ10, rfl, ⟨hI12, Xτ10, (fun h8 => f14 h8 (by decide)), Mτ10⟩, wEn_of hP (hK.sub [] rfl) hD ht hW⟩, hS.F ht⟩) hS.2.2 dX12_wrong_21
def ow_n_isKept : List Cond := [.constantLong RX12 143 (7499639), .constantLong RX12 145 (6840691), .constantLong RX12 147 (1718775661), .constantLong RX12 149 (29807), .constantLong RX12 151 (7566701), .constantLong RX12 153 (28518), .constantLong RX12 155 (1836020596), .constantLong RX12 157 (6382692), .constantLong RX12 159 (1818588019), .constantLong RX12 161 (499984983411), .constantLong RX12 163 (495588568165), .constantLong RX12 165 (25209), .constantLong RX12 167 (1870030194), .constantLong RX12 169 (24948), .constantLong RX12 171 (482854658917), .constantLong RX12 173 (1885954923), .constantLong RX12 175 (26982), .constantLong RX12 177 (504363246962), .constantLong RX12 179 (6647396), .constantLong RX12 181 (7300710), .constantLong RX12 183 (474148660594), .constantLong RX12 185 (1835360622), .constantLong RX12 187 (7302757)]
def vs_n_isKept : List Cond := .code yX12_isKept cX12_isKept 3 (some .boolean) :: (ow_n_isKept)
theorem vg_n_isKept : vs_n_isKept.all goodWord = true := by decide +kernel
theorem dd_n_isKept : yX12_isKept.cls ≠ "java/lang/invoke/MethodHandle" ∧ yX12_isKept.cls ≠ "java/lang/invoke/VarHandle" ∧ (parseMethodDescriptor yX12_isKept.desc).map (fun d => d.parameters.length) = some 1 := by decide +kernel
def rm_n_isKept : Room := { frames := 0, cells := 0, slots := 0, locals := 0 }
set_option maxHeartbeats 4000000 in
set_option maxRecDepth 100000 in
theorem n_isKept (l : Launch) (dC : Nat → ClassId) (dI : Nat → Nat → Nat) (x : Int64)  (sz : Nat) : Met l yX12_isKept vs_n_isKept rm_n_isKept (va_Pc [.long x] (wSt dC dI [] [] sz)) (va_Qi (fun (r : Int32) (_ : Unit) => (r.toInt = 0 ∨ r.toInt = 1)) (fun (_ : Unit) => wEn dC dI (va_A [] sz) [] []) (va_A ([]) sz)) 0 0 (va_A ([]) sz) := by
  refine Met.ofW (cc := cX12_isKept) (maxL := 3) (ret := (some .boolean)) (by decide) rfl ?_
  intro p e s m args below meth c s₁ B hml hv
  obtain ⟨rfl, hsz, hP, hK, hD0, hE⟩ := hv
  have hx := B.exec
  have hb := B.bytes
  have hr := B.returns
  have hts := atoms_spec (ws := vs_n_isKept) B.pre
  have hown : s.vm.findClass RX12 = some m.cls := findClass_of_methodNamed B.named
  have hlocks := B.notSynchronized
  subst hsz
  have hD := hD0.self (sz := s.heap.size)
  generalize hAe : va_A ([]) s.heap.size = A at hD ⊢
  have hA : ∀ q : Nat, s.heap.size ≤ q → A q := fun q h => by rw [← hAe]; exact Or.inr h
  have hl := lv_entry ([.long x]) (n := 3) (Nat.le_of_ble_eq_true rfl)
  rw [lg_entry_eq]
  generalize (lg_sl ([.long x]) ++ List.replicate (3 - (lg_sl ([.long x])).length) Slot.unset).toArray = ls at hl ⊢
  have hl : lv_has ls 3 [(0, .long x)] := hl
  have ho := fun w (h : w ∈ ow_n_isKept) => hts w (List.mem_cons_of_mem _ h)
  refine zQ (fun Q hQ => ?_)
  refine zH (A := A) (ws := []) (fun H hP hS => ?_) hP
  refine lv_lload_n hx hb dX12_isKept_0 rfl (lv_at hl 0 rfl) ?_
  refine lv_ldc2 (v := (7499639)) hx hb hown (ho (.constantLong RX12 143 (7499639)) (List.mem_of_getElem? (i := 0) rfl)) dX12_isKept_1 ?_
  refine W.lcmp hx hb dX12_isKept_4 ?_
  refine lv_topi (fun z1 ez1 => ?_)
  refine lv_if_eq (tgt := 96) hx hb dX12_isKept_5 rfl (fun c2 => ?_) (fun c2 => ?_)
  · have tc2 := (show z1.toInt = 0 from ti_eq rfl rg_11 c2)
    have lc2 : x = 7499639 := (lg_cmp_eq x 7499639).mp (by rw [← ez1]; exact c2)
    refine lv_iconst (v := 1) hx hb dX12_isKept_96 rg_6 ?_
    refine lv_goto (tgt := 101) hx hb dX12_isKept_97 rfl ?_
    refine lv_istore_n (lv' := [(2, .int 1), (0, .long x)]) hx hb dX12_isKept_101 rfl hl (Nat.le_of_ble_eq_true rfl) rfl (fun ls hl => ?_)
    refine lv_iload_n hx hb dX12_isKept_102 rfl (lv_at hl 0 rfl) ?_
    refine lv_if_ne (tgt := 194) hx hb dX12_isKept_103 rfl (fun _ => ?_) (fun cc => absurd cc (by decide))
    refine lv_iconst (v := 1) hx hb dX12_isKept_194 rg_6 ?_
    refine lv_goto (tgt := 199) hx hb dX12_isKept_195 rfl ?_
    rw [hQ]
    exact W.zret (v := 1) hx hb hr rfl (fun t ht hW => ⟨⟨1, (), rfl, (by have k9 : (1 : Int32).toInt = 1 := (by decide); omega), wEn_of empP (hK.sub [] rfl) empD ht hW⟩, hS.F ht⟩) hS.2.2 dX12_isKept_199
  · have tc2 := (show z1.toInt ≠ 0 from ti_ne rfl rg_11 c2)
    have lc2 : ¬ x = 7499639 := fun h => c2 (by rw [ez1]; exact (lg_cmp_eq x 7499639).mpr h)
    refine lv_lload_n hx hb dX12_isKept_8 rfl (lv_at hl 0 rfl) ?_
    refine lv_ldc2 (v := (6840691)) hx hb hown (ho (.constantLong RX12 145 (6840691)) (List.mem_of_getElem? (i := 1) rfl)) dX12_isKept_9 ?_
    refine W.lcmp hx hb dX12_isKept_12 ?_
    refine lv_topi (fun z3 ez3 => ?_)
    refine lv_if_eq (tgt := 96) hx hb dX12_isKept_13 rfl (fun c4 => ?_) (fun c4 => ?_)
    · have tc4 := (show z3.toInt = 0 from ti_eq rfl rg_11 c4)
      have lc4 : x = 6840691 := (lg_cmp_eq x 6840691).mp (by rw [← ez3]; exact c4)
      refine lv_iconst (v := 1) hx hb dX12_isKept_96 rg_6 ?_
      refine lv_goto (tgt := 101) hx hb dX12_isKept_97 rfl ?_
      refine lv_istore_n (lv' := [(2, .int 1), (0, .long x)]) hx hb dX12_isKept_101 rfl hl (Nat.le_of_ble_eq_true rfl) rfl (fun ls hl => ?_)
      refine lv_iload_n hx hb dX12_isKept_102 rfl (lv_at hl 0 rfl) ?_
      refine lv_if_ne (tgt := 194) hx hb dX12_isKept_103 rfl (fun _ => ?_) (fun cc => absurd cc (by decide))
      refine lv_iconst (v := 1) hx hb dX12_isKept_194 rg_6 ?_
      refine lv_goto (tgt := 199) hx hb dX12_isKept_195 rfl ?_
      rw [hQ]
      exact W.zret (v := 1) hx hb hr rfl (fun t ht hW => ⟨⟨1, (), rfl, (by have k9 : (1 : Int32).toInt = 1 := (by decide); omega), wEn_of empP (hK.sub [] rfl) empD ht hW⟩, hS.F ht⟩) hS.2.2 dX12_isKept_199
    · have tc4 := (show z3.toInt ≠ 0 from ti_ne rfl rg_11 c4)
      have lc4 : ¬ x = 6840691 := fun h => c4 (by rw [ez3]; exact (lg_cmp_eq x 6840691).mpr h)
      refine lv_lload_n hx hb dX12_isKept_16 rfl (lv_at hl 0 rfl) ?_
      refine lv_ldc2 (v := (1718775661)) hx hb hown (ho (.constantLong RX12 147 (1718775661)) (List.mem_of_getElem? (i := 2) rfl)) dX12_isKept_17 ?_
      refine W.lcmp hx hb dX12_isKept_20 ?_
      refine lv_topi (fun z5 ez5 => ?_)
      refine lv_if_eq (tgt := 96) hx hb dX12_isKept_21 rfl (fun c6 => ?_) (fun c6 => ?_)
      · have tc6 := (show z5.toInt = 0 from ti_eq rfl rg_11 c6)
        have lc6 : x = 1718775661 := (lg_cmp_eq x 1718775661).mp (by rw [← ez5]; exact c6)
        refine lv_iconst (v := 1) hx hb dX12_isKept_96 rg_6 ?_
        refine lv_goto (tgt := 101) hx hb dX12_isKept_97 rfl ?_
        refine lv_istore_n (lv' := [(2, .int 1), (0, .long x)]) hx hb dX12_isKept_101 rfl hl (Nat.le_of_ble_eq_true rfl) rfl (fun ls hl => ?_)
        refine lv_iload_n hx hb dX12_isKept_102 rfl (lv_at hl 0 rfl) ?_
        refine lv_if_ne (tgt := 194) hx hb dX12_isKept_103 rfl (fun _ => ?_) (fun cc => absurd cc (by decide))
        refine lv_iconst (v := 1) hx hb dX12_isKept_194 rg_6 ?_
        refine lv_goto (tgt := 199) hx hb dX12_isKept_195 rfl ?_
        rw [hQ]
        exact W.zret (v := 1) hx hb hr rfl (fun t ht hW => ⟨⟨1, (), rfl, (by have k9 : (1 : Int32).toInt = 1 := (by decide); omega), wEn_of empP (hK.sub [] rfl) empD ht hW⟩, hS.F ht⟩) hS.2.2 dX12_isKept_199
      · have tc6 := (show z5.toInt ≠ 0 from ti_ne rfl rg_11 c6)
        have lc6 : ¬ x = 1718775661 := fun h => c6 (by rw [ez5]; exact (lg_cmp_eq x 1718775661).mpr h)
        refine lv_lload_n hx hb dX12_isKept_24 rfl (lv_at hl 0 rfl) ?_
        refine lv_ldc2 (v := (29807)) hx hb hown (ho (.constantLong RX12 149 (29807)) (List.mem_of_getElem? (i := 3) rfl)) dX12_isKept_25 ?_
        refine W.lcmp hx hb dX12_isKept_28 ?_
        refine lv_topi (fun z7 ez7 => ?_)
        refine lv_if_eq (tgt := 96) hx hb dX12_isKept_29 rfl (fun c8 => ?_) (fun c8 => ?_)
        · have tc8 := (show z7.toInt = 0 from ti_eq rfl rg_11 c8)
          have lc8 : x = 29807 := (lg_cmp_eq x 29807).mp (by rw [← ez7]; exact c8)
          refine lv_iconst (v := 1) hx hb dX12_isKept_96 rg_6 ?_
          refine lv_goto (tgt := 101) hx hb dX12_isKept_97 rfl ?_
          refine lv_istore_n (lv' := [(2, .int 1), (0, .long x)]) hx hb dX12_isKept_101 rfl hl (Nat.le_of_ble_eq_true rfl) rfl (fun ls hl => ?_)
          refine lv_iload_n hx hb dX12_isKept_102 rfl (lv_at hl 0 rfl) ?_
          refine lv_if_ne (tgt := 194) hx hb dX12_isKept_103 rfl (fun _ => ?_) (fun cc => absurd cc (by decide))
          refine lv_iconst (v := 1) hx hb dX12_isKept_194 rg_6 ?_
          refine lv_goto (tgt := 199) hx hb dX12_isKept_195 rfl ?_
          rw [hQ]
          exact W.zret (v := 1) hx hb hr rfl (fun t ht hW => ⟨⟨1, (), rfl, (by have k9 : (1 : Int32).toInt = 1 := (by decide); omega), wEn_of empP (hK.sub [] rfl) empD ht hW⟩, hS.F ht⟩) hS.2.2 dX12_isKept_199
        · have tc8 := (show z7.toInt ≠ 0 from ti_ne rfl rg_11 c8)
          have lc8 : ¬ x = 29807 := fun h => c8 (by rw [ez7]; exact (lg_cmp_eq x 29807).mpr h)
          refine lv_lload_n hx hb dX12_isKept_32 rfl (lv_at hl 0 rfl) ?_
          refine lv_ldc2 (v := (7566701)) hx hb hown (ho (.constantLong RX12 151 (7566701)) (List.mem_of_getElem? (i := 4) rfl)) dX12_isKept_33 ?_
          refine W.lcmp hx hb dX12_isKept_36 ?_
          refine lv_topi (fun z9 ez9 => ?_)
          refine lv_if_eq (tgt := 96) hx hb dX12_isKept_37 rfl (fun c10 => ?_) (fun c10 => ?_)
          · have tc10 := (show z9.toInt = 0 from ti_eq rfl rg_11 c10)
            have lc10 : x = 7566701 := (lg_cmp_eq x 7566701).mp (by rw [← ez9]; exact c10)
            refine lv_iconst (v := 1) hx hb dX12_isKept_96 rg_6 ?_
            refine lv_goto (tgt := 101) hx hb dX12_isKept_97 rfl ?_
            refine lv_istore_n (lv' := [(2, .int 1), (0, .long x)]) hx hb dX12_isKept_101 rfl hl (Nat.le_of_ble_eq_true rfl) rfl (fun ls hl => ?_)
            refine lv_iload_n hx hb dX12_isKept_102 rfl (lv_at hl 0 rfl) ?_
            refine lv_if_ne (tgt := 194) hx hb dX12_isKept_103 rfl (fun _ => ?_) (fun cc => absurd cc (by decide))
            refine lv_iconst (v := 1) hx hb dX12_isKept_194 rg_6 ?_
            refine lv_goto (tgt := 199) hx hb dX12_isKept_195 rfl ?_
            rw [hQ]
            exact W.zret (v := 1) hx hb hr rfl (fun t ht hW => ⟨⟨1, (), rfl, (by have k9 : (1 : Int32).toInt = 1 := (by decide); omega), wEn_of empP (hK.sub [] rfl) empD ht hW⟩, hS.F ht⟩) hS.2.2 dX12_isKept_199
          · have tc10 := (show z9.toInt ≠ 0 from ti_ne rfl rg_11 c10)
            have lc10 : ¬ x = 7566701 := fun h => c10 (by rw [ez9]; exact (lg_cmp_eq x 7566701).mpr h)
            refine lv_lload_n hx hb dX12_isKept_40 rfl (lv_at hl 0 rfl) ?_
            refine lv_ldc2 (v := (28518)) hx hb hown (ho (.constantLong RX12 153 (28518)) (List.mem_of_getElem? (i := 5) rfl)) dX12_isKept_41 ?_
            refine W.lcmp hx hb dX12_isKept_44 ?_
            refine lv_topi (fun z11 ez11 => ?_)
            refine lv_if_eq (tgt := 96) hx hb dX12_isKept_45 rfl (fun c12 => ?_) (fun c12 => ?_)
            · have tc12 := (show z11.toInt = 0 from ti_eq rfl rg_11 c12)
              have lc12 : x = 28518 := (lg_cmp_eq x 28518).mp (by rw [← ez11]; exact c12)
              refine lv_iconst (v := 1) hx hb dX12_isKept_96 rg_6 ?_
              refine lv_goto (tgt := 101) hx hb dX12_isKept_97 rfl ?_
              refine lv_istore_n (lv' := [(2, .int 1), (0, .long x)]) hx hb dX12_isKept_101 rfl hl (Nat.le_of_ble_eq_true rfl) rfl (fun ls hl => ?_)
              refine lv_iload_n hx hb dX12_isKept_102 rfl (lv_at hl 0 rfl) ?_
              refine lv_if_ne (tgt := 194) hx hb dX12_isKept_103 rfl (fun _ => ?_) (fun cc => absurd cc (by decide))
              refine lv_iconst (v := 1) hx hb dX12_isKept_194 rg_6 ?_
              refine lv_goto (tgt := 199) hx hb dX12_isKept_195 rfl ?_
              rw [hQ]
              exact W.zret (v := 1) hx hb hr rfl (fun t ht hW => ⟨⟨1, (), rfl, (by have k9 : (1 : Int32).toInt = 1 := (by decide); omega), wEn_of empP (hK.sub [] rfl) empD ht hW⟩, hS.F ht⟩) hS.2.2 dX12_isKept_199
            · have tc12 := (show z11.toInt ≠ 0 from ti_ne rfl rg_11 c12)
              have lc12 : ¬ x = 28518 := fun h => c12 (by rw [ez11]; exact (lg_cmp_eq x 28518).mpr h)
              refine lv_lload_n hx hb dX12_isKept_48 rfl (lv_at hl 0 rfl) ?_
              refine lv_ldc2 (v := (1836020596)) hx hb hown (ho (.constantLong RX12 155 (1836020596)) (List.mem_of_getElem? (i := 6) rfl)) dX12_isKept_49 ?_
              refine W.lcmp hx hb dX12_isKept_52 ?_
              refine lv_topi (fun z13 ez13 => ?_)
              refine lv_if_eq (tgt := 96) hx hb dX12_isKept_53 rfl (fun c14 => ?_) (fun c14 => ?_)
              · have tc14 := (show z13.toInt = 0 from ti_eq rfl rg_11 c14)
                have lc14 : x = 1836020596 := (lg_cmp_eq x 1836020596).mp (by rw [← ez13]; exact c14)
                refine lv_iconst (v := 1) hx hb dX12_isKept_96 rg_6 ?_
                refine lv_goto (tgt := 101) hx hb dX12_isKept_97 rfl ?_
                refine lv_istore_n (lv' := [(2, .int 1), (0, .long x)]) hx hb dX12_isKept_101 rfl hl (Nat.le_of_ble_eq_true rfl) rfl (fun ls hl => ?_)
                refine lv_iload_n hx hb dX12_isKept_102 rfl (lv_at hl 0 rfl) ?_
                refine lv_if_ne (tgt := 194) hx hb dX12_isKept_103 rfl (fun _ => ?_) (fun cc => absurd cc (by decide))
                refine lv_iconst (v := 1) hx hb dX12_isKept_194 rg_6 ?_
                refine lv_goto (tgt := 199) hx hb dX12_isKept_195 rfl ?_
                rw [hQ]
                exact W.zret (v := 1) hx hb hr rfl (fun t ht hW => ⟨⟨1, (), rfl, (by have k9 : (1 : Int32).toInt = 1 := (by decide); omega), wEn_of empP (hK.sub [] rfl) empD ht hW⟩, hS.F ht⟩) hS.2.2 dX12_isKept_199
              · have tc14 := (show z13.toInt ≠ 0 from ti_ne rfl rg_11 c14)
                have lc14 : ¬ x = 1836020596 := fun h => c14 (by rw [ez13]; exact (lg_cmp_eq x 1836020596).mpr h)
                refine lv_lload_n hx hb dX12_isKept_56 rfl (lv_at hl 0 rfl) ?_
                refine lv_ldc2 (v := (6382692)) hx hb hown (ho (.constantLong RX12 157 (6382692)) (List.mem_of_getElem? (i := 7) rfl)) dX12_isKept_57 ?_
                refine W.lcmp hx hb dX12_isKept_60 ?_
                refine lv_topi (fun z15 ez15 => ?_)
                refine lv_if_eq (tgt := 96) hx hb dX12_isKept_61 rfl (fun c16 => ?_) (fun c16 => ?_)
                · have tc16 := (show z15.toInt = 0 from ti_eq rfl rg_11 c16)
                  have lc16 : x = 6382692 := (lg_cmp_eq x 6382692).mp (by rw [← ez15]; exact c16)
                  refine lv_iconst (v := 1) hx hb dX12_isKept_96 rg_6 ?_
                  refine lv_goto (tgt := 101) hx hb dX12_isKept_97 rfl ?_
                  refine lv_istore_n (lv' := [(2, .int 1), (0, .long x)]) hx hb dX12_isKept_101 rfl hl (Nat.le_of_ble_eq_true rfl) rfl (fun ls hl => ?_)
                  refine lv_iload_n hx hb dX12_isKept_102 rfl (lv_at hl 0 rfl) ?_
                  refine lv_if_ne (tgt := 194) hx hb dX12_isKept_103 rfl (fun _ => ?_) (fun cc => absurd cc (by decide))
                  refine lv_iconst (v := 1) hx hb dX12_isKept_194 rg_6 ?_
                  refine lv_goto (tgt := 199) hx hb dX12_isKept_195 rfl ?_
                  rw [hQ]
                  exact W.zret (v := 1) hx hb hr rfl (fun t ht hW => ⟨⟨1, (), rfl, (by have k9 : (1 : Int32).toInt = 1 := (by decide); omega), wEn_of empP (hK.sub [] rfl) empD ht hW⟩, hS.F ht⟩) hS.2.2 dX12_isKept_199
                · have tc16 := (show z15.toInt ≠ 0 from ti_ne rfl rg_11 c16)
                  have lc16 : ¬ x = 6382692 := fun h => c16 (by rw [ez15]; exact (lg_cmp_eq x 6382692).mpr h)
                  refine lv_lload_n hx hb dX12_isKept_64 rfl (lv_at hl 0 rfl) ?_
                  refine lv_ldc2 (v := (1818588019)) hx hb hown (ho (.constantLong RX12 159 (1818588019)) (List.mem_of_getElem? (i := 8) rfl)) dX12_isKept_65 ?_
                  refine W.lcmp hx hb dX12_isKept_68 ?_
                  refine lv_topi (fun z17 ez17 => ?_)
                  refine lv_if_eq (tgt := 96) hx hb dX12_isKept_69 rfl (fun c18 => ?_) (fun c18 => ?_)
                  · have tc18 := (show z17.toInt = 0 from ti_eq rfl rg_11 c18)
                    have lc18 : x = 1818588019 := (lg_cmp_eq x 1818588019).mp (by rw [← ez17]; exact c18)
                    refine lv_iconst (v := 1) hx hb dX12_isKept_96 rg_6 ?_
                    refine lv_goto (tgt := 101) hx hb dX12_isKept_97 rfl ?_
                    refine lv_istore_n (lv' := [(2, .int 1), (0, .long x)]) hx hb dX12_isKept_101 rfl hl (Nat.le_of_ble_eq_true rfl) rfl (fun ls hl => ?_)
                    refine lv_iload_n hx hb dX12_isKept_102 rfl (lv_at hl 0 rfl) ?_
                    refine lv_if_ne (tgt := 194) hx hb dX12_isKept_103 rfl (fun _ => ?_) (fun cc => absurd cc (by decide))
                    refine lv_iconst (v := 1) hx hb dX12_isKept_194 rg_6 ?_
                    refine lv_goto (tgt := 199) hx hb dX12_isKept_195 rfl ?_
                    rw [hQ]
                    exact W.zret (v := 1) hx hb hr rfl (fun t ht hW => ⟨⟨1, (), rfl, (by have k9 : (1 : Int32).toInt = 1 := (by decide); omega), wEn_of empP (hK.sub [] rfl) empD ht hW⟩, hS.F ht⟩) hS.2.2 dX12_isKept_199
                  · have tc18 := (show z17.toInt ≠ 0 from ti_ne rfl rg_11 c18)
                    have lc18 : ¬ x = 1818588019 := fun h => c18 (by rw [ez17]; exact (lg_cmp_eq x 1818588019).mpr h)
                    refine lv_lload_n hx hb dX12_isKept_72 rfl (lv_at hl 0 rfl) ?_
                    refine lv_ldc2 (v := (499984983411)) hx hb hown (ho (.constantLong RX12 161 (499984983411)) (List.mem_of_getElem? (i := 9) rfl)) dX12_isKept_73 ?_
                    refine W.lcmp hx hb dX12_isKept_76 ?_
                    refine lv_topi (fun z19 ez19 => ?_)
                    refine lv_if_eq (tgt := 96) hx hb dX12_isKept_77 rfl (fun c20 => ?_) (fun c20 => ?_)
                    · have tc20 := (show z19.toInt = 0 from ti_eq rfl rg_11 c20)
                      have lc20 : x = 499984983411 := (lg_cmp_eq x 499984983411).mp (by rw [← ez19]; exact c20)
                      refine lv_iconst (v := 1) hx hb dX12_isKept_96 rg_6 ?_
                      refine lv_goto (tgt := 101) hx hb dX12_isKept_97 rfl ?_
                      refine lv_istore_n (lv' := [(2, .int 1), (0, .long x)]) hx hb dX12_isKept_101 rfl hl (Nat.le_of_ble_eq_true rfl) rfl (fun ls hl => ?_)
                      refine lv_iload_n hx hb dX12_isKept_102 rfl (lv_at hl 0 rfl) ?_
                      refine lv_if_ne (tgt := 194) hx hb dX12_isKept_103 rfl (fun _ => ?_) (fun cc => absurd cc (by decide))
                      refine lv_iconst (v := 1) hx hb dX12_isKept_194 rg_6 ?_
                      refine lv_goto (tgt := 199) hx hb dX12_isKept_195 rfl ?_
                      rw [hQ]
                      exact W.zret (v := 1) hx hb hr rfl (fun t ht hW => ⟨⟨1, (), rfl, (by have k9 : (1 : Int32).toInt = 1 := (by decide); omega), wEn_of empP (hK.sub [] rfl) empD ht hW⟩, hS.F ht⟩) hS.2.2 dX12_isKept_199
                    · have tc20 := (show z19.toInt ≠ 0 from ti_ne rfl rg_11 c20)
                      have lc20 : ¬ x = 499984983411 := fun h => c20 (by rw [ez19]; exact (lg_cmp_eq x 499984983411).mpr h)
                      refine lv_lload_n hx hb dX12_isKept_80 rfl (lv_at hl 0 rfl) ?_
                      refine lv_ldc2 (v := (495588568165)) hx hb hown (ho (.constantLong RX12 163 (495588568165)) (List.mem_of_getElem? (i := 10) rfl)) dX12_isKept_81 ?_
                      refine W.lcmp hx hb dX12_isKept_84 ?_
                      refine lv_topi (fun z21 ez21 => ?_)
                      refine lv_if_eq (tgt := 96) hx hb dX12_isKept_85 rfl (fun c22 => ?_) (fun c22 => ?_)
                      · have tc22 := (show z21.toInt = 0 from ti_eq rfl rg_11 c22)
                        have lc22 : x = 495588568165 := (lg_cmp_eq x 495588568165).mp (by rw [← ez21]; exact c22)
                        refine lv_iconst (v := 1) hx hb dX12_isKept_96 rg_6 ?_
                        refine lv_goto (tgt := 101) hx hb dX12_isKept_97 rfl ?_
                        refine lv_istore_n (lv' := [(2, .int 1), (0, .long x)]) hx hb dX12_isKept_101 rfl hl (Nat.le_of_ble_eq_true rfl) rfl (fun ls hl => ?_)
                        refine lv_iload_n hx hb dX12_isKept_102 rfl (lv_at hl 0 rfl) ?_
                        refine lv_if_ne (tgt := 194) hx hb dX12_isKept_103 rfl (fun _ => ?_) (fun cc => absurd cc (by decide))
                        refine lv_iconst (v := 1) hx hb dX12_isKept_194 rg_6 ?_
                        refine lv_goto (tgt := 199) hx hb dX12_isKept_195 rfl ?_
                        rw [hQ]
                        exact W.zret (v := 1) hx hb hr rfl (fun t ht hW => ⟨⟨1, (), rfl, (by have k9 : (1 : Int32).toInt = 1 := (by decide); omega), wEn_of empP (hK.sub [] rfl) empD ht hW⟩, hS.F ht⟩) hS.2.2 dX12_isKept_199
                      · have tc22 := (show z21.toInt ≠ 0 from ti_ne rfl rg_11 c22)
                        have lc22 : ¬ x = 495588568165 := fun h => c22 (by rw [ez21]; exact (lg_cmp_eq x 495588568165).mpr h)
                        refine lv_lload_n hx hb dX12_isKept_88 rfl (lv_at hl 0 rfl) ?_
                        refine lv_ldc2 (v := (25209)) hx hb hown (ho (.constantLong RX12 165 (25209)) (List.mem_of_getElem? (i := 11) rfl)) dX12_isKept_89 ?_
                        refine W.lcmp hx hb dX12_isKept_92 ?_
                        refine lv_topi (fun z23 ez23 => ?_)
                        refine lv_if_ne (tgt := 100) hx hb dX12_isKept_93 rfl (fun c24 => ?_) (fun c24 => ?_)
                        · have tc24 := (show z23.toInt ≠ 0 from ti_ne rfl rg_11 c24)
                          have lc24 : ¬ x = 25209 := fun h => c24 (by rw [ez23]; exact (lg_cmp_eq x 25209).mpr h)
                          refine lv_iconst (v := 0) hx hb dX12_isKept_100 rg_0 ?_
                          refine lv_istore_n (lv' := [(2, .int 0), (0, .long x)]) hx hb dX12_isKept_101 rfl hl (Nat.le_of_ble_eq_true rfl) rfl (fun ls hl => ?_)
                          refine lv_iload_n hx hb dX12_isKept_102 rfl (lv_at hl 0 rfl) ?_
                          refine lv_if_ne (tgt := 194) hx hb dX12_isKept_103 rfl (fun cc => absurd cc (by decide)) (fun _ => ?_)
                          refine lv_lload_n hx hb dX12_isKept_106 rfl (lv_at hl 1 rfl) ?_
                          refine lv_ldc2 (v := (1870030194)) hx hb hown (ho (.constantLong RX12 167 (1870030194)) (List.mem_of_getElem? (i := 12) rfl)) dX12_isKept_107 ?_
                          refine W.lcmp hx hb dX12_isKept_110 ?_
                          refine lv_topi (fun z25 ez25 => ?_)
                          refine lv_if_eq (tgt := 194) hx hb dX12_isKept_111 rfl (fun c26 => ?_) (fun c26 => ?_)
                          · have tc26 := (show z25.toInt = 0 from ti_eq rfl rg_11 c26)
                            have lc26 : x = 1870030194 := (lg_cmp_eq x 1870030194).mp (by rw [← ez25]; exact c26)
                            refine lv_iconst (v := 1) hx hb dX12_isKept_194 rg_6 ?_
                            refine lv_goto (tgt := 199) hx hb dX12_isKept_195 rfl ?_
                            rw [hQ]
                            exact W.zret (v := 1) hx hb hr rfl (fun t ht hW => ⟨⟨1, (), rfl, (by have k9 : (1 : Int32).toInt = 1 := (by decide); omega), wEn_of empP (hK.sub [] rfl) empD ht hW⟩, hS.F ht⟩) hS.2.2 dX12_isKept_199
                          · have tc26 := (show z25.toInt ≠ 0 from ti_ne rfl rg_11 c26)
                            have lc26 : ¬ x = 1870030194 := fun h => c26 (by rw [ez25]; exact (lg_cmp_eq x 1870030194).mpr h)
                            refine lv_lload_n hx hb dX12_isKept_114 rfl (lv_at hl 1 rfl) ?_
                            refine lv_ldc2 (v := (24948)) hx hb hown (ho (.constantLong RX12 169 (24948)) (List.mem_of_getElem? (i := 13) rfl)) dX12_isKept_115 ?_
                            refine W.lcmp hx hb dX12_isKept_118 ?_
                            refine lv_topi (fun z27 ez27 => ?_)
                            refine lv_if_eq (tgt := 194) hx hb dX12_isKept_119 rfl (fun c28 => ?_) (fun c28 => ?_)
                            · have tc28 := (show z27.toInt = 0 from ti_eq rfl rg_11 c28)
                              have lc28 : x = 24948 := (lg_cmp_eq x 24948).mp (by rw [← ez27]; exact c28)
                              refine lv_iconst (v := 1) hx hb dX12_isKept_194 rg_6 ?_
                              refine lv_goto (tgt := 199) hx hb dX12_isKept_195 rfl ?_
                              rw [hQ]
                              exact W.zret (v := 1) hx hb hr rfl (fun t ht hW => ⟨⟨1, (), rfl, (by have k9 : (1 : Int32).toInt = 1 := (by decide); omega), wEn_of empP (hK.sub [] rfl) empD ht hW⟩, hS.F ht⟩) hS.2.2 dX12_isKept_199
                            · have tc28 := (show z27.toInt ≠ 0 from ti_ne rfl rg_11 c28)
                              have lc28 : ¬ x = 24948 := fun h => c28 (by rw [ez27]; exact (lg_cmp_eq x 24948).mpr h)
                              refine lv_lload_n hx hb dX12_isKept_122 rfl (lv_at hl 1 rfl) ?_
                              refine lv_ldc2 (v := (482854658917)) hx hb hown (ho (.constantLong RX12 171 (482854658917)) (List.mem_of_getElem? (i := 14) rfl)) dX12_isKept_123 ?_
                              refine W.lcmp hx hb dX12_isKept_126 ?_
                              refine lv_topi (fun z29 ez29 => ?_)
                              refine lv_if_eq (tgt := 194) hx hb dX12_isKept_127 rfl (fun c30 => ?_) (fun c30 => ?_)
                              · have tc30 := (show z29.toInt = 0 from ti_eq rfl rg_11 c30)
                                have lc30 : x = 482854658917 := (lg_cmp_eq x 482854658917).mp (by rw [← ez29]; exact c30)
                                refine lv_iconst (v := 1) hx hb dX12_isKept_194 rg_6 ?_
                                refine lv_goto (tgt := 199) hx hb dX12_isKept_195 rfl ?_
                                rw [hQ]
                                exact W.zret (v := 1) hx hb hr rfl (fun t ht hW => ⟨⟨1, (), rfl, (by have k9 : (1 : Int32).toInt = 1 := (by decide); omega), wEn_of empP (hK.sub [] rfl) empD ht hW⟩, hS.F ht⟩) hS.2.2 dX12_isKept_199
                              · have tc30 := (show z29.toInt ≠ 0 from ti_ne rfl rg_11 c30)
                                have lc30 : ¬ x = 482854658917 := fun h => c30 (by rw [ez29]; exact (lg_cmp_eq x 482854658917).mpr h)
                                refine lv_lload_n hx hb dX12_isKept_130 rfl (lv_at hl 1 rfl) ?_
                                refine lv_ldc2 (v := (1885954923)) hx hb hown (ho (.constantLong RX12 173 (1885954923)) (List.mem_of_getElem? (i := 15) rfl)) dX12_isKept_131 ?_
                                refine W.lcmp hx hb dX12_isKept_134 ?_
                                refine lv_topi (fun z31 ez31 => ?_)
                                refine lv_if_eq (tgt := 194) hx hb dX12_isKept_135 rfl (fun c32 => ?_) (fun c32 => ?_)
                                · have tc32 := (show z31.toInt = 0 from ti_eq rfl rg_11 c32)
                                  have lc32 : x = 1885954923 := (lg_cmp_eq x 1885954923).mp (by rw [← ez31]; exact c32)
                                  refine lv_iconst (v := 1) hx hb dX12_isKept_194 rg_6 ?_
                                  refine lv_goto (tgt := 199) hx hb dX12_isKept_195 rfl ?_
                                  rw [hQ]
                                  exact W.zret (v := 1) hx hb hr rfl (fun t ht hW => ⟨⟨1, (), rfl, (by have k9 : (1 : Int32).toInt = 1 := (by decide); omega), wEn_of empP (hK.sub [] rfl) empD ht hW⟩, hS.F ht⟩) hS.2.2 dX12_isKept_199
                                · have tc32 := (show z31.toInt ≠ 0 from ti_ne rfl rg_11 c32)
                                  have lc32 : ¬ x = 1885954923 := fun h => c32 (by rw [ez31]; exact (lg_cmp_eq x 1885954923).mpr h)
                                  refine lv_lload_n hx hb dX12_isKept_138 rfl (lv_at hl 1 rfl) ?_
                                  refine lv_ldc2 (v := (26982)) hx hb hown (ho (.constantLong RX12 175 (26982)) (List.mem_of_getElem? (i := 16) rfl)) dX12_isKept_139 ?_
                                  refine W.lcmp hx hb dX12_isKept_142 ?_
                                  refine lv_topi (fun z33 ez33 => ?_)
                                  refine lv_if_eq (tgt := 194) hx hb dX12_isKept_143 rfl (fun c34 => ?_) (fun c34 => ?_)
                                  · have tc34 := (show z33.toInt = 0 from ti_eq rfl rg_11 c34)
                                    have lc34 : x = 26982 := (lg_cmp_eq x 26982).mp (by rw [← ez33]; exact c34)
                                    refine lv_iconst (v := 1) hx hb dX12_isKept_194 rg_6 ?_
                                    refine lv_goto (tgt := 199) hx hb dX12_isKept_195 rfl ?_
                                    rw [hQ]
                                    exact W.zret (v := 1) hx hb hr rfl (fun t ht hW => ⟨⟨1, (), rfl, (by have k9 : (1 : Int32).toInt = 1 := (by decide); omega), wEn_of empP (hK.sub [] rfl) empD ht hW⟩, hS.F ht⟩) hS.2.2 dX12_isKept_199
                                  · have tc34 := (show z33.toInt ≠ 0 from ti_ne rfl rg_11 c34)
                                    have lc34 : ¬ x = 26982 := fun h => c34 (by rw [ez33]; exact (lg_cmp_eq x 26982).mpr h)
                                    refine lv_lload_n hx hb dX12_isKept_146 rfl (lv_at hl 1 rfl) ?_
                                    refine lv_ldc2 (v := (504363246962)) hx hb hown (ho (.constantLong RX12 177 (504363246962)) (List.mem_of_getElem? (i := 17) rfl)) dX12_isKept_147 ?_
                                    refine W.lcmp hx hb dX12_isKept_150 ?_
                                    refine lv_topi (fun z35 ez35 => ?_)
                                    refine lv_if_eq (tgt := 194) hx hb dX12_isKept_151 rfl (fun c36 => ?_) (fun c36 => ?_)
                                    · have tc36 := (show z35.toInt = 0 from ti_eq rfl rg_11 c36)
                                      have lc36 : x = 504363246962 := (lg_cmp_eq x 504363246962).mp (by rw [← ez35]; exact c36)
                                      refine lv_iconst (v := 1) hx hb dX12_isKept_194 rg_6 ?_
                                      refine lv_goto (tgt := 199) hx hb dX12_isKept_195 rfl ?_
                                      rw [hQ]
                                      exact W.zret (v := 1) hx hb hr rfl (fun t ht hW => ⟨⟨1, (), rfl, (by have k9 : (1 : Int32).toInt = 1 := (by decide); omega), wEn_of empP (hK.sub [] rfl) empD ht hW⟩, hS.F ht⟩) hS.2.2 dX12_isKept_199
                                    · have tc36 := (show z35.toInt ≠ 0 from ti_ne rfl rg_11 c36)
                                      have lc36 : ¬ x = 504363246962 := fun h => c36 (by rw [ez35]; exact (lg_cmp_eq x 504363246962).mpr h)
                                      refine lv_lload_n hx hb dX12_isKept_154 rfl (lv_at hl 1 rfl) ?_
                                      refine lv_ldc2 (v := (6647396)) hx hb hown (ho (.constantLong RX12 179 (6647396)) (List.mem_of_getElem? (i := 18) rfl)) dX12_isKept_155 ?_
                                      refine W.lcmp hx hb dX12_isKept_158 ?_
                                      refine lv_topi (fun z37 ez37 => ?_)
                                      refine lv_if_eq (tgt := 194) hx hb dX12_isKept_159 rfl (fun c38 => ?_) (fun c38 => ?_)
                                      · have tc38 := (show z37.toInt = 0 from ti_eq rfl rg_11 c38)
                                        have lc38 : x = 6647396 := (lg_cmp_eq x 6647396).mp (by rw [← ez37]; exact c38)
                                        refine lv_iconst (v := 1) hx hb dX12_isKept_194 rg_6 ?_
                                        refine lv_goto (tgt := 199) hx hb dX12_isKept_195 rfl ?_
                                        rw [hQ]
                                        exact W.zret (v := 1) hx hb hr rfl (fun t ht hW => ⟨⟨1, (), rfl, (by have k9 : (1 : Int32).toInt = 1 := (by decide); omega), wEn_of empP (hK.sub [] rfl) empD ht hW⟩, hS.F ht⟩) hS.2.2 dX12_isKept_199
                                      · have tc38 := (show z37.toInt ≠ 0 from ti_ne rfl rg_11 c38)
                                        have lc38 : ¬ x = 6647396 := fun h => c38 (by rw [ez37]; exact (lg_cmp_eq x 6647396).mpr h)
                                        refine lv_lload_n hx hb dX12_isKept_162 rfl (lv_at hl 1 rfl) ?_
                                        refine lv_ldc2 (v := (7300710)) hx hb hown (ho (.constantLong RX12 181 (7300710)) (List.mem_of_getElem? (i := 19) rfl)) dX12_isKept_163 ?_
                                        refine W.lcmp hx hb dX12_isKept_166 ?_
                                        refine lv_topi (fun z39 ez39 => ?_)
                                        refine lv_if_eq (tgt := 194) hx hb dX12_isKept_167 rfl (fun c40 => ?_) (fun c40 => ?_)
                                        · have tc40 := (show z39.toInt = 0 from ti_eq rfl rg_11 c40)
                                          have lc40 : x = 7300710 := (lg_cmp_eq x 7300710).mp (by rw [← ez39]; exact c40)
                                          refine lv_iconst (v := 1) hx hb dX12_isKept_194 rg_6 ?_
                                          refine lv_goto (tgt := 199) hx hb dX12_isKept_195 rfl ?_
                                          rw [hQ]
                                          exact W.zret (v := 1) hx hb hr rfl (fun t ht hW => ⟨⟨1, (), rfl, (by have k9 : (1 : Int32).toInt = 1 := (by decide); omega), wEn_of empP (hK.sub [] rfl) empD ht hW⟩, hS.F ht⟩) hS.2.2 dX12_isKept_199
                                        · have tc40 := (show z39.toInt ≠ 0 from ti_ne rfl rg_11 c40)
                                          have lc40 : ¬ x = 7300710 := fun h => c40 (by rw [ez39]; exact (lg_cmp_eq x 7300710).mpr h)
                                          refine lv_lload_n hx hb dX12_isKept_170 rfl (lv_at hl 1 rfl) ?_
                                          refine lv_ldc2 (v := (474148660594)) hx hb hown (ho (.constantLong RX12 183 (474148660594)) (List.mem_of_getElem? (i := 20) rfl)) dX12_isKept_171 ?_
                                          refine W.lcmp hx hb dX12_isKept_174 ?_
                                          refine lv_topi (fun z41 ez41 => ?_)
                                          refine lv_if_eq (tgt := 194) hx hb dX12_isKept_175 rfl (fun c42 => ?_) (fun c42 => ?_)
                                          · have tc42 := (show z41.toInt = 0 from ti_eq rfl rg_11 c42)
                                            have lc42 : x = 474148660594 := (lg_cmp_eq x 474148660594).mp (by rw [← ez41]; exact c42)
                                            refine lv_iconst (v := 1) hx hb dX12_isKept_194 rg_6 ?_
                                            refine lv_goto (tgt := 199) hx hb dX12_isKept_195 rfl ?_
                                            rw [hQ]
                                            exact W.zret (v := 1) hx hb hr rfl (fun t ht hW => ⟨⟨1, (), rfl, (by have k9 : (1 : Int32).toInt = 1 := (by decide); omega), wEn_of empP (hK.sub [] rfl) empD ht hW⟩, hS.F ht⟩) hS.2.2 dX12_isKept_199
                                          · have tc42 := (show z41.toInt ≠ 0 from ti_ne rfl rg_11 c42)
                                            have lc42 : ¬ x = 474148660594 := fun h => c42 (by rw [ez41]; exact (lg_cmp_eq x 474148660594).mpr h)
                                            refine lv_lload_n hx hb dX12_isKept_178 rfl (lv_at hl 1 rfl) ?_
                                            refine lv_ldc2 (v := (1835360622)) hx hb hown (ho (.constantLong RX12 185 (1835360622)) (List.mem_of_getElem? (i := 21) rfl)) dX12_isKept_179 ?_
                                            refine W.lcmp hx hb dX12_isKept_182 ?_
                                            refine lv_topi (fun z43 ez43 => ?_)
                                            refine lv_if_eq (tgt := 194) hx hb dX12_isKept_183 rfl (fun c44 => ?_) (fun c44 => ?_)
                                            · have tc44 := (show z43.toInt = 0 from ti_eq rfl rg_11 c44)
                                              have lc44 : x = 1835360622 := (lg_cmp_eq x 1835360622).mp (by rw [← ez43]; exact c44)
                                              refine lv_iconst (v := 1) hx hb dX12_isKept_194 rg_6 ?_
                                              refine lv_goto (tgt := 199) hx hb dX12_isKept_195 rfl ?_
                                              rw [hQ]
                                              exact W.zret (v := 1) hx hb hr rfl (fun t ht hW => ⟨⟨1, (), rfl, (by have k9 : (1 : Int32).toInt = 1 := (by decide); omega), wEn_of empP (hK.sub [] rfl) empD ht hW⟩, hS.F ht⟩) hS.2.2 dX12_isKept_199
                                            · have tc44 := (show z43.toInt ≠ 0 from ti_ne rfl rg_11 c44)
                                              have lc44 : ¬ x = 1835360622 := fun h => c44 (by rw [ez43]; exact (lg_cmp_eq x 1835360622).mpr h)
                                              refine lv_lload_n hx hb dX12_isKept_186 rfl (lv_at hl 1 rfl) ?_
                                              refine lv_ldc2 (v := (7302757)) hx hb hown (ho (.constantLong RX12 187 (7302757)) (List.mem_of_getElem? (i := 22) rfl)) dX12_isKept_187 ?_
                                              refine W.lcmp hx hb dX12_isKept_190 ?_
                                              refine lv_topi (fun z45 ez45 => ?_)
                                              refine lv_if_ne (tgt := 198) hx hb dX12_isKept_191 rfl (fun c46 => ?_) (fun c46 => ?_)
                                              · have tc46 := (show z45.toInt ≠ 0 from ti_ne rfl rg_11 c46)
                                                have lc46 : ¬ x = 7302757 := fun h => c46 (by rw [ez45]; exact (lg_cmp_eq x 7302757).mpr h)
                                                refine lv_iconst (v := 0) hx hb dX12_isKept_198 rg_0 ?_
                                                rw [hQ]
                                                exact W.zret (v := 0) hx hb hr rfl (fun t ht hW => ⟨⟨0, (), rfl, (by have k9 : (0 : Int32).toInt = 0 := (by decide); omega), wEn_of empP (hK.sub [] rfl) empD ht hW⟩, hS.F ht⟩) hS.2.2 dX12_isKept_199
                                              · have tc46 := (show z45.toInt = 0 from ti_eq rfl rg_11 c46)
                                                have lc46 : x = 7302757 := (lg_cmp_eq x 7302757).mp (by rw [← ez45]; exact c46)
                                                refine lv_iconst (v := 1) hx hb dX12_isKept_194 rg_6 ?_
                                                refine lv_goto (tgt := 199) hx hb dX12_isKept_195 rfl ?_
                                                rw [hQ]
                                                exact W.zret (v := 1) hx hb hr rfl (fun t ht hW => ⟨⟨1, (), rfl, (by have k9 : (1 : Int32).toInt = 1 := (by decide); omega), wEn_of empP (hK.sub [] rfl) empD ht hW⟩, hS.F ht⟩) hS.2.2 dX12_isKept_199
                        · have tc24 := (show z23.toInt = 0 from ti_eq rfl rg_11 c24)
                          have lc24 : x = 25209 := (lg_cmp_eq x 25209).mp (by rw [← ez23]; exact c24)
                          refine lv_iconst (v := 1) hx hb dX12_isKept_96 rg_6 ?_
                          refine lv_goto (tgt := 101) hx hb dX12_isKept_97 rfl ?_
                          refine lv_istore_n (lv' := [(2, .int 1), (0, .long x)]) hx hb dX12_isKept_101 rfl hl (Nat.le_of_ble_eq_true rfl) rfl (fun ls hl => ?_)
                          refine lv_iload_n hx hb dX12_isKept_102 rfl (lv_at hl 0 rfl) ?_
                          refine lv_if_ne (tgt := 194) hx hb dX12_isKept_103 rfl (fun _ => ?_) (fun cc => absurd cc (by decide))
                          refine lv_iconst (v := 1) hx hb dX12_isKept_194 rg_6 ?_
                          refine lv_goto (tgt := 199) hx hb dX12_isKept_195 rfl ?_
                          rw [hQ]
                          exact W.zret (v := 1) hx hb hr rfl (fun t ht hW => ⟨⟨1, (), rfl, (by have k9 : (1 : Int32).toInt = 1 := (by decide); omega), wEn_of empP (hK.sub [] rfl) empD ht hW⟩, hS.F ht⟩) hS.2.2 dX12_isKept_199
