theorem dX10_fromSteps_0 : decode cX10_fromSteps 0 = .ok (.aload_n 0, 1) := by decide +kernel
theorem dX10_fromSteps_1 : decode cX10_fromSteps 1 = .ok (.iload_n 1, 1) := by decide +kernel
theorem dX10_fromSteps_2 : decode cX10_fromSteps 2 = .ok (.aload_n 2, 1) := by decide +kernel
theorem dX10_fromSteps_3 : decode cX10_fromSteps 3 = .ok (.getfield 59, 3) := by decide +kernel
theorem dX10_fromSteps_6 : decode cX10_fromSteps 6 = .ok (.iadd, 1) := by decide +kernel
theorem dX10_fromSteps_7 : decode cX10_fromSteps 7 = .ok (.laload, 1) := by decide +kernel
theorem dX10_fromSteps_8 : decode cX10_fromSteps 8 = .ok (.lstore 5, 2) := by decide +kernel
theorem dX10_fromSteps_10 : decode cX10_fromSteps 10 = .ok (.aload_n 0, 1) := by decide +kernel
theorem dX10_fromSteps_11 : decode cX10_fromSteps 11 = .ok (.iload_n 1, 1) := by decide +kernel
theorem dX10_fromSteps_12 : decode cX10_fromSteps 12 = .ok (.aload_n 2, 1) := by decide +kernel
theorem dX10_fromSteps_13 : decode cX10_fromSteps 13 = .ok (.getfield 117, 3) := by decide +kernel
theorem dX10_fromSteps_16 : decode cX10_fromSteps 16 = .ok (.iadd, 1) := by decide +kernel
theorem dX10_fromSteps_17 : decode cX10_fromSteps 17 = .ok (.laload, 1) := by decide +kernel
theorem dX10_fromSteps_18 : decode cX10_fromSteps 18 = .ok (.lstore 7, 2) := by decide +kernel
theorem dX10_fromSteps_20 : decode cX10_fromSteps 20 = .ok (.aload_n 2, 1) := by decide +kernel
theorem dX10_fromSteps_21 : decode cX10_fromSteps 21 = .ok (.getfield 55, 3) := by decide +kernel
theorem dX10_fromSteps_24 : decode cX10_fromSteps 24 = .ok (.tableswitch 57 2 5 #[32, 38, 44, 50], 32) := by decide +kernel
theorem dX10_fromSteps_81 : decode cX10_fromSteps 81 = .ok (.iload_n 3, 1) := by decide +kernel
theorem dX10_fromSteps_82 : decode cX10_fromSteps 82 = .ok (.iconst 2, 1) := by decide +kernel
theorem dX10_fromSteps_83 : decode cX10_fromSteps 83 = .ok (.if_icmp .ne 16, 3) := by decide +kernel
theorem dX10_fromSteps_99 : decode cX10_fromSteps 99 = .ok (.aload_n 0, 1) := by decide +kernel
theorem dX10_fromSteps_100 : decode cX10_fromSteps 100 = .ok (.iload_n 1, 1) := by decide +kernel
theorem dX10_fromSteps_101 : decode cX10_fromSteps 101 = .ok (.aload_n 2, 1) := by decide +kernel
theorem dX10_fromSteps_102 : decode cX10_fromSteps 102 = .ok (.getfield 124, 3) := by decide +kernel
theorem dX10_fromSteps_105 : decode cX10_fromSteps 105 = .ok (.iadd, 1) := by decide +kernel
theorem dX10_fromSteps_106 : decode cX10_fromSteps 106 = .ok (.laload, 1) := by decide +kernel
theorem dX10_fromSteps_107 : decode cX10_fromSteps 107 = .ok (.aload_n 0, 1) := by decide +kernel
theorem dX10_fromSteps_108 : decode cX10_fromSteps 108 = .ok (.iload_n 1, 1) := by decide +kernel
theorem dX10_fromSteps_109 : decode cX10_fromSteps 109 = .ok (.aload_n 2, 1) := by decide +kernel
theorem dX10_fromSteps_110 : decode cX10_fromSteps 110 = .ok (.getfield 127, 3) := by decide +kernel
theorem dX10_fromSteps_113 : decode cX10_fromSteps 113 = .ok (.iadd, 1) := by decide +kernel
theorem dX10_fromSteps_114 : decode cX10_fromSteps 114 = .ok (.laload, 1) := by decide +kernel
theorem dX10_fromSteps_115 : decode cX10_fromSteps 115 = .ok (.lcmp, 1) := by decide +kernel
theorem dX10_fromSteps_116 : decode cX10_fromSteps 116 = .ok (.ifCond .ge 8, 3) := by decide +kernel
theorem dX10_fromSteps_124 : decode cX10_fromSteps 124 = .ok (.lload 7, 2) := by decide +kernel
theorem dX10_fromSteps_126 : decode cX10_fromSteps 126 = .ok (.lreturn, 1) := by decide +kernel
theorem dX10_fromSteps_119 : decode cX10_fromSteps 119 = .ok (.lload 5, 2) := by decide +kernel
theorem dX10_fromSteps_121 : decode cX10_fromSteps 121 = .ok (.goto 5, 3) := by decide +kernel
theorem dX10_fromSteps_86 : decode cX10_fromSteps 86 = .ok (.iload 4, 2) := by decide +kernel
theorem dX10_fromSteps_88 : decode cX10_fromSteps 88 = .ok (.ifCond .ne 8, 3) := by decide +kernel
theorem dX10_fromSteps_96 : decode cX10_fromSteps 96 = .ok (.lload 7, 2) := by decide +kernel
theorem dX10_fromSteps_98 : decode cX10_fromSteps 98 = .ok (.lreturn, 1) := by decide +kernel
theorem dX10_fromSteps_91 : decode cX10_fromSteps 91 = .ok (.lload 5, 2) := by decide +kernel
theorem dX10_fromSteps_93 : decode cX10_fromSteps 93 = .ok (.goto 5, 3) := by decide +kernel
theorem dX10_fromSteps_56 : decode cX10_fromSteps 56 = .ok (.lload 5, 2) := by decide +kernel
theorem dX10_fromSteps_58 : decode cX10_fromSteps 58 = .ok (.lload 7, 2) := by decide +kernel
theorem dX10_fromSteps_60 : decode cX10_fromSteps 60 = .ok (.ladd, 1) := by decide +kernel
theorem dX10_fromSteps_61 : decode cX10_fromSteps 61 = .ok (.lreturn, 1) := by decide +kernel
theorem dX10_fromSteps_62 : decode cX10_fromSteps 62 = .ok (.lload 5, 2) := by decide +kernel
theorem dX10_fromSteps_64 : decode cX10_fromSteps 64 = .ok (.lload 7, 2) := by decide +kernel
theorem dX10_fromSteps_66 : decode cX10_fromSteps 66 = .ok (.lsub, 1) := by decide +kernel
theorem dX10_fromSteps_67 : decode cX10_fromSteps 67 = .ok (.lreturn, 1) := by decide +kernel
theorem dX10_fromSteps_68 : decode cX10_fromSteps 68 = .ok (.lload 5, 2) := by decide +kernel
theorem dX10_fromSteps_70 : decode cX10_fromSteps 70 = .ok (.lload 7, 2) := by decide +kernel
theorem dX10_fromSteps_72 : decode cX10_fromSteps 72 = .ok (.lmul, 1) := by decide +kernel
theorem dX10_fromSteps_73 : decode cX10_fromSteps 73 = .ok (.lreturn, 1) := by decide +kernel
theorem dX10_fromSteps_74 : decode cX10_fromSteps 74 = .ok (.aload_n 2, 1) := by decide +kernel
theorem dX10_fromSteps_75 : decode cX10_fromSteps 75 = .ok (.lload 5, 2) := by decide +kernel
theorem dX10_fromSteps_77 : decode cX10_fromSteps 77 = .ok (.invokevirtual 120, 3) := by decide +kernel
theorem dX10_fromSteps_80 : decode cX10_fromSteps 80 = .ok (.lreturn, 1) := by decide +kernel
theorem dX10_fromPlace_0 : decode cX10_fromPlace 0 = .ok (.aload_n 1, 1) := by decide +kernel
theorem dX10_fromPlace_1 : decode cX10_fromPlace 1 = .ok (.getfield 66, 3) := by decide +kernel
theorem dX10_fromPlace_4 : decode cX10_fromPlace 4 = .ok (.astore 7, 2) := by decide +kernel
theorem dX10_fromPlace_6 : decode cX10_fromPlace 6 = .ok (.aload 7, 2) := by decide +kernel
theorem dX10_fromPlace_8 : decode cX10_fromPlace 8 = .ok (.ifnull 11, 3) := by decide +kernel
theorem dX10_fromPlace_19 : decode cX10_fromPlace 19 = .ok (.lconst 0, 1) := by decide +kernel
theorem dX10_fromPlace_20 : decode cX10_fromPlace 20 = .ok (.lreturn, 1) := by decide +kernel
theorem dX10_fromPlace_11 : decode cX10_fromPlace 11 = .ok (.aload 7, 2) := by decide +kernel
theorem dX10_fromPlace_13 : decode cX10_fromPlace 13 = .ok (.getfield 79, 3) := by decide +kernel
theorem dX10_fromPlace_16 : decode cX10_fromPlace 16 = .ok (.ifCond .gt 5, 3) := by decide +kernel
theorem dX10_fromPlace_21 : decode cX10_fromPlace 21 = .ok (.iload 4, 2) := by decide +kernel
theorem dX10_fromPlace_23 : decode cX10_fromPlace 23 = .ok (.iload 5, 2) := by decide +kernel
theorem dX10_fromPlace_25 : decode cX10_fromPlace 25 = .ok (.invokestatic 84, 3) := by decide +kernel
theorem dX10_fromPlace_28 : decode cX10_fromPlace 28 = .ok (.bipush 12, 2) := by decide +kernel
theorem dX10_fromPlace_30 : decode cX10_fromPlace 30 = .ok (.imul, 1) := by decide +kernel
theorem dX10_fromPlace_31 : decode cX10_fromPlace 31 = .ok (.aload 7, 2) := by decide +kernel
theorem dX10_fromPlace_33 : decode cX10_fromPlace 33 = .ok (.getfield 88, 3) := by decide +kernel
theorem dX10_fromPlace_36 : decode cX10_fromPlace 36 = .ok (.iadd, 1) := by decide +kernel
theorem dX10_fromPlace_37 : decode cX10_fromPlace 37 = .ok (.istore 8, 2) := by decide +kernel
theorem dX10_fromPlace_39 : decode cX10_fromPlace 39 = .ok (.aload_n 0, 1) := by decide +kernel
theorem dX10_fromPlace_40 : decode cX10_fromPlace 40 = .ok (.getfield 22, 3) := by decide +kernel
theorem dX10_fromPlace_43 : decode cX10_fromPlace 43 = .ok (.getfield 91, 3) := by decide +kernel
theorem dX10_fromPlace_46 : decode cX10_fromPlace 46 = .ok (.iload 8, 2) := by decide +kernel
theorem dX10_fromPlace_48 : decode cX10_fromPlace 48 = .ok (.lload_n 2, 1) := by decide +kernel
theorem dX10_fromPlace_49 : decode cX10_fromPlace 49 = .ok (.aload 7, 2) := by decide +kernel
theorem dX10_fromPlace_51 : decode cX10_fromPlace 51 = .ok (.getfield 79, 3) := by decide +kernel
theorem dX10_fromPlace_54 : decode cX10_fromPlace 54 = .ok (.i2l, 1) := by decide +kernel
theorem dX10_fromPlace_55 : decode cX10_fromPlace 55 = .ok (.invokestatic 95, 3) := by decide +kernel
theorem dX10_fromPlace_58 : decode cX10_fromPlace 58 = .ok (.l2i, 1) := by decide +kernel
theorem dX10_fromPlace_59 : decode cX10_fromPlace 59 = .ok (.iadd, 1) := by decide +kernel
theorem dX10_fromPlace_60 : decode cX10_fromPlace 60 = .ok (.iaload, 1) := by decide +kernel
theorem dX10_fromPlace_61 : decode cX10_fromPlace 61 = .ok (.istore 9, 2) := by decide +kernel
theorem dX10_fromPlace_63 : decode cX10_fromPlace 63 = .ok (.iload 9, 2) := by decide +kernel
theorem dX10_fromPlace_65 : decode cX10_fromPlace 65 = .ok (.i2l, 1) := by decide +kernel
theorem dX10_fromPlace_78 : decode cX10_fromPlace 78 = .ok (.invokestatic 101, 3) := by decide +kernel
theorem dX10_fromPlace_81 : decode cX10_fromPlace 81 = .ok (.lreturn, 1) := by decide +kernel
theorem dX10_fromPlace_66 : decode cX10_fromPlace 66 = .ok (.iload 5, 2) := by decide +kernel
theorem dX10_fromPlace_68 : decode cX10_fromPlace 68 = .ok (.iconst 3, 1) := by decide +kernel
theorem dX10_fromPlace_69 : decode cX10_fromPlace 69 = .ok (.if_icmp .ne 8, 3) := by decide +kernel
theorem dX10_fromPlace_77 : decode cX10_fromPlace 77 = .ok (.iconst 1, 1) := by decide +kernel
theorem dX10_fromPlace_72 : decode cX10_fromPlace 72 = .ok (.iload 6, 2) := by decide +kernel
theorem dX10_fromPlace_74 : decode cX10_fromPlace 74 = .ok (.goto 4, 3) := by decide +kernel
theorem dX10_fromRow_0 : decode cX10_fromRow 0 = .ok (.aload_n 1, 1) := by decide +kernel
theorem dX10_fromRow_1 : decode cX10_fromRow 1 = .ok (.getfield 66, 3) := by decide +kernel
theorem dX10_fromRow_4 : decode cX10_fromRow 4 = .ok (.astore 5, 2) := by decide +kernel
theorem dX10_fromRow_6 : decode cX10_fromRow 6 = .ok (.iload_n 2, 1) := by decide +kernel
theorem dX10_fromRow_7 : decode cX10_fromRow 7 = .ok (.iload_n 3, 1) := by decide +kernel
theorem dX10_fromRow_8 : decode cX10_fromRow 8 = .ok (.invokestatic 84, 3) := by decide +kernel
theorem dX10_fromRow_11 : decode cX10_fromRow 11 = .ok (.bipush 12, 2) := by decide +kernel
theorem dX10_fromRow_13 : decode cX10_fromRow 13 = .ok (.imul, 1) := by decide +kernel
theorem dX10_fromRow_14 : decode cX10_fromRow 14 = .ok (.aload 5, 2) := by decide +kernel
theorem dX10_fromRow_16 : decode cX10_fromRow 16 = .ok (.getfield 88, 3) := by decide +kernel
theorem dX10_fromRow_19 : decode cX10_fromRow 19 = .ok (.iadd, 1) := by decide +kernel
theorem dX10_fromRow_20 : decode cX10_fromRow 20 = .ok (.istore 6, 2) := by decide +kernel
theorem dX10_fromRow_45 : decode cX10_fromRow 45 = .ok (.istore 7, 2) := by decide +kernel
theorem dX10_fromRow_61 : decode cX10_fromRow 61 = .ok (.istore 8, 2) := by decide +kernel
theorem dX10_fromRow_74 : decode cX10_fromRow 74 = .ok (.istore 9, 2) := by decide +kernel
theorem dX10_fromRow_76 : decode cX10_fromRow 76 = .ok (.lconst 0, 1) := by decide +kernel
theorem dX10_fromRow_77 : decode cX10_fromRow 77 = .ok (.lstore 10, 2) := by decide +kernel
theorem dX10_fromRow_79 : decode cX10_fromRow 79 = .ok (.ldc2_w 113, 3) := by decide +kernel
theorem dX10_fromRow_82 : decode cX10_fromRow 82 = .ok (.lstore 12, 2) := by decide +kernel
theorem dX10_fromRow_84 : decode cX10_fromRow 84 = .ok (.iconst 0, 1) := by decide +kernel
theorem dX10_fromRow_85 : decode cX10_fromRow 85 = .ok (.istore 14, 2) := by decide +kernel
theorem dX10_fromRow_87 : decode cX10_fromRow 87 = .ok (.iconst 0, 1) := by decide +kernel
theorem dX10_fromRow_88 : decode cX10_fromRow 88 = .ok (.istore 15, 2) := by decide +kernel
theorem dX10_fromRow_90 : decode cX10_fromRow 90 = .ok (.iload 15, 2) := by decide +kernel
theorem dX10_fromRow_92 : decode cX10_fromRow 92 = .ok (.iload 7, 2) := by decide +kernel
theorem dX10_fromRow_94 : decode cX10_fromRow 94 = .ok (.if_icmp .ge 53, 3) := by decide +kernel
theorem dX10_fromRow_147 : decode cX10_fromRow 147 = .ok (.aload_n 1, 1) := by decide +kernel
theorem dX10_fromRow_148 : decode cX10_fromRow 148 = .ok (.getfield 55, 3) := by decide +kernel
theorem dX10_fromRow_151 : decode cX10_fromRow 151 = .ok (.iconst 1, 1) := by decide +kernel
theorem dX10_fromRow_152 : decode cX10_fromRow 152 = .ok (.if_icmp .ne 6, 3) := by decide +kernel
theorem dX10_fromRow_158 : decode cX10_fromRow 158 = .ok (.iload_n 3, 1) := by decide +kernel
theorem dX10_fromRow_159 : decode cX10_fromRow 159 = .ok (.ifCond .ne 24, 3) := by decide +kernel
theorem dX10_fromRow_183 : decode cX10_fromRow 183 = .ok (.lload 10, 2) := by decide +kernel
theorem dX10_fromRow_185 : decode cX10_fromRow 185 = .ok (.lreturn, 1) := by decide +kernel
theorem dX10_fromRow_162 : decode cX10_fromRow 162 = .ok (.iload 14, 2) := by decide +kernel
theorem dX10_fromRow_164 : decode cX10_fromRow 164 = .ok (.ifCond .le 19, 3) := by decide +kernel
theorem dX10_fromRow_167 : decode cX10_fromRow 167 = .ok (.lload 10, 2) := by decide +kernel
theorem dX10_fromRow_169 : decode cX10_fromRow 169 = .ok (.aload 5, 2) := by decide +kernel
theorem dX10_fromRow_171 : decode cX10_fromRow 171 = .ok (.getfield 79, 3) := by decide +kernel
theorem dX10_fromRow_174 : decode cX10_fromRow 174 = .ok (.i2l, 1) := by decide +kernel
theorem dX10_fromRow_175 : decode cX10_fromRow 175 = .ok (.lmul, 1) := by decide +kernel
theorem dX10_fromRow_176 : decode cX10_fromRow 176 = .ok (.iload 14, 2) := by decide +kernel
theorem dX10_fromRow_178 : decode cX10_fromRow 178 = .ok (.i2l, 1) := by decide +kernel
theorem dX10_fromRow_179 : decode cX10_fromRow 179 = .ok (.ldiv, 1) := by decide +kernel
theorem dX10_fromRow_180 : decode cX10_fromRow 180 = .ok (.goto 5, 3) := by decide +kernel
theorem dX10_fromRow_155 : decode cX10_fromRow 155 = .ok (.lload 12, 2) := by decide +kernel
theorem dX10_fromRow_157 : decode cX10_fromRow 157 = .ok (.lreturn, 1) := by decide +kernel
theorem dX10_fromRow_97 : decode cX10_fromRow 97 = .ok (.aload_n 0, 1) := by decide +kernel
theorem dX10_fromRow_98 : decode cX10_fromRow 98 = .ok (.getfield 22, 3) := by decide +kernel
theorem dX10_fromRow_101 : decode cX10_fromRow 101 = .ok (.getfield 91, 3) := by decide +kernel
theorem dX10_fromRow_104 : decode cX10_fromRow 104 = .ok (.iload 6, 2) := by decide +kernel
theorem dX10_fromRow_106 : decode cX10_fromRow 106 = .ok (.iload 15, 2) := by decide +kernel
theorem dX10_fromRow_108 : decode cX10_fromRow 108 = .ok (.iadd, 1) := by decide +kernel
theorem dX10_fromRow_109 : decode cX10_fromRow 109 = .ok (.iaload, 1) := by decide +kernel
theorem dX10_fromRow_110 : decode cX10_fromRow 110 = .ok (.i2l, 1) := by decide +kernel
theorem dX10_fromRow_111 : decode cX10_fromRow 111 = .ok (.iload 9, 2) := by decide +kernel
theorem dX10_fromRow_113 : decode cX10_fromRow 113 = .ok (.invokestatic 101, 3) := by decide +kernel
theorem dX10_fromRow_116 : decode cX10_fromRow 116 = .ok (.lstore 16, 2) := by decide +kernel
theorem dX10_fromRow_118 : decode cX10_fromRow 118 = .ok (.lload 10, 2) := by decide +kernel
theorem dX10_fromRow_120 : decode cX10_fromRow 120 = .ok (.lload 16, 2) := by decide +kernel
theorem dX10_fromRow_122 : decode cX10_fromRow 122 = .ok (.ladd, 1) := by decide +kernel
theorem dX10_fromRow_123 : decode cX10_fromRow 123 = .ok (.lstore 10, 2) := by decide +kernel
theorem dX10_fromRow_125 : decode cX10_fromRow 125 = .ok (.lload 12, 2) := by decide +kernel
theorem dX10_fromRow_127 : decode cX10_fromRow 127 = .ok (.lload 16, 2) := by decide +kernel
theorem dX10_fromRow_129 : decode cX10_fromRow 129 = .ok (.invokestatic 115, 3) := by decide +kernel
theorem dX10_fromRow_132 : decode cX10_fromRow 132 = .ok (.lstore 12, 2) := by decide +kernel
theorem dX10_fromRow_134 : decode cX10_fromRow 134 = .ok (.iinc 14 1, 3) := by decide +kernel
theorem dX10_fromRow_137 : decode cX10_fromRow 137 = .ok (.iload 15, 2) := by decide +kernel
theorem dX10_fromRow_139 : decode cX10_fromRow 139 = .ok (.iload 8, 2) := by decide +kernel
theorem dX10_fromRow_141 : decode cX10_fromRow 141 = .ok (.iadd, 1) := by decide +kernel
theorem dX10_fromRow_142 : decode cX10_fromRow 142 = .ok (.istore 15, 2) := by decide +kernel
theorem dX10_fromRow_144 : decode cX10_fromRow 144 = .ok (.goto (-54), 3) := by decide +kernel
theorem dX10_fromRow_63 : decode cX10_fromRow 63 = .ok (.iload_n 3, 1) := by decide +kernel
theorem dX10_fromRow_64 : decode cX10_fromRow 64 = .ok (.iconst 3, 1) := by decide +kernel
theorem dX10_fromRow_65 : decode cX10_fromRow 65 = .ok (.if_icmp .ne 8, 3) := by decide +kernel
theorem dX10_fromRow_73 : decode cX10_fromRow 73 = .ok (.iconst 1, 1) := by decide +kernel
theorem dX10_fromRow_68 : decode cX10_fromRow 68 = .ok (.iload 4, 2) := by decide +kernel
theorem dX10_fromRow_70 : decode cX10_fromRow 70 = .ok (.goto 4, 3) := by decide +kernel
theorem dX10_fromRow_47 : decode cX10_fromRow 47 = .ok (.iload_n 3, 1) := by decide +kernel
theorem dX10_fromRow_48 : decode cX10_fromRow 48 = .ok (.ifCond .ne 12, 3) := by decide +kernel
theorem dX10_fromRow_60 : decode cX10_fromRow 60 = .ok (.iconst 1, 1) := by decide +kernel
theorem dX10_fromRow_51 : decode cX10_fromRow 51 = .ok (.iload 4, 2) := by decide +kernel
theorem dX10_fromRow_53 : decode cX10_fromRow 53 = .ok (.iconst 1, 1) := by decide +kernel
theorem dX10_fromRow_54 : decode cX10_fromRow 54 = .ok (.invokestatic 108, 3) := by decide +kernel
theorem dX10_fromRow_57 : decode cX10_fromRow 57 = .ok (.goto 4, 3) := by decide +kernel
theorem dX10_fromRow_22 : decode cX10_fromRow 22 = .ok (.iload_n 3, 1) := by decide +kernel
theorem dX10_fromRow_23 : decode cX10_fromRow 23 = .ok (.iconst 5, 1) := by decide +kernel
theorem dX10_fromRow_24 : decode cX10_fromRow 24 = .ok (.if_icmp .ne 16, 3) := by decide +kernel
theorem dX10_fromRow_40 : decode cX10_fromRow 40 = .ok (.aload 5, 2) := by decide +kernel
theorem dX10_fromRow_42 : decode cX10_fromRow 42 = .ok (.getfield 79, 3) := by decide +kernel
theorem dX10_fromRow_27 : decode cX10_fromRow 27 = .ok (.iload 4, 2) := by decide +kernel
theorem dX10_fromRow_29 : decode cX10_fromRow 29 = .ok (.aload 5, 2) := by decide +kernel
theorem dX10_fromRow_31 : decode cX10_fromRow 31 = .ok (.getfield 79, 3) := by decide +kernel
theorem dX10_fromRow_34 : decode cX10_fromRow 34 = .ok (.invokestatic 105, 3) := by decide +kernel
theorem dX10_fromRow_37 : decode cX10_fromRow 37 = .ok (.goto 8, 3) := by decide +kernel

def ow_k_fromSteps25 : List Cond := [.fieldLink RX10 59 "NearEnough$Step" "a" "I", .fieldLink RX10 117 "NearEnough$Step" "b" "I", .fieldLink RX10 55 "NearEnough$Step" "kind" "I", .fieldLink RX10 124 "NearEnough$Step" "under" "I", .fieldLink RX10 127 "NearEnough$Step" "other" "I"]
def vs_k_fromSteps25 : List Cond := .code yX10_fromSteps cX10_fromSteps 9 (some .long) :: (ow_k_fromSteps25 ++ (([.methodLink RX10 120 yX9_scaled, .instanceMethod yX9_scaled, .selects RX9 yX9_scaled yX9_scaled, .initialized RX9] : List Cond) ++ (vs_k_scaled ++ (wsX90))))
theorem vg_k_fromSteps25 : vs_k_fromSteps25.all goodWord = true := by decide +kernel
theorem dd_k_fromSteps25 : yX10_fromSteps.cls ≠ "java/lang/invoke/MethodHandle" ∧ yX10_fromSteps.cls ≠ "java/lang/invoke/VarHandle" ∧ (parseMethodDescriptor yX10_fromSteps.desc).map (fun d => d.parameters.length) = some 5 := by decide +kernel
def rm_k_fromSteps25 : Room := { frames := 1, cells := 0, slots := 0, locals := 22 }
theorem gd_k_fromSteps25_120_k_scaled : GoodIn vs_k_fromSteps25 (wsV RX10 120 RX9 yX9_scaled vs_k_scaled) := goodIn_app (goodIn_sub (fun w h => (List.mem_cons_of_mem _ (List.mem_append_right _ (List.mem_append_left _ h)))) (by decide +kernel)) (goodIn_sub (fun w h => (List.mem_cons_of_mem _ (List.mem_append_right _ (List.mem_append_right _ (List.mem_append_left _ h))))) vg_k_scaled)
set_option maxHeartbeats 4000000 in
set_option maxRecDepth 100000 in
theorem k_fromSteps25 (l : Launch) (dC : Nat → ClassId) (dI : Nat → Nat → Nat) (κ : CE) (sz : Nat) (σ : MS) (x : Int32) (a : Nat) (t_a : TT) (g_a : IsStep κ a t_a) (y : Int32) (z : Int32) (hk : PInv κ) (hI : CInv σ) (hx0 : 0 ≤ x.toInt ∧ x.toInt ≤ 480) : Met l yX10_fromSteps vs_k_fromSteps25 rm_k_fromSteps25 (va_Pc [.ref (kA κ 25), .int x, .ref a, .int y, .int z] (wSy dC dI (cW κ σ) (cT κ) sz)) (va_Ql (fun (r : Int64) (τ : MS) => τ = σ ∧ True) (fun (τ : MS) => wEn dC dI (va_A (cW κ σ) sz) (cW κ τ) []) (va_A (cW κ σ) sz)) 0 0 (va_A (cW κ σ) sz) := by
  refine Met.ofW (cc := cX10_fromSteps) (maxL := 9) (ret := (some .long)) (by decide +kernel) rfl ?_
  intro p e s m args below meth c s₁ B hml hv
  obtain ⟨rfl, hsz, hP, hK, hD0, hE⟩ := hv
  have hx := B.exec
  have hb := B.bytes
  have hr := B.returns
  have hts := atoms_spec (ws := vs_k_fromSteps25) B.pre
  have hown : s.vm.findClass RX10 = some m.cls := findClass_of_methodNamed B.named
  have hlocks := B.notSynchronized
  subst hsz
  have hD := hD0.self (sz := s.heap.size)
  generalize hAe : va_A (cW κ σ) s.heap.size = A at hD ⊢
  have hA : ∀ q : Nat, s.heap.size ≤ q → A q := fun q h => by rw [← hAe]; exact Or.inr h
  have hl := lv_entry ([.ref (kA κ 25), .int x, .ref a, .int y, .int z]) (n := 9) (Nat.le_of_ble_eq_true rfl)
  rw [lg_entry_eq]
  generalize (lg_sl ([.ref (kA κ 25), .int x, .ref a, .int y, .int z]) ++ List.replicate (9 - (lg_sl ([.ref (kA κ 25), .int x, .ref a, .int y, .int z])).length) Slot.unset).toArray = ls at hl ⊢
  have hl : lv_has ls 9 [(0, .ref (kA κ 25)), (1, .int x), (2, .ref a), (3, .int y), (4, .int z)] := hl
  have ho := fun w (h : w ∈ ow_k_fromSteps25) => hts w (List.mem_cons_of_mem _ (List.mem_append_left _ h))
  have hin9 : ∀ w ∈ u_ws RX9 TX9 11, w ∈ vs_k_fromSteps25 := fun w h => (List.mem_cons_of_mem _ (List.mem_append_right _ (List.mem_append_right _ (List.mem_append_right _ h))))
  refine zQ (fun Q hQ => ?_)
  refine zH (A := A) (ws := (cW κ σ)) (fun H hP hS => ?_) hP
  have hk0 := hk.1
  have hk1 := hk.2.1
  have hk2 := hk.2.2.1
  refine lv_aload_n hx hb dX10_fromSteps_0 rfl (lv_at hl 0 rfl) ?_
  refine lv_iload_n hx hb dX10_fromSteps_1 rfl (lv_at hl 1 rfl) ?_
  refine lv_aload_n hx hb dX10_fromSteps_2 rfl (lv_at hl 2 rfl) ?_
  have bb1_ := g_a.2.2.1 1 rx_cd17d5a19c rx_be9bb8ec2b
  obtain ⟨kp2_, hkp2_⟩ := cpl (κ := κ) (σ := σ) g_a.1 g_a.2.1
  refine va_get (D := (dC, dI)) (ci := 9) (v := .int (t_a.1 1)) (C := RX9) (T := TX9) (N := 11) hx hb hts hin9 hown hK hP kp2_ hkp2_ rfl 3 (Nat.le_of_ble_eq_true rfl) (ho (.fieldLink RX10 59 "NearEnough$Step" "a" "I") (List.mem_of_getElem? (i := 0) rfl)) (fun _ h9 => h9) rfl dX10_fromSteps_3 ?_
  refine lv_iadd hx hb dX10_fromSteps_6 ?_
  refine lv_topi (fun z3_ ez3_ => ?_)
  have o1 : -2147483648 ≤ x.toInt + (t_a.1 1).toInt := by omega
  have o2 : x.toInt + (t_a.1 1).toInt ≤ 2147483647 := by omega
  have tz3_ : z3_.toInt = x.toInt + (t_a.1 1).toInt := ti_add ez3_ rfl rfl o1 o2
  have o3 : 0 ≤ z3_.toInt := by omega
  have o4 : z3_.toInt < ((492 : Nat) : Int) := by omega
  refine va_lald hx hb hK hP 25 19 rfl rfl (ti_inx o3 o4) dX10_fromSteps_7 ?_
  refine lv_topl (fun y4_ ey4_ => ?_)
  refine lv_lstore (lv' := [(5, .long y4_), (0, .ref (kA κ 25)), (1, .int x), (2, .ref a), (3, .int y), (4, .int z)]) hx hb dX10_fromSteps_8 hl (Nat.le_of_ble_eq_true rfl) rfl (fun ls hl => ?_)
  refine lv_aload_n hx hb dX10_fromSteps_10 rfl (lv_at hl 1 rfl) ?_
  refine lv_iload_n hx hb dX10_fromSteps_11 rfl (lv_at hl 2 rfl) ?_
  refine lv_aload_n hx hb dX10_fromSteps_12 rfl (lv_at hl 3 rfl) ?_
  have bb5_ := g_a.2.2.1 2 rx_c20517e8ed rx_16813831c6
  obtain ⟨kp6_, hkp6_⟩ := cpl (κ := κ) (σ := σ) g_a.1 g_a.2.1
  refine va_get (D := (dC, dI)) (ci := 9) (v := .int (t_a.1 2)) (C := RX9) (T := TX9) (N := 11) hx hb hts hin9 hown hK hP kp6_ hkp6_ rfl 4 (Nat.le_of_ble_eq_true rfl) (ho (.fieldLink RX10 117 "NearEnough$Step" "b" "I") (List.mem_of_getElem? (i := 1) rfl)) (fun _ h9 => h9) rfl dX10_fromSteps_13 ?_
  refine lv_iadd hx hb dX10_fromSteps_16 ?_
  refine lv_topi (fun z7_ ez7_ => ?_)
  have o5 : -2147483648 ≤ x.toInt + (t_a.1 2).toInt := by omega
  have o6 : x.toInt + (t_a.1 2).toInt ≤ 2147483647 := by omega
  have tz7_ : z7_.toInt = x.toInt + (t_a.1 2).toInt := ti_add ez7_ rfl rfl o5 o6
  have o7 : 0 ≤ z7_.toInt := by omega
  have o8 : z7_.toInt < ((492 : Nat) : Int) := by omega
  refine va_lald hx hb hK hP 25 19 rfl rfl (ti_inx o7 o8) dX10_fromSteps_17 ?_
  refine lv_topl (fun y8_ ey8_ => ?_)
  refine lv_lstore (lv' := [(7, .long y8_), (5, .long y4_), (0, .ref (kA κ 25)), (1, .int x), (2, .ref a), (3, .int y), (4, .int z)]) hx hb dX10_fromSteps_18 hl (Nat.le_of_ble_eq_true rfl) rfl (fun ls hl => ?_)
  refine lv_aload_n hx hb dX10_fromSteps_20 rfl (lv_at hl 4 rfl) ?_
  obtain ⟨kp9_, hkp9_⟩ := cpl (κ := κ) (σ := σ) g_a.1 g_a.2.1
  refine va_get (D := (dC, dI)) (ci := 9) (v := .int (t_a.1 0)) (C := RX9) (T := TX9) (N := 11) hx hb hts hin9 hown hK hP kp9_ hkp9_ rfl 0 (Nat.le_of_ble_eq_true rfl) (ho (.fieldLink RX10 55 "NearEnough$Step" "kind" "I") (List.mem_of_getElem? (i := 2) rfl)) (fun _ h9 => h9) rfl dX10_fromSteps_21 ?_
  by_cases c_lo : (t_a.1 0).toInt < 2
  · refine lv_tableOut (tgt := 81) hx hb dX10_fromSteps_24 (Or.inl c_lo) rfl ?_
    refine lv_iload_n hx hb dX10_fromSteps_81 rfl (lv_at hl 5 rfl) ?_
    refine lv_iconst (v := 2) hx hb dX10_fromSteps_82 rg_19 ?_
    refine lv_icmp_ne (tgt := 99) hx hb dX10_fromSteps_83 rfl (fun c10_ => ?_) (fun c10_ => ?_)
    · have tc10_ := (show y.toInt ≠ 2 from ti_ne rfl rg_20 c10_)
      refine lv_aload_n hx hb dX10_fromSteps_99 rfl (lv_at hl 2 rfl) ?_
      refine lv_iload_n hx hb dX10_fromSteps_100 rfl (lv_at hl 3 rfl) ?_
      refine lv_aload_n hx hb dX10_fromSteps_101 rfl (lv_at hl 4 rfl) ?_
      have bb11_ := g_a.2.2.1 3 rx_0bd1d6dfed rx_7960e1f0c9
      obtain ⟨kp12_, hkp12_⟩ := cpl (κ := κ) (σ := σ) g_a.1 g_a.2.1
      refine va_get (D := (dC, dI)) (ci := 9) (v := .int (t_a.1 3)) (C := RX9) (T := TX9) (N := 11) hx hb hts hin9 hown hK hP kp12_ hkp12_ rfl 5 (Nat.le_of_ble_eq_true rfl) (ho (.fieldLink RX10 124 "NearEnough$Step" "under" "I") (List.mem_of_getElem? (i := 3) rfl)) (fun _ h9 => h9) rfl dX10_fromSteps_102 ?_
      refine lv_iadd hx hb dX10_fromSteps_105 ?_
      refine lv_topi (fun z13_ ez13_ => ?_)
      have o9 : -2147483648 ≤ x.toInt + (t_a.1 3).toInt := by omega
      have o10 : x.toInt + (t_a.1 3).toInt ≤ 2147483647 := by omega
      have tz13_ : z13_.toInt = x.toInt + (t_a.1 3).toInt := ti_add ez13_ rfl rfl o9 o10
      have o11 : 0 ≤ z13_.toInt := by omega
      have o12 : z13_.toInt < ((492 : Nat) : Int) := by omega
      refine va_lald hx hb hK hP 25 19 rfl rfl (ti_inx o11 o12) dX10_fromSteps_106 ?_
      refine lv_topl (fun y14_ ey14_ => ?_)
      refine lv_aload_n hx hb dX10_fromSteps_107 rfl (lv_at hl 2 rfl) ?_
      refine lv_iload_n hx hb dX10_fromSteps_108 rfl (lv_at hl 3 rfl) ?_
      refine lv_aload_n hx hb dX10_fromSteps_109 rfl (lv_at hl 4 rfl) ?_
      have bb15_ := g_a.2.2.1 4 rx_be9bb8ec2b rx_e6c5051dfc
      obtain ⟨kp16_, hkp16_⟩ := cpl (κ := κ) (σ := σ) g_a.1 g_a.2.1
      refine va_get (D := (dC, dI)) (ci := 9) (v := .int (t_a.1 4)) (C := RX9) (T := TX9) (N := 11) hx hb hts hin9 hown hK hP kp16_ hkp16_ rfl 6 (Nat.le_of_ble_eq_true rfl) (ho (.fieldLink RX10 127 "NearEnough$Step" "other" "I") (List.mem_of_getElem? (i := 4) rfl)) (fun _ h9 => h9) rfl dX10_fromSteps_110 ?_
      refine lv_iadd hx hb dX10_fromSteps_113 ?_
      refine lv_topi (fun z17_ ez17_ => ?_)
      have o13 : -2147483648 ≤ x.toInt + (t_a.1 4).toInt := by omega
      have o14 : x.toInt + (t_a.1 4).toInt ≤ 2147483647 := by omega
      have tz17_ : z17_.toInt = x.toInt + (t_a.1 4).toInt := ti_add ez17_ rfl rfl o13 o14
      have o15 : 0 ≤ z17_.toInt := by omega
      have o16 : z17_.toInt < ((492 : Nat) : Int) := by omega
      refine va_lald hx hb hK hP 25 19 rfl rfl (ti_inx o15 o16) dX10_fromSteps_114 ?_
      refine lv_topl (fun y18_ ey18_ => ?_)
      refine W.lcmp hx hb dX10_fromSteps_115 ?_
      refine lv_topi (fun z19_ ez19_ => ?_)
      refine lv_if_ge (tgt := 124) hx hb dX10_fromSteps_116 rfl (fun c20_ => ?_) (fun c20_ => ?_)
      · have tc20_ := (show 0 ≤ z19_.toInt from ti_le rg_11 rfl c20_)
        have lc20_ : y18_ ≤ y14_ := (lg_cmp_ge y14_ y18_).mp (by rw [← ez19_]; exact c20_)
        refine lv_lload hx hb dX10_fromSteps_124 (lv_at hl 0 rfl) ?_
        rw [hQ]
        exact W.lret (v := y8_) hx hb hr (fun t ht hW => ⟨⟨y8_, σ, rfl, ⟨rfl, trivial⟩, wEn_of hP (hK.sub [] rfl) hD ht hW⟩, hS.F ht⟩) hS.2.2 dX10_fromSteps_126
      · have tc20_ := (show z19_.toInt < 0 from ti_nle rg_11 rfl c20_)
        have lc20_ : ¬ y18_ ≤ y14_ := fun h => c20_ (by rw [ez19_]; exact (lg_cmp_ge y14_ y18_).mpr h)
        refine lv_lload hx hb dX10_fromSteps_119 (lv_at hl 1 rfl) ?_
        refine lv_goto (tgt := 126) hx hb dX10_fromSteps_121 rfl ?_
        rw [hQ]
        exact W.lret (v := y4_) hx hb hr (fun t ht hW => ⟨⟨y4_, σ, rfl, ⟨rfl, trivial⟩, wEn_of hP (hK.sub [] rfl) hD ht hW⟩, hS.F ht⟩) hS.2.2 dX10_fromSteps_126
    · have tc10_ := (show y.toInt = 2 from ti_eq rfl rg_20 c10_)
      refine lv_iload hx hb dX10_fromSteps_86 (lv_at hl 6 rfl) ?_
      refine lv_if_ne (tgt := 96) hx hb dX10_fromSteps_88 rfl (fun c21_ => ?_) (fun c21_ => ?_)
      · have tc21_ := (show z.toInt ≠ 0 from ti_ne rfl rg_11 c21_)
        refine lv_lload hx hb dX10_fromSteps_96 (lv_at hl 0 rfl) ?_
        rw [hQ]
        exact W.lret (v := y8_) hx hb hr (fun t ht hW => ⟨⟨y8_, σ, rfl, ⟨rfl, trivial⟩, wEn_of hP (hK.sub [] rfl) hD ht hW⟩, hS.F ht⟩) hS.2.2 dX10_fromSteps_98
      · have tc21_ := (show z.toInt = 0 from ti_eq rfl rg_11 c21_)
        refine lv_lload hx hb dX10_fromSteps_91 (lv_at hl 1 rfl) ?_
        refine lv_goto (tgt := 98) hx hb dX10_fromSteps_93 rfl ?_
        rw [hQ]
        exact W.lret (v := y4_) hx hb hr (fun t ht hW => ⟨⟨y4_, σ, rfl, ⟨rfl, trivial⟩, wEn_of hP (hK.sub [] rfl) hD ht hW⟩, hS.F ht⟩) hS.2.2 dX10_fromSteps_98
  · by_cases c_hi : 5 < (t_a.1 0).toInt
    · refine lv_tableOut (tgt := 81) hx hb dX10_fromSteps_24 (Or.inr c_hi) rfl ?_
      refine lv_iload_n hx hb dX10_fromSteps_81 rfl (lv_at hl 5 rfl) ?_
      refine lv_iconst (v := 2) hx hb dX10_fromSteps_82 rg_19 ?_
      refine lv_icmp_ne (tgt := 99) hx hb dX10_fromSteps_83 rfl (fun c22_ => ?_) (fun c22_ => ?_)
      · have tc22_ := (show y.toInt ≠ 2 from ti_ne rfl rg_20 c22_)
        refine lv_aload_n hx hb dX10_fromSteps_99 rfl (lv_at hl 2 rfl) ?_
        refine lv_iload_n hx hb dX10_fromSteps_100 rfl (lv_at hl 3 rfl) ?_
        refine lv_aload_n hx hb dX10_fromSteps_101 rfl (lv_at hl 4 rfl) ?_
        have bb23_ := g_a.2.2.1 3 rx_0bd1d6dfed rx_7960e1f0c9
        obtain ⟨kp24_, hkp24_⟩ := cpl (κ := κ) (σ := σ) g_a.1 g_a.2.1
        refine va_get (D := (dC, dI)) (ci := 9) (v := .int (t_a.1 3)) (C := RX9) (T := TX9) (N := 11) hx hb hts hin9 hown hK hP kp24_ hkp24_ rfl 5 (Nat.le_of_ble_eq_true rfl) (ho (.fieldLink RX10 124 "NearEnough$Step" "under" "I") (List.mem_of_getElem? (i := 3) rfl)) (fun _ h9 => h9) rfl dX10_fromSteps_102 ?_
        refine lv_iadd hx hb dX10_fromSteps_105 ?_
        refine lv_topi (fun z25_ ez25_ => ?_)
        have o17 : -2147483648 ≤ x.toInt + (t_a.1 3).toInt := by omega
        have o18 : x.toInt + (t_a.1 3).toInt ≤ 2147483647 := by omega
        have tz25_ : z25_.toInt = x.toInt + (t_a.1 3).toInt := ti_add ez25_ rfl rfl o17 o18
        have o19 : 0 ≤ z25_.toInt := by omega
        have o20 : z25_.toInt < ((492 : Nat) : Int) := by omega
        refine va_lald hx hb hK hP 25 19 rfl rfl (ti_inx o19 o20) dX10_fromSteps_106 ?_
        refine lv_topl (fun y26_ ey26_ => ?_)
        refine lv_aload_n hx hb dX10_fromSteps_107 rfl (lv_at hl 2 rfl) ?_
        refine lv_iload_n hx hb dX10_fromSteps_108 rfl (lv_at hl 3 rfl) ?_
        refine lv_aload_n hx hb dX10_fromSteps_109 rfl (lv_at hl 4 rfl) ?_
        have bb27_ := g_a.2.2.1 4 rx_be9bb8ec2b rx_e6c5051dfc
        obtain ⟨kp28_, hkp28_⟩ := cpl (κ := κ) (σ := σ) g_a.1 g_a.2.1
        refine va_get (D := (dC, dI)) (ci := 9) (v := .int (t_a.1 4)) (C := RX9) (T := TX9) (N := 11) hx hb hts hin9 hown hK hP kp28_ hkp28_ rfl 6 (Nat.le_of_ble_eq_true rfl) (ho (.fieldLink RX10 127 "NearEnough$Step" "other" "I") (List.mem_of_getElem? (i := 4) rfl)) (fun _ h9 => h9) rfl dX10_fromSteps_110 ?_
        refine lv_iadd hx hb dX10_fromSteps_113 ?_
        refine lv_topi (fun z29_ ez29_ => ?_)
        have o21 : -2147483648 ≤ x.toInt + (t_a.1 4).toInt := by omega
        have o22 : x.toInt + (t_a.1 4).toInt ≤ 2147483647 := by omega
        have tz29_ : z29_.toInt = x.toInt + (t_a.1 4).toInt := ti_add ez29_ rfl rfl o21 o22
        have o23 : 0 ≤ z29_.toInt := by omega
        have o24 : z29_.toInt < ((492 : Nat) : Int) := by omega
        refine va_lald hx hb hK hP 25 19 rfl rfl (ti_inx o23 o24) dX10_fromSteps_114 ?_
        refine lv_topl (fun y30_ ey30_ => ?_)
        refine W.lcmp hx hb dX10_fromSteps_115 ?_
        refine lv_topi (fun z31_ ez31_ => ?_)
        refine lv_if_ge (tgt := 124) hx hb dX10_fromSteps_116 rfl (fun c32_ => ?_) (fun c32_ => ?_)
        · have tc32_ := (show 0 ≤ z31_.toInt from ti_le rg_11 rfl c32_)
          have lc32_ : y30_ ≤ y26_ := (lg_cmp_ge y26_ y30_).mp (by rw [← ez31_]; exact c32_)
          refine lv_lload hx hb dX10_fromSteps_124 (lv_at hl 0 rfl) ?_
          rw [hQ]
          exact W.lret (v := y8_) hx hb hr (fun t ht hW => ⟨⟨y8_, σ, rfl, ⟨rfl, trivial⟩, wEn_of hP (hK.sub [] rfl) hD ht hW⟩, hS.F ht⟩) hS.2.2 dX10_fromSteps_126
        · have tc32_ := (show z31_.toInt < 0 from ti_nle rg_11 rfl c32_)
          have lc32_ : ¬ y30_ ≤ y26_ := fun h => c32_ (by rw [ez31_]; exact (lg_cmp_ge y26_ y30_).mpr h)
          refine lv_lload hx hb dX10_fromSteps_119 (lv_at hl 1 rfl) ?_
          refine lv_goto (tgt := 126) hx hb dX10_fromSteps_121 rfl ?_
          rw [hQ]
          exact W.lret (v := y4_) hx hb hr (fun t ht hW => ⟨⟨y4_, σ, rfl, ⟨rfl, trivial⟩, wEn_of hP (hK.sub [] rfl) hD ht hW⟩, hS.F ht⟩) hS.2.2 dX10_fromSteps_126
      · have tc22_ := (show y.toInt = 2 from ti_eq rfl rg_20 c22_)
        refine lv_iload hx hb dX10_fromSteps_86 (lv_at hl 6 rfl) ?_
        refine lv_if_ne (tgt := 96) hx hb dX10_fromSteps_88 rfl (fun c33_ => ?_) (fun c33_ => ?_)
        · have tc33_ := (show z.toInt ≠ 0 from ti_ne rfl rg_11 c33_)
          refine lv_lload hx hb dX10_fromSteps_96 (lv_at hl 0 rfl) ?_
          rw [hQ]
          exact W.lret (v := y8_) hx hb hr (fun t ht hW => ⟨⟨y8_, σ, rfl, ⟨rfl, trivial⟩, wEn_of hP (hK.sub [] rfl) hD ht hW⟩, hS.F ht⟩) hS.2.2 dX10_fromSteps_98
        · have tc33_ := (show z.toInt = 0 from ti_eq rfl rg_11 c33_)
          refine lv_lload hx hb dX10_fromSteps_91 (lv_at hl 1 rfl) ?_
          refine lv_goto (tgt := 98) hx hb dX10_fromSteps_93 rfl ?_
          rw [hQ]
          exact W.lret (v := y4_) hx hb hr (fun t ht hW => ⟨⟨y4_, σ, rfl, ⟨rfl, trivial⟩, wEn_of hP (hK.sub [] rfl) hD ht hW⟩, hS.F ht⟩) hS.2.2 dX10_fromSteps_98
    · rcases (show (t_a.1 0).toInt = 2 ∨ (t_a.1 0).toInt = 3 ∨ (t_a.1 0).toInt = 4 ∨ (t_a.1 0).toInt = 5 by omega) with t_sw | t_sw | t_sw | t_sw
      · refine lv_tableIn (tgt := 56) (off := 32) hx hb dX10_fromSteps_24 (by rw [t_sw]; decide) (by rw [t_sw]; decide) (by rw [t_sw]; decide) (by decide) ?_
        refine lv_lload hx hb dX10_fromSteps_56 (lv_at hl 1 rfl) ?_
        refine lv_lload hx hb dX10_fromSteps_58 (lv_at hl 0 rfl) ?_
        refine lv_ladd hx hb dX10_fromSteps_60 ?_
        refine lv_topl (fun y34_ ey34_ => ?_)
        rw [hQ]
        exact W.lret (v := y34_) hx hb hr (fun t ht hW => ⟨⟨y34_, σ, rfl, ⟨rfl, trivial⟩, wEn_of hP (hK.sub [] rfl) hD ht hW⟩, hS.F ht⟩) hS.2.2 dX10_fromSteps_61
      · refine lv_tableIn (tgt := 62) (off := 38) hx hb dX10_fromSteps_24 (by rw [t_sw]; decide) (by rw [t_sw]; decide) (by rw [t_sw]; decide) (by decide) ?_
        refine lv_lload hx hb dX10_fromSteps_62 (lv_at hl 1 rfl) ?_
        refine lv_lload hx hb dX10_fromSteps_64 (lv_at hl 0 rfl) ?_
        refine lv_lsub hx hb dX10_fromSteps_66 ?_
        refine lv_topl (fun y35_ ey35_ => ?_)
        rw [hQ]
        exact W.lret (v := y35_) hx hb hr (fun t ht hW => ⟨⟨y35_, σ, rfl, ⟨rfl, trivial⟩, wEn_of hP (hK.sub [] rfl) hD ht hW⟩, hS.F ht⟩) hS.2.2 dX10_fromSteps_67
      · refine lv_tableIn (tgt := 68) (off := 44) hx hb dX10_fromSteps_24 (by rw [t_sw]; decide) (by rw [t_sw]; decide) (by rw [t_sw]; decide) (by decide) ?_
        refine lv_lload hx hb dX10_fromSteps_68 (lv_at hl 1 rfl) ?_
        refine lv_lload hx hb dX10_fromSteps_70 (lv_at hl 0 rfl) ?_
        refine lv_lmul hx hb dX10_fromSteps_72 ?_
        refine lv_topl (fun y36_ ey36_ => ?_)
        rw [hQ]
        exact W.lret (v := y36_) hx hb hr (fun t ht hW => ⟨⟨y36_, σ, rfl, ⟨rfl, trivial⟩, wEn_of hP (hK.sub [] rfl) hD ht hW⟩, hS.F ht⟩) hS.2.2 dX10_fromSteps_73
      · refine lv_tableIn (tgt := 74) (off := 50) hx hb dX10_fromSteps_24 (by rw [t_sw]; decide) (by rw [t_sw]; decide) (by rw [t_sw]; decide) (by decide) ?_
        refine lv_aload_n hx hb dX10_fromSteps_74 rfl (lv_at hl 4 rfl) ?_
        refine lv_lload hx hb dX10_fromSteps_75 (lv_at hl 1 rfl) ?_
        obtain ⟨kp38_, hkp38_⟩ := cpl (κ := κ) (σ := σ) g_a.1 g_a.2.1
        refine zy_l (va_runV (As := [.long y4_]) (rest := []) ⟨hx, hb, hml, hown, hts⟩ (k_scaled l dC dI κ H.size σ a t_a g_a y4_ hk hI ) (cwV 1 hts gd_k_fromSteps25_120_k_scaled rfl rfl rfl dd_k_scaled ⟨Nat.le_of_ble_eq_true rfl, Nat.le_of_ble_eq_true rfl⟩) (preVy hP hK hD hE (ci := 9) (q0 := kp38_) rfl hkp38_) rfl rfl hl.1 rfl (lv_room (Nat.le_of_ble_eq_true rfl)) dX10_fromSteps_77 ⟨Nat.le_of_ble_eq_true rfl, Nat.le_of_ble_eq_true rfl⟩) hD hS hA (fun y37_ τ39_ H locs hq hP hD hS => ?_)
        obtain ⟨hτ39_, q40_⟩ := hq
        rw [hτ39_] at hP hD
        refine W.widen (k := 0) (n := 0) (Nat.le_of_ble_eq_true rfl) (Nat.le_of_ble_eq_true rfl) ?_
        rw [hQ]
        exact W.lret (v := y37_) hx hb hr (fun t ht hW => ⟨⟨y37_, σ, rfl, ⟨rfl, trivial⟩, wEn_of hP (hK.sub [] rfl) hD ht hW⟩, hS.F ht⟩) hS.2.2 dX10_fromSteps_80
def ow_k_fromSteps26 : List Cond := [.fieldLink RX10 59 "NearEnough$Step" "a" "I", .fieldLink RX10 117 "NearEnough$Step" "b" "I", .fieldLink RX10 55 "NearEnough$Step" "kind" "I", .fieldLink RX10 124 "NearEnough$Step" "under" "I", .fieldLink RX10 127 "NearEnough$Step" "other" "I"]
def vs_k_fromSteps26 : List Cond := .code yX10_fromSteps cX10_fromSteps 9 (some .long) :: (ow_k_fromSteps26 ++ (([.methodLink RX10 120 yX9_scaled, .instanceMethod yX9_scaled, .selects RX9 yX9_scaled yX9_scaled, .initialized RX9] : List Cond) ++ (vs_k_scaled ++ (wsX90))))
theorem vg_k_fromSteps26 : vs_k_fromSteps26.all goodWord = true := by decide +kernel
theorem dd_k_fromSteps26 : yX10_fromSteps.cls ≠ "java/lang/invoke/MethodHandle" ∧ yX10_fromSteps.cls ≠ "java/lang/invoke/VarHandle" ∧ (parseMethodDescriptor yX10_fromSteps.desc).map (fun d => d.parameters.length) = some 5 := by decide +kernel
def rm_k_fromSteps26 : Room := { frames := 1, cells := 0, slots := 0, locals := 22 }
theorem gd_k_fromSteps26_120_k_scaled : GoodIn vs_k_fromSteps26 (wsV RX10 120 RX9 yX9_scaled vs_k_scaled) := goodIn_app (goodIn_sub (fun w h => (List.mem_cons_of_mem _ (List.mem_append_right _ (List.mem_append_left _ h)))) (by decide +kernel)) (goodIn_sub (fun w h => (List.mem_cons_of_mem _ (List.mem_append_right _ (List.mem_append_right _ (List.mem_append_left _ h))))) vg_k_scaled)
set_option maxHeartbeats 4000000 in
set_option maxRecDepth 100000 in
theorem k_fromSteps26 (l : Launch) (dC : Nat → ClassId) (dI : Nat → Nat → Nat) (κ : CE) (sz : Nat) (σ : MS) (x : Int32) (a : Nat) (t_a : TT) (g_a : IsStep κ a t_a) (y : Int32) (z : Int32) (hk : PInv κ) (hI : CInv σ) (hx0 : 0 ≤ x.toInt ∧ x.toInt ≤ 480) : Met l yX10_fromSteps vs_k_fromSteps26 rm_k_fromSteps26 (va_Pc [.ref (kA κ 26), .int x, .ref a, .int y, .int z] (wSy dC dI (cW κ σ) (cT κ) sz)) (va_Ql (fun (r : Int64) (τ : MS) => τ = σ ∧ True) (fun (τ : MS) => wEn dC dI (va_A (cW κ σ) sz) (cW κ τ) []) (va_A (cW κ σ) sz)) 0 0 (va_A (cW κ σ) sz) := by
  refine Met.ofW (cc := cX10_fromSteps) (maxL := 9) (ret := (some .long)) (by decide +kernel) rfl ?_
  intro p e s m args below meth c s₁ B hml hv
  obtain ⟨rfl, hsz, hP, hK, hD0, hE⟩ := hv
  have hx := B.exec
  have hb := B.bytes
  have hr := B.returns
  have hts := atoms_spec (ws := vs_k_fromSteps26) B.pre
  have hown : s.vm.findClass RX10 = some m.cls := findClass_of_methodNamed B.named
  have hlocks := B.notSynchronized
  subst hsz
  have hD := hD0.self (sz := s.heap.size)
  generalize hAe : va_A (cW κ σ) s.heap.size = A at hD ⊢
  have hA : ∀ q : Nat, s.heap.size ≤ q → A q := fun q h => by rw [← hAe]; exact Or.inr h
  have hl := lv_entry ([.ref (kA κ 26), .int x, .ref a, .int y, .int z]) (n := 9) (Nat.le_of_ble_eq_true rfl)
  rw [lg_entry_eq]
  generalize (lg_sl ([.ref (kA κ 26), .int x, .ref a, .int y, .int z]) ++ List.replicate (9 - (lg_sl ([.ref (kA κ 26), .int x, .ref a, .int y, .int z])).length) Slot.unset).toArray = ls at hl ⊢
  have hl : lv_has ls 9 [(0, .ref (kA κ 26)), (1, .int x), (2, .ref a), (3, .int y), (4, .int z)] := hl
  have ho := fun w (h : w ∈ ow_k_fromSteps26) => hts w (List.mem_cons_of_mem _ (List.mem_append_left _ h))
  have hin9 : ∀ w ∈ u_ws RX9 TX9 11, w ∈ vs_k_fromSteps26 := fun w h => (List.mem_cons_of_mem _ (List.mem_append_right _ (List.mem_append_right _ (List.mem_append_right _ h))))
  refine zQ (fun Q hQ => ?_)
  refine zH (A := A) (ws := (cW κ σ)) (fun H hP hS => ?_) hP
  have hk0 := hk.1
  have hk1 := hk.2.1
  have hk2 := hk.2.2.1
  refine lv_aload_n hx hb dX10_fromSteps_0 rfl (lv_at hl 0 rfl) ?_
  refine lv_iload_n hx hb dX10_fromSteps_1 rfl (lv_at hl 1 rfl) ?_
  refine lv_aload_n hx hb dX10_fromSteps_2 rfl (lv_at hl 2 rfl) ?_
  have bb1_ := g_a.2.2.1 1 rx_cd17d5a19c rx_be9bb8ec2b
  obtain ⟨kp2_, hkp2_⟩ := cpl (κ := κ) (σ := σ) g_a.1 g_a.2.1
  refine va_get (D := (dC, dI)) (ci := 9) (v := .int (t_a.1 1)) (C := RX9) (T := TX9) (N := 11) hx hb hts hin9 hown hK hP kp2_ hkp2_ rfl 3 (Nat.le_of_ble_eq_true rfl) (ho (.fieldLink RX10 59 "NearEnough$Step" "a" "I") (List.mem_of_getElem? (i := 0) rfl)) (fun _ h9 => h9) rfl dX10_fromSteps_3 ?_
  refine lv_iadd hx hb dX10_fromSteps_6 ?_
  refine lv_topi (fun z3_ ez3_ => ?_)
  have o1 : -2147483648 ≤ x.toInt + (t_a.1 1).toInt := by omega
  have o2 : x.toInt + (t_a.1 1).toInt ≤ 2147483647 := by omega
  have tz3_ : z3_.toInt = x.toInt + (t_a.1 1).toInt := ti_add ez3_ rfl rfl o1 o2
  have o3 : 0 ≤ z3_.toInt := by omega
  have o4 : z3_.toInt < ((492 : Nat) : Int) := by omega
  refine va_lald hx hb hK hP 26 20 rfl rfl (ti_inx o3 o4) dX10_fromSteps_7 ?_
  refine lv_topl (fun y4_ ey4_ => ?_)
  refine lv_lstore (lv' := [(5, .long y4_), (0, .ref (kA κ 26)), (1, .int x), (2, .ref a), (3, .int y), (4, .int z)]) hx hb dX10_fromSteps_8 hl (Nat.le_of_ble_eq_true rfl) rfl (fun ls hl => ?_)
  refine lv_aload_n hx hb dX10_fromSteps_10 rfl (lv_at hl 1 rfl) ?_
  refine lv_iload_n hx hb dX10_fromSteps_11 rfl (lv_at hl 2 rfl) ?_
  refine lv_aload_n hx hb dX10_fromSteps_12 rfl (lv_at hl 3 rfl) ?_
  have bb5_ := g_a.2.2.1 2 rx_c20517e8ed rx_16813831c6
  obtain ⟨kp6_, hkp6_⟩ := cpl (κ := κ) (σ := σ) g_a.1 g_a.2.1
  refine va_get (D := (dC, dI)) (ci := 9) (v := .int (t_a.1 2)) (C := RX9) (T := TX9) (N := 11) hx hb hts hin9 hown hK hP kp6_ hkp6_ rfl 4 (Nat.le_of_ble_eq_true rfl) (ho (.fieldLink RX10 117 "NearEnough$Step" "b" "I") (List.mem_of_getElem? (i := 1) rfl)) (fun _ h9 => h9) rfl dX10_fromSteps_13 ?_
  refine lv_iadd hx hb dX10_fromSteps_16 ?_
  refine lv_topi (fun z7_ ez7_ => ?_)
  have o5 : -2147483648 ≤ x.toInt + (t_a.1 2).toInt := by omega
  have o6 : x.toInt + (t_a.1 2).toInt ≤ 2147483647 := by omega
  have tz7_ : z7_.toInt = x.toInt + (t_a.1 2).toInt := ti_add ez7_ rfl rfl o5 o6
  have o7 : 0 ≤ z7_.toInt := by omega
  have o8 : z7_.toInt < ((492 : Nat) : Int) := by omega
  refine va_lald hx hb hK hP 26 20 rfl rfl (ti_inx o7 o8) dX10_fromSteps_17 ?_
  refine lv_topl (fun y8_ ey8_ => ?_)
  refine lv_lstore (lv' := [(7, .long y8_), (5, .long y4_), (0, .ref (kA κ 26)), (1, .int x), (2, .ref a), (3, .int y), (4, .int z)]) hx hb dX10_fromSteps_18 hl (Nat.le_of_ble_eq_true rfl) rfl (fun ls hl => ?_)
  refine lv_aload_n hx hb dX10_fromSteps_20 rfl (lv_at hl 4 rfl) ?_
  obtain ⟨kp9_, hkp9_⟩ := cpl (κ := κ) (σ := σ) g_a.1 g_a.2.1
  refine va_get (D := (dC, dI)) (ci := 9) (v := .int (t_a.1 0)) (C := RX9) (T := TX9) (N := 11) hx hb hts hin9 hown hK hP kp9_ hkp9_ rfl 0 (Nat.le_of_ble_eq_true rfl) (ho (.fieldLink RX10 55 "NearEnough$Step" "kind" "I") (List.mem_of_getElem? (i := 2) rfl)) (fun _ h9 => h9) rfl dX10_fromSteps_21 ?_
  by_cases c_lo : (t_a.1 0).toInt < 2
  · refine lv_tableOut (tgt := 81) hx hb dX10_fromSteps_24 (Or.inl c_lo) rfl ?_
    refine lv_iload_n hx hb dX10_fromSteps_81 rfl (lv_at hl 5 rfl) ?_
    refine lv_iconst (v := 2) hx hb dX10_fromSteps_82 rg_19 ?_
    refine lv_icmp_ne (tgt := 99) hx hb dX10_fromSteps_83 rfl (fun c10_ => ?_) (fun c10_ => ?_)
    · have tc10_ := (show y.toInt ≠ 2 from ti_ne rfl rg_20 c10_)
      refine lv_aload_n hx hb dX10_fromSteps_99 rfl (lv_at hl 2 rfl) ?_
      refine lv_iload_n hx hb dX10_fromSteps_100 rfl (lv_at hl 3 rfl) ?_
      refine lv_aload_n hx hb dX10_fromSteps_101 rfl (lv_at hl 4 rfl) ?_
      have bb11_ := g_a.2.2.1 3 rx_0bd1d6dfed rx_7960e1f0c9
      obtain ⟨kp12_, hkp12_⟩ := cpl (κ := κ) (σ := σ) g_a.1 g_a.2.1
      refine va_get (D := (dC, dI)) (ci := 9) (v := .int (t_a.1 3)) (C := RX9) (T := TX9) (N := 11) hx hb hts hin9 hown hK hP kp12_ hkp12_ rfl 5 (Nat.le_of_ble_eq_true rfl) (ho (.fieldLink RX10 124 "NearEnough$Step" "under" "I") (List.mem_of_getElem? (i := 3) rfl)) (fun _ h9 => h9) rfl dX10_fromSteps_102 ?_
      refine lv_iadd hx hb dX10_fromSteps_105 ?_
      refine lv_topi (fun z13_ ez13_ => ?_)
      have o9 : -2147483648 ≤ x.toInt + (t_a.1 3).toInt := by omega
      have o10 : x.toInt + (t_a.1 3).toInt ≤ 2147483647 := by omega
      have tz13_ : z13_.toInt = x.toInt + (t_a.1 3).toInt := ti_add ez13_ rfl rfl o9 o10
      have o11 : 0 ≤ z13_.toInt := by omega
      have o12 : z13_.toInt < ((492 : Nat) : Int) := by omega
      refine va_lald hx hb hK hP 26 20 rfl rfl (ti_inx o11 o12) dX10_fromSteps_106 ?_
      refine lv_topl (fun y14_ ey14_ => ?_)
      refine lv_aload_n hx hb dX10_fromSteps_107 rfl (lv_at hl 2 rfl) ?_
      refine lv_iload_n hx hb dX10_fromSteps_108 rfl (lv_at hl 3 rfl) ?_
      refine lv_aload_n hx hb dX10_fromSteps_109 rfl (lv_at hl 4 rfl) ?_
      have bb15_ := g_a.2.2.1 4 rx_be9bb8ec2b rx_e6c5051dfc
      obtain ⟨kp16_, hkp16_⟩ := cpl (κ := κ) (σ := σ) g_a.1 g_a.2.1
      refine va_get (D := (dC, dI)) (ci := 9) (v := .int (t_a.1 4)) (C := RX9) (T := TX9) (N := 11) hx hb hts hin9 hown hK hP kp16_ hkp16_ rfl 6 (Nat.le_of_ble_eq_true rfl) (ho (.fieldLink RX10 127 "NearEnough$Step" "other" "I") (List.mem_of_getElem? (i := 4) rfl)) (fun _ h9 => h9) rfl dX10_fromSteps_110 ?_
      refine lv_iadd hx hb dX10_fromSteps_113 ?_
      refine lv_topi (fun z17_ ez17_ => ?_)
      have o13 : -2147483648 ≤ x.toInt + (t_a.1 4).toInt := by omega
      have o14 : x.toInt + (t_a.1 4).toInt ≤ 2147483647 := by omega
      have tz17_ : z17_.toInt = x.toInt + (t_a.1 4).toInt := ti_add ez17_ rfl rfl o13 o14
      have o15 : 0 ≤ z17_.toInt := by omega
      have o16 : z17_.toInt < ((492 : Nat) : Int) := by omega
      refine va_lald hx hb hK hP 26 20 rfl rfl (ti_inx o15 o16) dX10_fromSteps_114 ?_
      refine lv_topl (fun y18_ ey18_ => ?_)
      refine W.lcmp hx hb dX10_fromSteps_115 ?_
      refine lv_topi (fun z19_ ez19_ => ?_)
      refine lv_if_ge (tgt := 124) hx hb dX10_fromSteps_116 rfl (fun c20_ => ?_) (fun c20_ => ?_)
      · have tc20_ := (show 0 ≤ z19_.toInt from ti_le rg_11 rfl c20_)
        have lc20_ : y18_ ≤ y14_ := (lg_cmp_ge y14_ y18_).mp (by rw [← ez19_]; exact c20_)
        refine lv_lload hx hb dX10_fromSteps_124 (lv_at hl 0 rfl) ?_
        rw [hQ]
        exact W.lret (v := y8_) hx hb hr (fun t ht hW => ⟨⟨y8_, σ, rfl, ⟨rfl, trivial⟩, wEn_of hP (hK.sub [] rfl) hD ht hW⟩, hS.F ht⟩) hS.2.2 dX10_fromSteps_126
      · have tc20_ := (show z19_.toInt < 0 from ti_nle rg_11 rfl c20_)
        have lc20_ : ¬ y18_ ≤ y14_ := fun h => c20_ (by rw [ez19_]; exact (lg_cmp_ge y14_ y18_).mpr h)
        refine lv_lload hx hb dX10_fromSteps_119 (lv_at hl 1 rfl) ?_
        refine lv_goto (tgt := 126) hx hb dX10_fromSteps_121 rfl ?_
        rw [hQ]
        exact W.lret (v := y4_) hx hb hr (fun t ht hW => ⟨⟨y4_, σ, rfl, ⟨rfl, trivial⟩, wEn_of hP (hK.sub [] rfl) hD ht hW⟩, hS.F ht⟩) hS.2.2 dX10_fromSteps_126
    · have tc10_ := (show y.toInt = 2 from ti_eq rfl rg_20 c10_)
      refine lv_iload hx hb dX10_fromSteps_86 (lv_at hl 6 rfl) ?_
      refine lv_if_ne (tgt := 96) hx hb dX10_fromSteps_88 rfl (fun c21_ => ?_) (fun c21_ => ?_)
      · have tc21_ := (show z.toInt ≠ 0 from ti_ne rfl rg_11 c21_)
        refine lv_lload hx hb dX10_fromSteps_96 (lv_at hl 0 rfl) ?_
        rw [hQ]
        exact W.lret (v := y8_) hx hb hr (fun t ht hW => ⟨⟨y8_, σ, rfl, ⟨rfl, trivial⟩, wEn_of hP (hK.sub [] rfl) hD ht hW⟩, hS.F ht⟩) hS.2.2 dX10_fromSteps_98
      · have tc21_ := (show z.toInt = 0 from ti_eq rfl rg_11 c21_)
        refine lv_lload hx hb dX10_fromSteps_91 (lv_at hl 1 rfl) ?_
        refine lv_goto (tgt := 98) hx hb dX10_fromSteps_93 rfl ?_
        rw [hQ]
        exact W.lret (v := y4_) hx hb hr (fun t ht hW => ⟨⟨y4_, σ, rfl, ⟨rfl, trivial⟩, wEn_of hP (hK.sub [] rfl) hD ht hW⟩, hS.F ht⟩) hS.2.2 dX10_fromSteps_98
  · by_cases c_hi : 5 < (t_a.1 0).toInt
    · refine lv_tableOut (tgt := 81) hx hb dX10_fromSteps_24 (Or.inr c_hi) rfl ?_
      refine lv_iload_n hx hb dX10_fromSteps_81 rfl (lv_at hl 5 rfl) ?_
      refine lv_iconst (v := 2) hx hb dX10_fromSteps_82 rg_19 ?_
      refine lv_icmp_ne (tgt := 99) hx hb dX10_fromSteps_83 rfl (fun c22_ => ?_) (fun c22_ => ?_)
      · have tc22_ := (show y.toInt ≠ 2 from ti_ne rfl rg_20 c22_)
        refine lv_aload_n hx hb dX10_fromSteps_99 rfl (lv_at hl 2 rfl) ?_
        refine lv_iload_n hx hb dX10_fromSteps_100 rfl (lv_at hl 3 rfl) ?_
        refine lv_aload_n hx hb dX10_fromSteps_101 rfl (lv_at hl 4 rfl) ?_
        have bb23_ := g_a.2.2.1 3 rx_0bd1d6dfed rx_7960e1f0c9
        obtain ⟨kp24_, hkp24_⟩ := cpl (κ := κ) (σ := σ) g_a.1 g_a.2.1
        refine va_get (D := (dC, dI)) (ci := 9) (v := .int (t_a.1 3)) (C := RX9) (T := TX9) (N := 11) hx hb hts hin9 hown hK hP kp24_ hkp24_ rfl 5 (Nat.le_of_ble_eq_true rfl) (ho (.fieldLink RX10 124 "NearEnough$Step" "under" "I") (List.mem_of_getElem? (i := 3) rfl)) (fun _ h9 => h9) rfl dX10_fromSteps_102 ?_
        refine lv_iadd hx hb dX10_fromSteps_105 ?_
        refine lv_topi (fun z25_ ez25_ => ?_)
        have o17 : -2147483648 ≤ x.toInt + (t_a.1 3).toInt := by omega
        have o18 : x.toInt + (t_a.1 3).toInt ≤ 2147483647 := by omega
        have tz25_ : z25_.toInt = x.toInt + (t_a.1 3).toInt := ti_add ez25_ rfl rfl o17 o18
        have o19 : 0 ≤ z25_.toInt := by omega
        have o20 : z25_.toInt < ((492 : Nat) : Int) := by omega
        refine va_lald hx hb hK hP 26 20 rfl rfl (ti_inx o19 o20) dX10_fromSteps_106 ?_
        refine lv_topl (fun y26_ ey26_ => ?_)
        refine lv_aload_n hx hb dX10_fromSteps_107 rfl (lv_at hl 2 rfl) ?_
        refine lv_iload_n hx hb dX10_fromSteps_108 rfl (lv_at hl 3 rfl) ?_
        refine lv_aload_n hx hb dX10_fromSteps_109 rfl (lv_at hl 4 rfl) ?_
        have bb27_ := g_a.2.2.1 4 rx_be9bb8ec2b rx_e6c5051dfc
        obtain ⟨kp28_, hkp28_⟩ := cpl (κ := κ) (σ := σ) g_a.1 g_a.2.1
        refine va_get (D := (dC, dI)) (ci := 9) (v := .int (t_a.1 4)) (C := RX9) (T := TX9) (N := 11) hx hb hts hin9 hown hK hP kp28_ hkp28_ rfl 6 (Nat.le_of_ble_eq_true rfl) (ho (.fieldLink RX10 127 "NearEnough$Step" "other" "I") (List.mem_of_getElem? (i := 4) rfl)) (fun _ h9 => h9) rfl dX10_fromSteps_110 ?_
        refine lv_iadd hx hb dX10_fromSteps_113 ?_
        refine lv_topi (fun z29_ ez29_ => ?_)
        have o21 : -2147483648 ≤ x.toInt + (t_a.1 4).toInt := by omega
        have o22 : x.toInt + (t_a.1 4).toInt ≤ 2147483647 := by omega
        have tz29_ : z29_.toInt = x.toInt + (t_a.1 4).toInt := ti_add ez29_ rfl rfl o21 o22
        have o23 : 0 ≤ z29_.toInt := by omega
        have o24 : z29_.toInt < ((492 : Nat) : Int) := by omega
        refine va_lald hx hb hK hP 26 20 rfl rfl (ti_inx o23 o24) dX10_fromSteps_114 ?_
        refine lv_topl (fun y30_ ey30_ => ?_)
        refine W.lcmp hx hb dX10_fromSteps_115 ?_
        refine lv_topi (fun z31_ ez31_ => ?_)
        refine lv_if_ge (tgt := 124) hx hb dX10_fromSteps_116 rfl (fun c32_ => ?_) (fun c32_ => ?_)
        · have tc32_ := (show 0 ≤ z31_.toInt from ti_le rg_11 rfl c32_)
          have lc32_ : y30_ ≤ y26_ := (lg_cmp_ge y26_ y30_).mp (by rw [← ez31_]; exact c32_)
          refine lv_lload hx hb dX10_fromSteps_124 (lv_at hl 0 rfl) ?_
          rw [hQ]
          exact W.lret (v := y8_) hx hb hr (fun t ht hW => ⟨⟨y8_, σ, rfl, ⟨rfl, trivial⟩, wEn_of hP (hK.sub [] rfl) hD ht hW⟩, hS.F ht⟩) hS.2.2 dX10_fromSteps_126
        · have tc32_ := (show z31_.toInt < 0 from ti_nle rg_11 rfl c32_)
          have lc32_ : ¬ y30_ ≤ y26_ := fun h => c32_ (by rw [ez31_]; exact (lg_cmp_ge y26_ y30_).mpr h)
          refine lv_lload hx hb dX10_fromSteps_119 (lv_at hl 1 rfl) ?_
          refine lv_goto (tgt := 126) hx hb dX10_fromSteps_121 rfl ?_
          rw [hQ]
          exact W.lret (v := y4_) hx hb hr (fun t ht hW => ⟨⟨y4_, σ, rfl, ⟨rfl, trivial⟩, wEn_of hP (hK.sub [] rfl) hD ht hW⟩, hS.F ht⟩) hS.2.2 dX10_fromSteps_126
      · have tc22_ := (show y.toInt = 2 from ti_eq rfl rg_20 c22_)
        refine lv_iload hx hb dX10_fromSteps_86 (lv_at hl 6 rfl) ?_
        refine lv_if_ne (tgt := 96) hx hb dX10_fromSteps_88 rfl (fun c33_ => ?_) (fun c33_ => ?_)
        · have tc33_ := (show z.toInt ≠ 0 from ti_ne rfl rg_11 c33_)
          refine lv_lload hx hb dX10_fromSteps_96 (lv_at hl 0 rfl) ?_
          rw [hQ]
          exact W.lret (v := y8_) hx hb hr (fun t ht hW => ⟨⟨y8_, σ, rfl, ⟨rfl, trivial⟩, wEn_of hP (hK.sub [] rfl) hD ht hW⟩, hS.F ht⟩) hS.2.2 dX10_fromSteps_98
        · have tc33_ := (show z.toInt = 0 from ti_eq rfl rg_11 c33_)
          refine lv_lload hx hb dX10_fromSteps_91 (lv_at hl 1 rfl) ?_
          refine lv_goto (tgt := 98) hx hb dX10_fromSteps_93 rfl ?_
          rw [hQ]
          exact W.lret (v := y4_) hx hb hr (fun t ht hW => ⟨⟨y4_, σ, rfl, ⟨rfl, trivial⟩, wEn_of hP (hK.sub [] rfl) hD ht hW⟩, hS.F ht⟩) hS.2.2 dX10_fromSteps_98
    · rcases (show (t_a.1 0).toInt = 2 ∨ (t_a.1 0).toInt = 3 ∨ (t_a.1 0).toInt = 4 ∨ (t_a.1 0).toInt = 5 by omega) with t_sw | t_sw | t_sw | t_sw
      · refine lv_tableIn (tgt := 56) (off := 32) hx hb dX10_fromSteps_24 (by rw [t_sw]; decide) (by rw [t_sw]; decide) (by rw [t_sw]; decide) (by decide) ?_
        refine lv_lload hx hb dX10_fromSteps_56 (lv_at hl 1 rfl) ?_
        refine lv_lload hx hb dX10_fromSteps_58 (lv_at hl 0 rfl) ?_
        refine lv_ladd hx hb dX10_fromSteps_60 ?_
        refine lv_topl (fun y34_ ey34_ => ?_)
        rw [hQ]
        exact W.lret (v := y34_) hx hb hr (fun t ht hW => ⟨⟨y34_, σ, rfl, ⟨rfl, trivial⟩, wEn_of hP (hK.sub [] rfl) hD ht hW⟩, hS.F ht⟩) hS.2.2 dX10_fromSteps_61
      · refine lv_tableIn (tgt := 62) (off := 38) hx hb dX10_fromSteps_24 (by rw [t_sw]; decide) (by rw [t_sw]; decide) (by rw [t_sw]; decide) (by decide) ?_
        refine lv_lload hx hb dX10_fromSteps_62 (lv_at hl 1 rfl) ?_
        refine lv_lload hx hb dX10_fromSteps_64 (lv_at hl 0 rfl) ?_
        refine lv_lsub hx hb dX10_fromSteps_66 ?_
        refine lv_topl (fun y35_ ey35_ => ?_)
        rw [hQ]
        exact W.lret (v := y35_) hx hb hr (fun t ht hW => ⟨⟨y35_, σ, rfl, ⟨rfl, trivial⟩, wEn_of hP (hK.sub [] rfl) hD ht hW⟩, hS.F ht⟩) hS.2.2 dX10_fromSteps_67
      · refine lv_tableIn (tgt := 68) (off := 44) hx hb dX10_fromSteps_24 (by rw [t_sw]; decide) (by rw [t_sw]; decide) (by rw [t_sw]; decide) (by decide) ?_
        refine lv_lload hx hb dX10_fromSteps_68 (lv_at hl 1 rfl) ?_
        refine lv_lload hx hb dX10_fromSteps_70 (lv_at hl 0 rfl) ?_
        refine lv_lmul hx hb dX10_fromSteps_72 ?_
        refine lv_topl (fun y36_ ey36_ => ?_)
        rw [hQ]
        exact W.lret (v := y36_) hx hb hr (fun t ht hW => ⟨⟨y36_, σ, rfl, ⟨rfl, trivial⟩, wEn_of hP (hK.sub [] rfl) hD ht hW⟩, hS.F ht⟩) hS.2.2 dX10_fromSteps_73
      · refine lv_tableIn (tgt := 74) (off := 50) hx hb dX10_fromSteps_24 (by rw [t_sw]; decide) (by rw [t_sw]; decide) (by rw [t_sw]; decide) (by decide) ?_
        refine lv_aload_n hx hb dX10_fromSteps_74 rfl (lv_at hl 4 rfl) ?_
        refine lv_lload hx hb dX10_fromSteps_75 (lv_at hl 1 rfl) ?_
        obtain ⟨kp38_, hkp38_⟩ := cpl (κ := κ) (σ := σ) g_a.1 g_a.2.1
        refine zy_l (va_runV (As := [.long y4_]) (rest := []) ⟨hx, hb, hml, hown, hts⟩ (k_scaled l dC dI κ H.size σ a t_a g_a y4_ hk hI ) (cwV 1 hts gd_k_fromSteps26_120_k_scaled rfl rfl rfl dd_k_scaled ⟨Nat.le_of_ble_eq_true rfl, Nat.le_of_ble_eq_true rfl⟩) (preVy hP hK hD hE (ci := 9) (q0 := kp38_) rfl hkp38_) rfl rfl hl.1 rfl (lv_room (Nat.le_of_ble_eq_true rfl)) dX10_fromSteps_77 ⟨Nat.le_of_ble_eq_true rfl, Nat.le_of_ble_eq_true rfl⟩) hD hS hA (fun y37_ τ39_ H locs hq hP hD hS => ?_)
        obtain ⟨hτ39_, q40_⟩ := hq
        rw [hτ39_] at hP hD
        refine W.widen (k := 0) (n := 0) (Nat.le_of_ble_eq_true rfl) (Nat.le_of_ble_eq_true rfl) ?_
        rw [hQ]
        exact W.lret (v := y37_) hx hb hr (fun t ht hW => ⟨⟨y37_, σ, rfl, ⟨rfl, trivial⟩, wEn_of hP (hK.sub [] rfl) hD ht hW⟩, hS.F ht⟩) hS.2.2 dX10_fromSteps_80
def ow_k_fromPlace : List Cond := [.fieldLink RX10 66 "NearEnough$Step" "row" "LNearEnough$Row;", .fieldLink RX10 79 "NearEnough$Row" "count" "I", .fieldLink RX10 88 "NearEnough$Row" "first" "I", .fieldLink RX10 22 "NearEnough$Worker" "sheets" "LNearEnough$Sheets;", .fieldLink RX10 91 "NearEnough$Sheets" "numbers" "[I", .initialized RX11, .static yX11_floored]
def vs_k_fromPlace : List Cond := .code yX10_fromPlace cX10_fromPlace 10 (some .long) :: (ow_k_fromPlace ++ (([.methodLink RX10 84 yX10_sourceOf, .static yX10_sourceOf, .initialized yX10_sourceOf.cls] : List Cond) ++ (vs_k_sourceOf ++ (([.methodLink RX10 95 yJ9_floorMod_f86c9, .static yJ9_floorMod_f86c9, .initialized yJ9_floorMod_f86c9.cls] : List Cond) ++ (vs_k_floorMod ++ (vs_k_floored ++ (wsX50 ++ (wsX70 ++ (wsX90 ++ (wsX100))))))))))
theorem vg_k_fromPlace : vs_k_fromPlace.all goodWord = true := by decide +kernel
theorem dd_k_fromPlace : yX10_fromPlace.cls = RX10 ∧ yX10_fromPlace.cls ≠ "java/lang/invoke/MethodHandle" ∧ yX10_fromPlace.cls ≠ "java/lang/invoke/VarHandle" ∧ (parseMethodDescriptor yX10_fromPlace.desc).map (fun d => d.parameters.length) = some 5 := by decide +kernel
def rm_k_fromPlace : Room := { frames := 2, cells := 0, slots := 0, locals := 47 }
theorem gd_k_fromPlace_84_k_sourceOf : GoodIn vs_k_fromPlace (va_wsS RX10 84 yX10_sourceOf vs_k_sourceOf) := goodIn_app (goodIn_sub (fun w h => (List.mem_cons_of_mem _ (List.mem_append_right _ (List.mem_append_left _ h)))) (by decide +kernel)) (goodIn_sub (fun w h => (List.mem_cons_of_mem _ (List.mem_append_right _ (List.mem_append_right _ (List.mem_append_left _ h))))) vg_k_sourceOf)
theorem gd_k_fromPlace_95_k_floorMod : GoodIn vs_k_fromPlace (va_wsS RX10 95 yJ9_floorMod_f86c9 vs_k_floorMod) := goodIn_app (goodIn_sub (fun w h => (List.mem_cons_of_mem _ (List.mem_append_right _ (List.mem_append_right _ (List.mem_append_right _ (List.mem_append_left _ h)))))) (by decide +kernel)) (goodIn_sub (fun w h => (List.mem_cons_of_mem _ (List.mem_append_right _ (List.mem_append_right _ (List.mem_append_right _ (List.mem_append_right _ (List.mem_append_left _ h))))))) vg_k_floorMod)
theorem gd_k_fromPlace_101_k_floored : GoodIn vs_k_fromPlace (vs_k_floored) := (goodIn_sub (fun w h => (List.mem_cons_of_mem _ (List.mem_append_right _ (List.mem_append_right _ (List.mem_append_right _ (List.mem_append_right _ (List.mem_append_right _ (List.mem_append_left _ h)))))))) vg_k_floored)
set_option maxHeartbeats 4000000 in
set_option maxRecDepth 100000 in
theorem k_fromPlace (l : Launch) (dC : Nat → ClassId) (dI : Nat → Nat → Nat) (κ : CE) (sz : Nat) (σ : MS) (a : Nat) (t_a : TT) (g_a : IsStep κ a t_a) (v : Int64) (x : Int32) (y : Int32) (z : Int32) (hk : PInv κ) (hI : CInv σ) (hx0 : 0 ≤ x.toInt ∧ x.toInt ≤ 40) : Met l yX10_fromPlace vs_k_fromPlace rm_k_fromPlace (va_Pc [.ref (kA κ 24), .ref a, .long v, .int x, .int y, .int z] (wSy dC dI (cW κ σ) (cT κ) sz)) (va_Ql (fun (r : Int64) (τ : MS) => τ = σ ∧ True) (fun (τ : MS) => wEn dC dI (va_A (cW κ σ) sz) (cW κ τ) []) (va_A (cW κ σ) sz)) 0 0 (va_A (cW κ σ) sz) := by
  refine Met.ofW (cc := cX10_fromPlace) (maxL := 10) (ret := (some .long)) (by decide +kernel) rfl ?_
  intro p e s m args below meth c s₁ B hml hv
  obtain ⟨rfl, hsz, hP, hK, hD0, hE⟩ := hv
  have hx := B.exec
  have hb := B.bytes
  have hr := B.returns
  have hts := atoms_spec (ws := vs_k_fromPlace) B.pre
  have hown : s.vm.findClass RX10 = some m.cls := findClass_of_methodNamed B.named
  have hlocks := B.notSynchronized
  subst hsz
  have hD := hD0.self (sz := s.heap.size)
  generalize hAe : va_A (cW κ σ) s.heap.size = A at hD ⊢
  have hA : ∀ q : Nat, s.heap.size ≤ q → A q := fun q h => by rw [← hAe]; exact Or.inr h
  have hl := lv_entry ([.ref (kA κ 24), .ref a, .long v, .int x, .int y, .int z]) (n := 10) (Nat.le_of_ble_eq_true rfl)
  rw [lg_entry_eq]
  generalize (lg_sl ([.ref (kA κ 24), .ref a, .long v, .int x, .int y, .int z]) ++ List.replicate (10 - (lg_sl ([.ref (kA κ 24), .ref a, .long v, .int x, .int y, .int z])).length) Slot.unset).toArray = ls at hl ⊢
  have hl : lv_has ls 10 [(0, .ref (kA κ 24)), (1, .ref a), (2, .long v), (4, .int x), (5, .int y), (6, .int z)] := hl
  have ho := fun w (h : w ∈ ow_k_fromPlace) => hts w (List.mem_cons_of_mem _ (List.mem_append_left _ h))
  have hin5 : ∀ w ∈ u_ws RX5 TX5 5, w ∈ vs_k_fromPlace := fun w h => (List.mem_cons_of_mem _ (List.mem_append_right _ (List.mem_append_right _ (List.mem_append_right _ (List.mem_append_right _ (List.mem_append_right _ (List.mem_append_right _ (List.mem_append_left _ h))))))))
  have hin7 : ∀ w ∈ u_ws RX7 TX7 3, w ∈ vs_k_fromPlace := fun w h => (List.mem_cons_of_mem _ (List.mem_append_right _ (List.mem_append_right _ (List.mem_append_right _ (List.mem_append_right _ (List.mem_append_right _ (List.mem_append_right _ (List.mem_append_right _ (List.mem_append_left _ h)))))))))
  have hin9 : ∀ w ∈ u_ws RX9 TX9 11, w ∈ vs_k_fromPlace := fun w h => (List.mem_cons_of_mem _ (List.mem_append_right _ (List.mem_append_right _ (List.mem_append_right _ (List.mem_append_right _ (List.mem_append_right _ (List.mem_append_right _ (List.mem_append_right _ (List.mem_append_right _ (List.mem_append_left _ h))))))))))
  have hin10 : ∀ w ∈ u_ws RX10 TX10 5, w ∈ vs_k_fromPlace := fun w h => (List.mem_cons_of_mem _ (List.mem_append_right _ (List.mem_append_right _ (List.mem_append_right _ (List.mem_append_right _ (List.mem_append_right _ (List.mem_append_right _ (List.mem_append_right _ (List.mem_append_right _ (List.mem_append_right _ h))))))))))
  refine zQ (fun Q hQ => ?_)
  refine zH (A := A) (ws := (cW κ σ)) (fun H hP hS => ?_) hP
  have hk0 := hk.1
  have hk1 := hk.2.1
  have hk2 := hk.2.2.1
  refine lv_aload_n hx hb dX10_fromPlace_0 rfl (lv_at hl 1 rfl) ?_
  obtain ⟨kp1_, hkp1_⟩ := cpl (κ := κ) (σ := σ) g_a.1 g_a.2.1
  refine va_get (D := (dC, dI)) (ci := 9) (v := va_rf t_a.2.2) (C := RX9) (T := TX9) (N := 11) hx hb hts hin9 hown hK hP kp1_ hkp1_ rfl 2 (Nat.le_of_ble_eq_true rfl) (ho (.fieldLink RX10 66 "NearEnough$Step" "row" "LNearEnough$Row;") (List.mem_of_getElem? (i := 0) rfl)) (fun _ h9 => h9) rfl dX10_fromPlace_1 ?_
  rcases er3_ : t_a.2.2 with _ | r2_
  · refine zv (v := .null) rfl ?_
    have na := er3_
    refine lv_astoreN (lv' := [(7, .null), (0, .ref (kA κ 24)), (1, .ref a), (2, .long v), (4, .int x), (5, .int y), (6, .int z)]) hx hb dX10_fromPlace_4 hl (Nat.le_of_ble_eq_true rfl) rfl (fun ls hl => ?_)
    refine lv_aloadN hx hb dX10_fromPlace_6 (lv_at hl 0 rfl) ?_
    refine lv_ifnullN (tgt := 19) hx hb dX10_fromPlace_8 rfl ?_
    refine lv_lconst (v := 0) hx hb dX10_fromPlace_19 (by decide) ?_
    rw [hQ]
    exact W.lret (v := 0) hx hb hr (fun t ht hW => ⟨⟨0, σ, rfl, ⟨rfl, trivial⟩, wEn_of hP (hK.sub [] rfl) hD ht hW⟩, hS.F ht⟩) hS.2.2 dX10_fromPlace_20
  · refine zv (v := .ref r2_) rfl ?_
    obtain ⟨u4_, gu4_⟩ := g_a.2.2.2 r2_ er3_
    refine lv_astore (lv' := [(7, .ref r2_), (0, .ref (kA κ 24)), (1, .ref a), (2, .long v), (4, .int x), (5, .int y), (6, .int z)]) hx hb dX10_fromPlace_4 hl (Nat.le_of_ble_eq_true rfl) rfl (fun ls hl => ?_)
    refine lv_aload hx hb dX10_fromPlace_6 (lv_at hl 0 rfl) ?_
    refine lv_ifnull hx hb dX10_fromPlace_8 ?_
    refine lv_aload hx hb dX10_fromPlace_11 (lv_at hl 0 rfl) ?_
    have bb5_ : 1 ≤ (u4_.1 0).toInt ∧ (u4_.1 0).toInt ≤ 6 ∧ 0 ≤ (u4_.1 3).toInt ∧ (u4_.1 3).toInt + (u4_.1 0).toInt ≤ 12 := gu4_.2.2
    obtain ⟨kp6_, hkp6_⟩ := cpl (κ := κ) (σ := σ) gu4_.1 gu4_.2.1
    refine va_get (D := (dC, dI)) (ci := 5) (v := .int (u4_.1 0)) (C := RX5) (T := TX5) (N := 5) hx hb hts hin5 hown hK hP kp6_ hkp6_ rfl 1 (Nat.le_of_ble_eq_true rfl) (ho (.fieldLink RX10 79 "NearEnough$Row" "count" "I") (List.mem_of_getElem? (i := 1) rfl)) (fun _ h9 => h9) rfl dX10_fromPlace_13 ?_
    refine lv_if_gt (tgt := 21) hx hb dX10_fromPlace_16 rfl (fun c7_ => ?_) (fun c7_ => ?_)
    · have tc7_ := (show 0 < (u4_.1 0).toInt from ti_lt rg_11 rfl c7_)
      refine lv_iload hx hb dX10_fromPlace_21 (lv_at hl 4 rfl) ?_
      refine lv_iload hx hb dX10_fromPlace_23 (lv_at hl 5 rfl) ?_
      have o1 : 0 ≤ x.toInt := by omega
      have o2 : x.toInt ≤ 40 := by omega
      refine zs_i (va_runS (As := [.int x, .int y]) (rest := []) ⟨hx, hb, hml, hown, hts⟩ (k_sourceOf l dC dI x y ⟨o1, o2⟩ H.size) (va_cwS 2 hts gd_k_fromPlace_84_k_sourceOf rfl rfl rfl dd_k_sourceOf ⟨Nat.le_of_ble_eq_true rfl, Nat.le_of_ble_eq_true rfl⟩) (preS (A := A) empP (hK.sub (tys' := []) [] rfl) empD hE.x) rfl rfl hl.1 rfl (lv_room (Nat.le_of_ble_eq_true rfl)) dX10_fromPlace_25 ⟨Nat.le_of_ble_eq_true rfl, Nat.le_of_ble_eq_true rfl⟩) hP hD hS hA (fun z8_ H locs hq hP hD hS => ?_)
      have q9_ : 0 ≤ z8_.toInt ∧ z8_.toInt ≤ 40 := hq
      refine W.widen (k := 0) (n := 0) (Nat.le_of_ble_eq_true rfl) (Nat.le_of_ble_eq_true rfl) ?_
      refine lv_bipush (v := 12) hx hb dX10_fromPlace_28 rg_57 ?_
      refine lv_imul hx hb dX10_fromPlace_30 ?_
      refine lv_topi (fun z10_ ez10_ => ?_)
      have o3 : -2147483648 ≤ z8_.toInt * 12 := by omega
      have o4 : z8_.toInt * 12 ≤ 2147483647 := by omega
      have tz10_ : z10_.toInt = z8_.toInt * 12 := ti_mul ez10_ rfl rg_58 o3 o4
      refine lv_aload hx hb dX10_fromPlace_31 (lv_at hl 0 rfl) ?_
      have bb11_ : 1 ≤ (u4_.1 0).toInt ∧ (u4_.1 0).toInt ≤ 6 ∧ 0 ≤ (u4_.1 3).toInt ∧ (u4_.1 3).toInt + (u4_.1 0).toInt ≤ 12 := gu4_.2.2
      obtain ⟨kp12_, hkp12_⟩ := cpl (κ := κ) (σ := σ) gu4_.1 gu4_.2.1
      refine va_get (D := (dC, dI)) (ci := 5) (v := .int (u4_.1 3)) (C := RX5) (T := TX5) (N := 5) hx hb hts hin5 hown hK hP kp12_ hkp12_ rfl 4 (Nat.le_of_ble_eq_true rfl) (ho (.fieldLink RX10 88 "NearEnough$Row" "first" "I") (List.mem_of_getElem? (i := 2) rfl)) (fun _ h9 => h9) rfl dX10_fromPlace_33 ?_
      refine lv_iadd hx hb dX10_fromPlace_36 ?_
      refine lv_topi (fun z13_ ez13_ => ?_)
      have o5 : -2147483648 ≤ z10_.toInt + (u4_.1 3).toInt := by omega
      have o6 : z10_.toInt + (u4_.1 3).toInt ≤ 2147483647 := by omega
      have tz13_ : z13_.toInt = z10_.toInt + (u4_.1 3).toInt := ti_add ez13_ rfl rfl o5 o6
      refine lv_istore (lv' := [(8, .int z13_), (7, .ref r2_), (0, .ref (kA κ 24)), (1, .ref a), (2, .long v), (4, .int x), (5, .int y), (6, .int z)]) hx hb dX10_fromPlace_37 hl (Nat.le_of_ble_eq_true rfl) rfl (fun ls hl => ?_)
      refine lv_aload_n hx hb dX10_fromPlace_39 rfl (lv_at hl 2 rfl) ?_
      refine va_get (D := (dC, dI)) (ci := 10) (v := .ref (kA κ 12)) (C := RX10) (T := TX10) (N := 5) hx hb hts hin10 hown hK hP 24 rfl rfl 1 (Nat.le_of_ble_eq_true rfl) (ho (.fieldLink RX10 22 "NearEnough$Worker" "sheets" "LNearEnough$Sheets;") (List.mem_of_getElem? (i := 3) rfl)) (fun _ h9 => h9) rfl dX10_fromPlace_40 ?_
      refine va_get (D := (dC, dI)) (ci := 7) (v := .ref (kA κ 13)) (C := RX7) (T := TX7) (N := 3) hx hb hts hin7 hown hK hP 12 rfl rfl 0 (Nat.le_of_ble_eq_true rfl) (ho (.fieldLink RX10 91 "NearEnough$Sheets" "numbers" "[I") (List.mem_of_getElem? (i := 4) rfl)) (fun _ h9 => h9) rfl dX10_fromPlace_43 ?_
      refine lv_iload hx hb dX10_fromPlace_46 (lv_at hl 0 rfl) ?_
      refine lv_lload_n hx hb dX10_fromPlace_48 rfl (lv_at hl 4 rfl) ?_
      refine lv_aload hx hb dX10_fromPlace_49 (lv_at hl 1 rfl) ?_
      have bb14_ : 1 ≤ (u4_.1 0).toInt ∧ (u4_.1 0).toInt ≤ 6 ∧ 0 ≤ (u4_.1 3).toInt ∧ (u4_.1 3).toInt + (u4_.1 0).toInt ≤ 12 := gu4_.2.2
      obtain ⟨kp15_, hkp15_⟩ := cpl (κ := κ) (σ := σ) gu4_.1 gu4_.2.1
      refine va_get (D := (dC, dI)) (ci := 5) (v := .int (u4_.1 0)) (C := RX5) (T := TX5) (N := 5) hx hb hts hin5 hown hK hP kp15_ hkp15_ rfl 1 (Nat.le_of_ble_eq_true rfl) (ho (.fieldLink RX10 79 "NearEnough$Row" "count" "I") (List.mem_of_getElem? (i := 1) rfl)) (fun _ h9 => h9) rfl dX10_fromPlace_51 ?_
      refine lv_i2l hx hb dX10_fromPlace_54 rfl ?_
      refine lv_topl (fun y16_ ey16_ => ?_)
      have ty16_ := i2l_val ey16_
      have o7 : 1 ≤ y16_.toInt := by omega
      have o8 : y16_.toInt ≤ 6 := by omega
      refine zs_l (va_runS (As := [.long v, .long y16_]) (rest := [.int z13_, .ref (kA κ 13)]) ⟨hx, hb, hml, hown, hts⟩ (k_floorMod l dC dI v y16_ ⟨o7, o8⟩ H.size) (va_cwS 2 hts gd_k_fromPlace_95_k_floorMod rfl rfl rfl dd_k_floorMod ⟨Nat.le_of_ble_eq_true rfl, Nat.le_of_ble_eq_true rfl⟩) (preS (A := A) empP (hK.sub (tys' := []) [] rfl) empD hE.x) rfl rfl hl.1 rfl (lv_room (Nat.le_of_ble_eq_true rfl)) dX10_fromPlace_55 ⟨Nat.le_of_ble_eq_true rfl, Nat.le_of_ble_eq_true rfl⟩) hP hD hS hA (fun y17_ H locs hq hP hD hS => ?_)
      have q18_ : 0 ≤ y17_.toInt ∧ y17_.toInt < y16_.toInt := hq
      refine W.widen (k := 0) (n := 0) (Nat.le_of_ble_eq_true rfl) (Nat.le_of_ble_eq_true rfl) ?_
      refine lv_l2i hx hb dX10_fromPlace_58 rfl ?_
      refine lv_topi (fun z19_ ez19_ => ?_)
      have o9 : 0 ≤ y17_.toInt := by omega
      have o10 : y17_.toInt ≤ 1000000000 := by omega
      have tz19_ := l2i_val ez19_ o9 o10
      refine lv_iadd hx hb dX10_fromPlace_59 ?_
      refine lv_topi (fun z20_ ez20_ => ?_)
      have o11 : -2147483648 ≤ z13_.toInt + z19_.toInt := by omega
      have o12 : z13_.toInt + z19_.toInt ≤ 2147483647 := by omega
      have tz20_ : z20_.toInt = z13_.toInt + z19_.toInt := ti_add ez20_ rfl rfl o11 o12
      have o13 : 0 ≤ z20_.toInt := by omega
      have o14 : z20_.toInt < ((492 : Nat) : Int) := by omega
      refine va_iald hx hb hK hP 13 10 rfl rfl (ti_inx o13 o14) dX10_fromPlace_60 ?_
      refine lv_topi (fun z21_ ez21_ => ?_)
      refine lv_istore (lv' := [(9, .int z21_), (8, .int z13_), (7, .ref r2_), (0, .ref (kA κ 24)), (1, .ref a), (2, .long v), (4, .int x), (5, .int y), (6, .int z)]) hx hb dX10_fromPlace_61 hl (Nat.le_of_ble_eq_true rfl) rfl (fun ls hl => ?_)
      refine lv_iload hx hb dX10_fromPlace_63 (lv_at hl 0 rfl) ?_
      refine lv_i2l hx hb dX10_fromPlace_65 rfl ?_
      refine lv_topl (fun y22_ ey22_ => ?_)
      have pt78_ : ∀ (s78_ : Int32) (H : Heap) (locs : List Loc) (ls : Array Slot), va_P (dC, dI) vwCl (cW κ σ) H → va_D A (cW κ σ) → va_S A s.heap H locs → lv_has ls 10 [] → W p l e (headSpec vs_k_fromPlace rm_k_fromPlace).room s m #[Value.ref (kA κ 24), Value.ref a, Value.long v, Value.int x, Value.int y, Value.int z] below meth c H locs 0 0 Q (F0 m 78 ls [.int s78_, .long y22_]) := by
        intro s78_ H locs ls hP hD hS hl
        refine zs_l (va_runSN (host := "NearEnough") (As := [.long y22_, .int s78_]) (rest := []) ⟨hx, hb, hml, hown, hts⟩ (k_floored l dC dI y22_ s78_  H.size) ⟨va_cnB 2 hts gd_k_fromPlace_101_k_floored rfl rfl rfl hE.n (ho (.initialized RX11) (List.mem_of_getElem? (i := 5) rfl)) (by decide +kernel) ⟨Nat.le_of_ble_eq_true rfl, Nat.le_of_ble_eq_true rfl⟩, (ho (.static yX11_floored) (List.mem_of_getElem? (i := 6) rfl)), trivial⟩ (preS (A := A) empP (hK.sub (tys' := []) [] rfl) empD hE.x) rfl rfl hl.1 rfl (lv_room (Nat.le_of_ble_eq_true rfl)) dX10_fromPlace_78 ⟨Nat.le_of_ble_eq_true rfl, Nat.le_of_ble_eq_true rfl⟩) hP hD hS hA (fun y23_ H locs hq hP hD hS => ?_)
        have q24_ : True := hq
        refine W.widen (k := 0) (n := 0) (Nat.le_of_ble_eq_true rfl) (Nat.le_of_ble_eq_true rfl) ?_
        rw [hQ]
        exact W.lret (v := y23_) hx hb hr (fun t ht hW => ⟨⟨y23_, σ, rfl, ⟨rfl, trivial⟩, wEn_of hP (hK.sub [] rfl) hD ht hW⟩, hS.F ht⟩) hS.2.2 dX10_fromPlace_81
      refine lv_iload hx hb dX10_fromPlace_66 (lv_at hl 7 rfl) ?_
      refine lv_iconst (v := 3) hx hb dX10_fromPlace_68 rg_16 ?_
      refine lv_icmp_ne (tgt := 77) hx hb dX10_fromPlace_69 rfl (fun c25_ => ?_) (fun c25_ => ?_)
      · have tc25_ := (show y.toInt ≠ 3 from ti_ne rfl rg_17 c25_)
        refine lv_iconst (v := 1) hx hb dX10_fromPlace_77 rg_6 ?_
        have kk26_ : (1 : Int32).toInt = 1 := rg_18
        exact pt78_  1 _ _ _  hP hD hS (lv_sub hl [] rfl)
      · have tc25_ := (show y.toInt = 3 from ti_eq rfl rg_17 c25_)
        refine lv_iload hx hb dX10_fromPlace_72 (lv_at hl 8 rfl) ?_
        refine lv_goto (tgt := 78) hx hb dX10_fromPlace_74 rfl ?_
        exact pt78_  z _ _ _  hP hD hS (lv_sub hl [] rfl)
    · have tc7_ := (show (u4_.1 0).toInt ≤ 0 from ti_nlt rg_11 rfl c7_)
      refine lv_lconst (v := 0) hx hb dX10_fromPlace_19 (by decide) ?_
      rw [hQ]
      exact W.lret (v := 0) hx hb hr (fun t ht hW => ⟨⟨0, σ, rfl, ⟨rfl, trivial⟩, wEn_of hP (hK.sub [] rfl) hD ht hW⟩, hS.F ht⟩) hS.2.2 dX10_fromPlace_20
def ow_k_fromRow : List Cond := [.fieldLink RX10 66 "NearEnough$Step" "row" "LNearEnough$Row;", .fieldLink RX10 88 "NearEnough$Row" "first" "I", .constantLong RX10 113 (-9223372036854775808), .fieldLink RX10 55 "NearEnough$Step" "kind" "I", .fieldLink RX10 79 "NearEnough$Row" "count" "I", .fieldLink RX10 22 "NearEnough$Worker" "sheets" "LNearEnough$Sheets;", .fieldLink RX10 91 "NearEnough$Sheets" "numbers" "[I", .initialized RX11, .static yX11_floored, .methodLink RX10 115 Lib.MathLoose.max_long.x, .static Lib.MathLoose.max_long.x, .initialized "java/lang/Math", .code Lib.MathLoose.max_long.x Lib.MathLoose.max_long.code 4 (some .long), .methodLink RX10 108 Lib.Math.max.name, .static Lib.Math.max.name, .code Lib.Math.max.name Lib.Math.max.code 2 (some .int), .methodLink RX10 105 Lib.Math.min.name, .static Lib.Math.min.name, .code Lib.Math.min.name Lib.Math.min.code 2 (some .int)]
def vs_k_fromRow : List Cond := .code yX10_fromRow cX10_fromRow 18 (some .long) :: (ow_k_fromRow ++ (([.methodLink RX10 84 yX10_sourceOf, .static yX10_sourceOf, .initialized yX10_sourceOf.cls] : List Cond) ++ (vs_k_sourceOf ++ (vs_k_floored ++ (wsX50 ++ (wsX70 ++ (wsX90 ++ (wsX100))))))))
theorem vg_k_fromRow : vs_k_fromRow.all goodWord = true := by decide +kernel
theorem dd_k_fromRow : yX10_fromRow.cls = RX10 ∧ yX10_fromRow.cls ≠ "java/lang/invoke/MethodHandle" ∧ yX10_fromRow.cls ≠ "java/lang/invoke/VarHandle" ∧ (parseMethodDescriptor yX10_fromRow.desc).map (fun d => d.parameters.length) = some 4 := by decide +kernel
def rm_k_fromRow : Room := { frames := 2, cells := 0, slots := 0, locals := 47 }
theorem gd_k_fromRow_84_k_sourceOf : GoodIn vs_k_fromRow (va_wsS RX10 84 yX10_sourceOf vs_k_sourceOf) := goodIn_app (goodIn_sub (fun w h => (List.mem_cons_of_mem _ (List.mem_append_right _ (List.mem_append_left _ h)))) (by decide +kernel)) (goodIn_sub (fun w h => (List.mem_cons_of_mem _ (List.mem_append_right _ (List.mem_append_right _ (List.mem_append_left _ h))))) vg_k_sourceOf)
theorem gd_k_fromRow_101_k_floored : GoodIn vs_k_fromRow (vs_k_floored) := (goodIn_sub (fun w h => (List.mem_cons_of_mem _ (List.mem_append_right _ (List.mem_append_right _ (List.mem_append_right _ (List.mem_append_left _ h)))))) vg_k_floored)
set_option maxHeartbeats 4000000 in
set_option maxRecDepth 100000 in
theorem k_fromRow (l : Launch) (dC : Nat → ClassId) (dI : Nat → Nat → Nat) (κ : CE) (sz : Nat) (σ : MS) (a : Nat) (t_a : TT) (g_a : IsStep κ a t_a) (r_a : Nat) (u_a : RT) (e_a : t_a.2.2 = some r_a) (q_a : IsRow κ r_a u_a) (x : Int32) (y : Int32) (z : Int32) (hk : PInv κ) (hI : CInv σ) (hx0 : 0 ≤ x.toInt ∧ x.toInt ≤ 40) (hz0 : 0 ≤ z.toInt ∧ z.toInt ≤ 99) : Met l yX10_fromRow vs_k_fromRow rm_k_fromRow (va_Pc [.ref (kA κ 24), .ref a, .int x, .int y, .int z] (wSy dC dI (cW κ σ) (cT κ) sz)) (va_Ql (fun (r : Int64) (τ : MS) => τ = σ ∧ True) (fun (τ : MS) => wEn dC dI (va_A (cW κ σ) sz) (cW κ τ) []) (va_A (cW κ σ) sz)) 0 0 (va_A (cW κ σ) sz) := by
  refine Met.ofW (cc := cX10_fromRow) (maxL := 18) (ret := (some .long)) (by decide +kernel) rfl ?_
  intro p e s m args below meth c s₁ B hml hv
  obtain ⟨rfl, hsz, hP, hK, hD0, hE⟩ := hv
  have hx := B.exec
  have hb := B.bytes
  have hr := B.returns
  have hts := atoms_spec (ws := vs_k_fromRow) B.pre
  have hown : s.vm.findClass RX10 = some m.cls := findClass_of_methodNamed B.named
  have hlocks := B.notSynchronized
  subst hsz
  have hD := hD0.self (sz := s.heap.size)
  generalize hAe : va_A (cW κ σ) s.heap.size = A at hD ⊢
  have hA : ∀ q : Nat, s.heap.size ≤ q → A q := fun q h => by rw [← hAe]; exact Or.inr h
  have hl := lv_entry ([.ref (kA κ 24), .ref a, .int x, .int y, .int z]) (n := 18) (Nat.le_of_ble_eq_true rfl)
  rw [lg_entry_eq]
  generalize (lg_sl ([.ref (kA κ 24), .ref a, .int x, .int y, .int z]) ++ List.replicate (18 - (lg_sl ([.ref (kA κ 24), .ref a, .int x, .int y, .int z])).length) Slot.unset).toArray = ls at hl ⊢
  have hl : lv_has ls 18 [(0, .ref (kA κ 24)), (1, .ref a), (2, .int x), (3, .int y), (4, .int z)] := hl
  have ho := fun w (h : w ∈ ow_k_fromRow) => hts w (List.mem_cons_of_mem _ (List.mem_append_left _ h))
  have hin5 : ∀ w ∈ u_ws RX5 TX5 5, w ∈ vs_k_fromRow := fun w h => (List.mem_cons_of_mem _ (List.mem_append_right _ (List.mem_append_right _ (List.mem_append_right _ (List.mem_append_right _ (List.mem_append_left _ h))))))
  have hin7 : ∀ w ∈ u_ws RX7 TX7 3, w ∈ vs_k_fromRow := fun w h => (List.mem_cons_of_mem _ (List.mem_append_right _ (List.mem_append_right _ (List.mem_append_right _ (List.mem_append_right _ (List.mem_append_right _ (List.mem_append_left _ h)))))))
  have hin9 : ∀ w ∈ u_ws RX9 TX9 11, w ∈ vs_k_fromRow := fun w h => (List.mem_cons_of_mem _ (List.mem_append_right _ (List.mem_append_right _ (List.mem_append_right _ (List.mem_append_right _ (List.mem_append_right _ (List.mem_append_right _ (List.mem_append_left _ h))))))))
  have hin10 : ∀ w ∈ u_ws RX10 TX10 5, w ∈ vs_k_fromRow := fun w h => (List.mem_cons_of_mem _ (List.mem_append_right _ (List.mem_append_right _ (List.mem_append_right _ (List.mem_append_right _ (List.mem_append_right _ (List.mem_append_right _ (List.mem_append_right _ h))))))))
  refine zQ (fun Q hQ => ?_)
  refine zH (A := A) (ws := (cW κ σ)) (fun H hP hS => ?_) hP
  have hk0 := hk.1
  have hk1 := hk.2.1
  have hk2 := hk.2.2.1
  refine lv_aload_n hx hb dX10_fromRow_0 rfl (lv_at hl 1 rfl) ?_
  obtain ⟨kp1_, hkp1_⟩ := cpl (κ := κ) (σ := σ) g_a.1 g_a.2.1
  refine va_get (D := (dC, dI)) (ci := 9) (v := va_rf t_a.2.2) (C := RX9) (T := TX9) (N := 11) hx hb hts hin9 hown hK hP kp1_ hkp1_ rfl 2 (Nat.le_of_ble_eq_true rfl) (ho (.fieldLink RX10 66 "NearEnough$Step" "row" "LNearEnough$Row;") (List.mem_of_getElem? (i := 0) rfl)) (fun _ h9 => h9) rfl dX10_fromRow_1 ?_
  refine zv (v := .ref r_a) (by rw [e_a]; rfl) ?_
  refine lv_astore (lv' := [(5, .ref r_a), (0, .ref (kA κ 24)), (1, .ref a), (2, .int x), (3, .int y), (4, .int z)]) hx hb dX10_fromRow_4 hl (Nat.le_of_ble_eq_true rfl) rfl (fun ls hl => ?_)
  refine lv_iload_n hx hb dX10_fromRow_6 rfl (lv_at hl 3 rfl) ?_
  refine lv_iload_n hx hb dX10_fromRow_7 rfl (lv_at hl 4 rfl) ?_
  have o1 : 0 ≤ x.toInt := by omega
  have o2 : x.toInt ≤ 40 := by omega
  refine zs_i (va_runS (As := [.int x, .int y]) (rest := []) ⟨hx, hb, hml, hown, hts⟩ (k_sourceOf l dC dI x y ⟨o1, o2⟩ H.size) (va_cwS 2 hts gd_k_fromRow_84_k_sourceOf rfl rfl rfl dd_k_sourceOf ⟨Nat.le_of_ble_eq_true rfl, Nat.le_of_ble_eq_true rfl⟩) (preS (A := A) empP (hK.sub (tys' := []) [] rfl) empD hE.x) rfl rfl hl.1 rfl (lv_room (Nat.le_of_ble_eq_true rfl)) dX10_fromRow_8 ⟨Nat.le_of_ble_eq_true rfl, Nat.le_of_ble_eq_true rfl⟩) hP hD hS hA (fun z2_ H locs hq hP hD hS => ?_)
  have q3_ : 0 ≤ z2_.toInt ∧ z2_.toInt ≤ 40 := hq
  refine W.widen (k := 0) (n := 0) (Nat.le_of_ble_eq_true rfl) (Nat.le_of_ble_eq_true rfl) ?_
  refine lv_bipush (v := 12) hx hb dX10_fromRow_11 rg_57 ?_
  refine lv_imul hx hb dX10_fromRow_13 ?_
  refine lv_topi (fun z4_ ez4_ => ?_)
  have o3 : -2147483648 ≤ z2_.toInt * 12 := by omega
  have o4 : z2_.toInt * 12 ≤ 2147483647 := by omega
  have tz4_ : z4_.toInt = z2_.toInt * 12 := ti_mul ez4_ rfl rg_58 o3 o4
  refine lv_aload hx hb dX10_fromRow_14 (lv_at hl 0 rfl) ?_
  have bb5_ : 1 ≤ (u_a.1 0).toInt ∧ (u_a.1 0).toInt ≤ 6 ∧ 0 ≤ (u_a.1 3).toInt ∧ (u_a.1 3).toInt + (u_a.1 0).toInt ≤ 12 := q_a.2.2
  obtain ⟨kp6_, hkp6_⟩ := cpl (κ := κ) (σ := σ) q_a.1 q_a.2.1
  refine va_get (D := (dC, dI)) (ci := 5) (v := .int (u_a.1 3)) (C := RX5) (T := TX5) (N := 5) hx hb hts hin5 hown hK hP kp6_ hkp6_ rfl 4 (Nat.le_of_ble_eq_true rfl) (ho (.fieldLink RX10 88 "NearEnough$Row" "first" "I") (List.mem_of_getElem? (i := 1) rfl)) (fun _ h9 => h9) rfl dX10_fromRow_16 ?_
  refine lv_iadd hx hb dX10_fromRow_19 ?_
  refine lv_topi (fun z7_ ez7_ => ?_)
  have o5 : -2147483648 ≤ z4_.toInt + (u_a.1 3).toInt := by omega
  have o6 : z4_.toInt + (u_a.1 3).toInt ≤ 2147483647 := by omega
  have tz7_ : z7_.toInt = z4_.toInt + (u_a.1 3).toInt := ti_add ez7_ rfl rfl o5 o6
  refine lv_istore (lv' := [(6, .int z7_), (5, .ref r_a), (0, .ref (kA κ 24)), (1, .ref a), (2, .int x), (3, .int y), (4, .int z)]) hx hb dX10_fromRow_20 hl (Nat.le_of_ble_eq_true rfl) rfl (fun ls hl => ?_)
  have pt45_ : ∀ (s45_ : Int32) (H : Heap) (locs : List Loc) (ls : Array Slot), (s45_.toInt ≤ (u_a.1 0).toInt) → va_P (dC, dI) vwCl (cW κ σ) H → va_D A (cW κ σ) → va_S A s.heap H locs → lv_has ls 18 [(6, .int z7_), (5, .ref r_a), (0, .ref (kA κ 24)), (1, .ref a), (3, .int y), (4, .int z)] → W p l e (headSpec vs_k_fromRow rm_k_fromRow).room s m #[Value.ref (kA κ 24), Value.ref a, Value.int x, Value.int y, Value.int z] below meth c H locs 0 0 Q (F0 m 45 ls [.int s45_]) := by
    intro s45_ H locs ls hf45_0_ hP hD hS hl
    refine lv_istore (lv' := [(7, .int s45_), (6, .int z7_), (5, .ref r_a), (0, .ref (kA κ 24)), (1, .ref a), (3, .int y), (4, .int z)]) hx hb dX10_fromRow_45 hl (Nat.le_of_ble_eq_true rfl) rfl (fun ls hl => ?_)
    have pt61_ : ∀ (s61_ : Int32) (H : Heap) (locs : List Loc) (ls : Array Slot), (1 ≤ s61_.toInt ∧ s61_.toInt ≤ 99) → va_P (dC, dI) vwCl (cW κ σ) H → va_D A (cW κ σ) → va_S A s.heap H locs → lv_has ls 18 [(7, .int s45_), (6, .int z7_), (5, .ref r_a), (0, .ref (kA κ 24)), (1, .ref a), (3, .int y), (4, .int z)] → W p l e (headSpec vs_k_fromRow rm_k_fromRow).room s m #[Value.ref (kA κ 24), Value.ref a, Value.int x, Value.int y, Value.int z] below meth c H locs 0 0 Q (F0 m 61 ls [.int s61_]) := by
      intro s61_ H locs ls hf61_0_ hP hD hS hl
      refine lv_istore (lv' := [(8, .int s61_), (7, .int s45_), (6, .int z7_), (5, .ref r_a), (0, .ref (kA κ 24)), (1, .ref a), (3, .int y), (4, .int z)]) hx hb dX10_fromRow_61 hl (Nat.le_of_ble_eq_true rfl) rfl (fun ls hl => ?_)
      have pt74_ : ∀ (s74_ : Int32) (H : Heap) (locs : List Loc) (ls : Array Slot), va_P (dC, dI) vwCl (cW κ σ) H → va_D A (cW κ σ) → va_S A s.heap H locs → lv_has ls 18 [(8, .int s61_), (7, .int s45_), (6, .int z7_), (5, .ref r_a), (0, .ref (kA κ 24)), (1, .ref a), (3, .int y)] → W p l e (headSpec vs_k_fromRow rm_k_fromRow).room s m #[Value.ref (kA κ 24), Value.ref a, Value.int x, Value.int y, Value.int z] below meth c H locs 0 0 Q (F0 m 74 ls [.int s74_]) := by
        intro s74_ H locs ls hP hD hS hl
        refine lv_istore (lv' := [(9, .int s74_), (8, .int s61_), (7, .int s45_), (6, .int z7_), (5, .ref r_a), (0, .ref (kA κ 24)), (1, .ref a), (3, .int y)]) hx hb dX10_fromRow_74 hl (Nat.le_of_ble_eq_true rfl) rfl (fun ls hl => ?_)
        refine lv_lconst (v := 0) hx hb dX10_fromRow_76 (by decide) ?_
        refine lv_lstore (lv' := [(10, .long 0), (9, .int s74_), (8, .int s61_), (7, .int s45_), (6, .int z7_), (5, .ref r_a), (0, .ref (kA κ 24)), (1, .ref a), (3, .int y)]) hx hb dX10_fromRow_77 hl (Nat.le_of_ble_eq_true rfl) rfl (fun ls hl => ?_)
        refine lv_ldc2 (v := (-9223372036854775808)) hx hb hown (ho (.constantLong RX10 113 (-9223372036854775808)) (List.mem_of_getElem? (i := 2) rfl)) dX10_fromRow_79 ?_
        refine lv_lstore (lv' := [(12, .long (-9223372036854775808)), (10, .long 0), (9, .int s74_), (8, .int s61_), (7, .int s45_), (6, .int z7_), (5, .ref r_a), (0, .ref (kA κ 24)), (1, .ref a), (3, .int y)]) hx hb dX10_fromRow_82 hl (Nat.le_of_ble_eq_true rfl) rfl (fun ls hl => ?_)
        refine lv_iconst (v := 0) hx hb dX10_fromRow_84 rg_0 ?_
        refine lv_istore (lv' := [(14, .int 0), (12, .long (-9223372036854775808)), (10, .long 0), (9, .int s74_), (8, .int s61_), (7, .int s45_), (6, .int z7_), (5, .ref r_a), (0, .ref (kA κ 24)), (1, .ref a), (3, .int y)]) hx hb dX10_fromRow_85 hl (Nat.le_of_ble_eq_true rfl) rfl (fun ls hl => ?_)
        refine lv_iconst (v := 0) hx hb dX10_fromRow_87 rg_0 ?_
        refine lv_istore (lv' := [(15, .int 0), (14, .int 0), (12, .long (-9223372036854775808)), (10, .long 0), (9, .int s74_), (8, .int s61_), (7, .int s45_), (6, .int z7_), (5, .ref r_a), (0, .ref (kA κ 24)), (1, .ref a), (3, .int y)]) hx hb dX10_fromRow_88 hl (Nat.le_of_ble_eq_true rfl) rfl (fun ls hl => ?_)
        have pt90_ : ∀ (n90_ : Nat) (v10_ : Int64) (v12_ : Int64) (v14_ : Int32) (v15_ : Int32) (H : Heap) (locs : List Loc) (ls : Array Slot), (6 - v15_.toInt).toNat < n90_ → (0 ≤ v15_.toInt ∧ 0 ≤ v14_.toInt ∧ v14_.toInt ≤ v15_.toInt ∧ v15_.toInt ≤ 200) → va_P (dC, dI) vwCl (cW κ σ) H → va_D A (cW κ σ) → va_S A s.heap H locs → lv_has ls 18 [(10, .long v10_), (12, .long v12_), (14, .int v14_), (15, .int v15_), (9, .int s74_), (8, .int s61_), (7, .int s45_), (6, .int z7_), (5, .ref r_a), (0, .ref (kA κ 24)), (1, .ref a), (3, .int y)] → W p l e (headSpec vs_k_fromRow rm_k_fromRow).room s m #[Value.ref (kA κ 24), Value.ref a, Value.int x, Value.int y, Value.int z] below meth c H locs 0 0 Q (F0 m 90 ls []) := by
          intro n90_
          induction n90_ with
          | zero => intro v10_ v12_ v14_ v15_ H locs ls hn90_ hf90_0_ hP hD hS hl; exact absurd hn90_ (Nat.not_lt_zero _)
          | succ n90_ ih90_ =>
            intro v10_ v12_ v14_ v15_ H locs ls hn90_ hf90_0_ hP hD hS hl
            refine lv_iload hx hb dX10_fromRow_90 (lv_at hl 3 rfl) ?_
            refine lv_iload hx hb dX10_fromRow_92 (lv_at hl 6 rfl) ?_
            refine lv_icmp_ge (tgt := 147) hx hb dX10_fromRow_94 rfl (fun c8_ => ?_) (fun c8_ => ?_)
            · have tc8_ := (show s45_.toInt ≤ v15_.toInt from ti_le rfl rfl c8_)
              refine lv_aload_n hx hb dX10_fromRow_147 rfl (lv_at hl 10 rfl) ?_
              obtain ⟨kp9_, hkp9_⟩ := cpl (κ := κ) (σ := σ) g_a.1 g_a.2.1
              refine va_get (D := (dC, dI)) (ci := 9) (v := .int (t_a.1 0)) (C := RX9) (T := TX9) (N := 11) hx hb hts hin9 hown hK hP kp9_ hkp9_ rfl 0 (Nat.le_of_ble_eq_true rfl) (ho (.fieldLink RX10 55 "NearEnough$Step" "kind" "I") (List.mem_of_getElem? (i := 3) rfl)) (fun _ h9 => h9) rfl dX10_fromRow_148 ?_
              refine lv_iconst (v := 1) hx hb dX10_fromRow_151 rg_6 ?_
              refine lv_icmp_ne (tgt := 158) hx hb dX10_fromRow_152 rfl (fun c10_ => ?_) (fun c10_ => ?_)
              · have tc10_ := (show (t_a.1 0).toInt ≠ 1 from ti_ne rfl rg_18 c10_)
                refine lv_iload_n hx hb dX10_fromRow_158 rfl (lv_at hl 11 rfl) ?_
                refine lv_if_ne (tgt := 183) hx hb dX10_fromRow_159 rfl (fun c11_ => ?_) (fun c11_ => ?_)
                · have tc11_ := (show y.toInt ≠ 0 from ti_ne rfl rg_11 c11_)
                  refine lv_lload hx hb dX10_fromRow_183 (lv_at hl 0 rfl) ?_
                  rw [hQ]
                  exact W.lret (v := v10_) hx hb hr (fun t ht hW => ⟨⟨v10_, σ, rfl, ⟨rfl, trivial⟩, wEn_of hP (hK.sub [] rfl) hD ht hW⟩, hS.F ht⟩) hS.2.2 dX10_fromRow_185
                · have tc11_ := (show y.toInt = 0 from ti_eq rfl rg_11 c11_)
                  refine lv_iload hx hb dX10_fromRow_162 (lv_at hl 2 rfl) ?_
                  refine lv_if_le (tgt := 183) hx hb dX10_fromRow_164 rfl (fun c12_ => ?_) (fun c12_ => ?_)
                  · have tc12_ := (show v14_.toInt ≤ 0 from ti_le rfl rg_11 c12_)
                    refine lv_lload hx hb dX10_fromRow_183 (lv_at hl 0 rfl) ?_
                    rw [hQ]
                    exact W.lret (v := v10_) hx hb hr (fun t ht hW => ⟨⟨v10_, σ, rfl, ⟨rfl, trivial⟩, wEn_of hP (hK.sub [] rfl) hD ht hW⟩, hS.F ht⟩) hS.2.2 dX10_fromRow_185
                  · have tc12_ := (show 0 < v14_.toInt from ti_nle rfl rg_11 c12_)
                    refine lv_lload hx hb dX10_fromRow_167 (lv_at hl 0 rfl) ?_
                    refine lv_aload hx hb dX10_fromRow_169 (lv_at hl 8 rfl) ?_
                    have bb13_ : 1 ≤ (u_a.1 0).toInt ∧ (u_a.1 0).toInt ≤ 6 ∧ 0 ≤ (u_a.1 3).toInt ∧ (u_a.1 3).toInt + (u_a.1 0).toInt ≤ 12 := q_a.2.2
                    obtain ⟨kp14_, hkp14_⟩ := cpl (κ := κ) (σ := σ) q_a.1 q_a.2.1
                    refine va_get (D := (dC, dI)) (ci := 5) (v := .int (u_a.1 0)) (C := RX5) (T := TX5) (N := 5) hx hb hts hin5 hown hK hP kp14_ hkp14_ rfl 1 (Nat.le_of_ble_eq_true rfl) (ho (.fieldLink RX10 79 "NearEnough$Row" "count" "I") (List.mem_of_getElem? (i := 4) rfl)) (fun _ h9 => h9) rfl dX10_fromRow_171 ?_
                    refine lv_i2l hx hb dX10_fromRow_174 rfl ?_
                    refine lv_topl (fun y15_ ey15_ => ?_)
                    refine lv_lmul hx hb dX10_fromRow_175 ?_
                    refine lv_topl (fun y16_ ey16_ => ?_)
                    refine lv_iload hx hb dX10_fromRow_176 (lv_at hl 2 rfl) ?_
                    refine lv_i2l hx hb dX10_fromRow_178 rfl ?_
                    refine lv_topl (fun y17_ ey17_ => ?_)
                    have o7 : v14_.toInt ≠ 0 := by omega
                    refine lv_ldiv hx hb dX10_fromRow_179 (i2l_ne ey17_ o7) ?_
                    refine lv_topl (fun y18_ ey18_ => ?_)
                    refine lv_goto (tgt := 185) hx hb dX10_fromRow_180 rfl ?_
                    rw [hQ]
                    exact W.lret (v := y18_) hx hb hr (fun t ht hW => ⟨⟨y18_, σ, rfl, ⟨rfl, trivial⟩, wEn_of hP (hK.sub [] rfl) hD ht hW⟩, hS.F ht⟩) hS.2.2 dX10_fromRow_185
              · have tc10_ := (show (t_a.1 0).toInt = 1 from ti_eq rfl rg_18 c10_)
                refine lv_lload hx hb dX10_fromRow_155 (lv_at hl 1 rfl) ?_
                rw [hQ]
                exact W.lret (v := v12_) hx hb hr (fun t ht hW => ⟨⟨v12_, σ, rfl, ⟨rfl, trivial⟩, wEn_of hP (hK.sub [] rfl) hD ht hW⟩, hS.F ht⟩) hS.2.2 dX10_fromRow_157
            · have tc8_ := (show v15_.toInt < s45_.toInt from ti_nle rfl rfl c8_)
              refine lv_aload_n hx hb dX10_fromRow_97 rfl (lv_at hl 9 rfl) ?_
              refine va_get (D := (dC, dI)) (ci := 10) (v := .ref (kA κ 12)) (C := RX10) (T := TX10) (N := 5) hx hb hts hin10 hown hK hP 24 rfl rfl 1 (Nat.le_of_ble_eq_true rfl) (ho (.fieldLink RX10 22 "NearEnough$Worker" "sheets" "LNearEnough$Sheets;") (List.mem_of_getElem? (i := 5) rfl)) (fun _ h9 => h9) rfl dX10_fromRow_98 ?_
              refine va_get (D := (dC, dI)) (ci := 7) (v := .ref (kA κ 13)) (C := RX7) (T := TX7) (N := 3) hx hb hts hin7 hown hK hP 12 rfl rfl 0 (Nat.le_of_ble_eq_true rfl) (ho (.fieldLink RX10 91 "NearEnough$Sheets" "numbers" "[I") (List.mem_of_getElem? (i := 6) rfl)) (fun _ h9 => h9) rfl dX10_fromRow_101 ?_
              refine lv_iload hx hb dX10_fromRow_104 (lv_at hl 7 rfl) ?_
              refine lv_iload hx hb dX10_fromRow_106 (lv_at hl 3 rfl) ?_
              refine lv_iadd hx hb dX10_fromRow_108 ?_
              refine lv_topi (fun z19_ ez19_ => ?_)
              have o8 : -2147483648 ≤ z7_.toInt + v15_.toInt := by omega
              have o9 : z7_.toInt + v15_.toInt ≤ 2147483647 := by omega
              have tz19_ : z19_.toInt = z7_.toInt + v15_.toInt := ti_add ez19_ rfl rfl o8 o9
              have o10 : 0 ≤ z19_.toInt := by omega
              have o11 : z19_.toInt < ((492 : Nat) : Int) := by omega
              refine va_iald hx hb hK hP 13 10 rfl rfl (ti_inx o10 o11) dX10_fromRow_109 ?_
              refine lv_topi (fun z20_ ez20_ => ?_)
              refine lv_i2l hx hb dX10_fromRow_110 rfl ?_
              refine lv_topl (fun y21_ ey21_ => ?_)
              refine lv_iload hx hb dX10_fromRow_111 (lv_at hl 4 rfl) ?_
              refine zs_l (va_runSN (host := "NearEnough") (As := [.long y21_, .int s74_]) (rest := []) ⟨hx, hb, hml, hown, hts⟩ (k_floored l dC dI y21_ s74_  H.size) ⟨va_cnB 2 hts gd_k_fromRow_101_k_floored rfl rfl rfl hE.n (ho (.initialized RX11) (List.mem_of_getElem? (i := 7) rfl)) (by decide +kernel) ⟨Nat.le_of_ble_eq_true rfl, Nat.le_of_ble_eq_true rfl⟩, (ho (.static yX11_floored) (List.mem_of_getElem? (i := 8) rfl)), trivial⟩ (preS (A := A) empP (hK.sub (tys' := []) [] rfl) empD hE.x) rfl rfl hl.1 rfl (lv_room (Nat.le_of_ble_eq_true rfl)) dX10_fromRow_113 ⟨Nat.le_of_ble_eq_true rfl, Nat.le_of_ble_eq_true rfl⟩) hP hD hS hA (fun y22_ H locs hq hP hD hS => ?_)
              have q23_ : True := hq
              refine W.widen (k := 0) (n := 0) (Nat.le_of_ble_eq_true rfl) (Nat.le_of_ble_eq_true rfl) ?_
              refine lv_lstore (lv' := [(16, .long y22_), (10, .long v10_), (12, .long v12_), (14, .int v14_), (15, .int v15_), (9, .int s74_), (8, .int s61_), (7, .int s45_), (6, .int z7_), (5, .ref r_a), (0, .ref (kA κ 24)), (1, .ref a), (3, .int y)]) hx hb dX10_fromRow_116 hl (Nat.le_of_ble_eq_true rfl) rfl (fun ls hl => ?_)
              refine lv_lload hx hb dX10_fromRow_118 (lv_at hl 1 rfl) ?_
              refine lv_lload hx hb dX10_fromRow_120 (lv_at hl 0 rfl) ?_
              refine lv_ladd hx hb dX10_fromRow_122 ?_
              refine lv_topl (fun y24_ ey24_ => ?_)
              refine lv_lstore (lv' := [(10, .long y24_), (16, .long y22_), (12, .long v12_), (14, .int v14_), (15, .int v15_), (9, .int s74_), (8, .int s61_), (7, .int s45_), (6, .int z7_), (5, .ref r_a), (0, .ref (kA κ 24)), (1, .ref a), (3, .int y)]) hx hb dX10_fromRow_123 hl (Nat.le_of_ble_eq_true rfl) rfl (fun ls hl => ?_)
              refine lv_lload hx hb dX10_fromRow_125 (lv_at hl 2 rfl) ?_
              refine lv_lload hx hb dX10_fromRow_127 (lv_at hl 1 rfl) ?_
              refine va_mmax_long hx hb (hml.trans hl.1.symm) hown (ho (.methodLink RX10 115 Lib.MathLoose.max_long.x) (List.mem_of_getElem? (i := 9) rfl)) (ho (.static Lib.MathLoose.max_long.x) (List.mem_of_getElem? (i := 10) rfl)) (ho (.initialized "java/lang/Math") (List.mem_of_getElem? (i := 11) rfl)) (ho (.code Lib.MathLoose.max_long.x Lib.MathLoose.max_long.code 4 (some .long)) (List.mem_of_getElem? (i := 12) rfl)) (Nat.le_of_ble_eq_true rfl) (Nat.le_of_ble_eq_true rfl) (Nat.le_of_ble_eq_true rfl) (Nat.le_of_ble_eq_true rfl) dX10_fromRow_129 ?_
              refine lv_topl (fun y25_ ey25_ => ?_)
              refine lv_lstore (lv' := [(12, .long y25_), (10, .long y24_), (16, .long y22_), (14, .int v14_), (15, .int v15_), (9, .int s74_), (8, .int s61_), (7, .int s45_), (6, .int z7_), (5, .ref r_a), (0, .ref (kA κ 24)), (1, .ref a), (3, .int y)]) hx hb dX10_fromRow_132 hl (Nat.le_of_ble_eq_true rfl) rfl (fun ls hl => ?_)
              obtain ⟨z26_, ez26_⟩ : ∃ y : Int32, y = v14_ + 1 := ⟨_, rfl⟩
              have o12 : -2147483648 ≤ v14_.toInt + 1 := by omega
              have o13 : v14_.toInt + 1 ≤ 2147483647 := by omega
              have tz26_ := ti_add ez26_ rfl rg_18 o12 o13
              refine lv_iinc (v := z26_) (lv' := [(14, .int z26_), (12, .long y25_), (10, .long y24_), (16, .long y22_), (15, .int v15_), (9, .int s74_), (8, .int s61_), (7, .int s45_), (6, .int z7_), (5, .ref r_a), (0, .ref (kA κ 24)), (1, .ref a), (3, .int y)]) hx hb dX10_fromRow_134 hl (k := 3) rfl (iincp ez26_ rg_6) (Nat.le_of_ble_eq_true rfl) rfl (fun ls hl => ?_)
              refine lv_iload hx hb dX10_fromRow_137 (lv_at hl 4 rfl) ?_
              refine lv_iload hx hb dX10_fromRow_139 (lv_at hl 6 rfl) ?_
              refine lv_iadd hx hb dX10_fromRow_141 ?_
              refine lv_topi (fun z27_ ez27_ => ?_)
              have o14 : -2147483648 ≤ v15_.toInt + s61_.toInt := by omega
              have o15 : v15_.toInt + s61_.toInt ≤ 2147483647 := by omega
              have tz27_ : z27_.toInt = v15_.toInt + s61_.toInt := ti_add ez27_ rfl rfl o14 o15
              refine lv_istore (lv' := [(15, .int z27_), (14, .int z26_), (12, .long y25_), (10, .long y24_), (16, .long y22_), (9, .int s74_), (8, .int s61_), (7, .int s45_), (6, .int z7_), (5, .ref r_a), (0, .ref (kA κ 24)), (1, .ref a), (3, .int y)]) hx hb dX10_fromRow_142 hl (Nat.le_of_ble_eq_true rfl) rfl (fun ls hl => ?_)
              refine lv_goto (tgt := 90) hx hb dX10_fromRow_144 rfl ?_
              have o16 : (6 - z27_.toInt).toNat < n90_ := by omega
              have o17 : 0 ≤ z27_.toInt := by omega
              have o18 : 0 ≤ z26_.toInt := by omega
              have o19 : z26_.toInt ≤ z27_.toInt := by omega
              have o20 : z27_.toInt ≤ 200 := by omega
              exact ih90_  y24_ y25_ z26_ z27_ _ _ _ o16 ⟨o17, o18, o19, o20⟩ hP hD hS (lv_sub hl [3, 2, 1, 0, 5, 6, 7, 8, 9, 10, 11, 12] rfl)
        have kk28_ : (0 : Int32).toInt = 0 := rg_11
        have kk29_ : (0 : Int32).toInt = 0 := rg_11
        have o21 : 0 ≤ (0 : Int32).toInt := by omega
        have o22 : (0 : Int32).toInt ≤ (0 : Int32).toInt := by omega
        have o23 : (0 : Int32).toInt ≤ 200 := by omega
        exact pt90_ _  0 (-9223372036854775808) 0 0 _ _ _ (Nat.lt_succ_self _) ⟨o21, o21, o22, o23⟩ hP hD hS (lv_sub hl [3, 2, 1, 0, 4, 5, 6, 7, 8, 9, 10, 11] rfl)
      refine lv_iload_n hx hb dX10_fromRow_63 rfl (lv_at hl 6 rfl) ?_
      refine lv_iconst (v := 3) hx hb dX10_fromRow_64 rg_16 ?_
      refine lv_icmp_ne (tgt := 73) hx hb dX10_fromRow_65 rfl (fun c30_ => ?_) (fun c30_ => ?_)
      · have tc30_ := (show y.toInt ≠ 3 from ti_ne rfl rg_17 c30_)
        refine lv_iconst (v := 1) hx hb dX10_fromRow_73 rg_6 ?_
        have kk31_ : (1 : Int32).toInt = 1 := rg_18
        exact pt74_  1 _ _ _  hP hD hS (lv_sub hl [0, 1, 2, 3, 4, 5, 6] rfl)
      · have tc30_ := (show y.toInt = 3 from ti_eq rfl rg_17 c30_)
        refine lv_iload hx hb dX10_fromRow_68 (lv_at hl 7 rfl) ?_
        refine lv_goto (tgt := 74) hx hb dX10_fromRow_70 rfl ?_
        exact pt74_  z _ _ _  hP hD hS (lv_sub hl [0, 1, 2, 3, 4, 5, 6] rfl)
    refine lv_iload_n hx hb dX10_fromRow_47 rfl (lv_at hl 5 rfl) ?_
    refine lv_if_ne (tgt := 60) hx hb dX10_fromRow_48 rfl (fun c32_ => ?_) (fun c32_ => ?_)
    · have tc32_ := (show y.toInt ≠ 0 from ti_ne rfl rg_11 c32_)
      refine lv_iconst (v := 1) hx hb dX10_fromRow_60 rg_6 ?_
      have kk33_ : (1 : Int32).toInt = 1 := rg_18
      have o24 : 1 ≤ (1 : Int32).toInt := by omega
      have o25 : (1 : Int32).toInt ≤ 99 := by omega
      exact pt61_  1 _ _ _ ⟨o24, o25⟩ hP hD hS (lv_sub hl [0, 1, 2, 3, 4, 5, 6] rfl)
    · have tc32_ := (show y.toInt = 0 from ti_eq rfl rg_11 c32_)
      refine lv_iload hx hb dX10_fromRow_51 (lv_at hl 6 rfl) ?_
      refine lv_iconst (v := 1) hx hb dX10_fromRow_53 rg_6 ?_
      refine va_mmax hx hb (hml.trans hl.1.symm) hown (ho (.methodLink RX10 108 Lib.Math.max.name) (List.mem_of_getElem? (i := 13) rfl)) (ho (.static Lib.Math.max.name) (List.mem_of_getElem? (i := 14) rfl)) (ho (.initialized "java/lang/Math") (List.mem_of_getElem? (i := 11) rfl)) (ho (.code Lib.Math.max.name Lib.Math.max.code 2 (some .int)) (List.mem_of_getElem? (i := 15) rfl)) (Nat.le_of_ble_eq_true rfl) (Nat.le_of_ble_eq_true rfl) (Nat.le_of_ble_eq_true rfl) (Nat.le_of_ble_eq_true rfl) dX10_fromRow_54 ?_
      refine lv_topi (fun z34_ ez34_ => ?_)
      have kk35_ : (1 : Int32).toInt = 1 := rg_18
      have mz34_ := imax_ok ez34_
      refine lv_goto (tgt := 61) hx hb dX10_fromRow_57 rfl ?_
      have o26 : 1 ≤ z34_.toInt := by omega
      have o27 : z34_.toInt ≤ 99 := by omega
      exact pt61_  z34_ _ _ _ ⟨o26, o27⟩ hP hD hS (lv_sub hl [0, 1, 2, 3, 4, 5, 6] rfl)
  refine lv_iload_n hx hb dX10_fromRow_22 rfl (lv_at hl 5 rfl) ?_
  refine lv_iconst (v := 5) hx hb dX10_fromRow_23 rg_14 ?_
  refine lv_icmp_ne (tgt := 40) hx hb dX10_fromRow_24 rfl (fun c36_ => ?_) (fun c36_ => ?_)
  · have tc36_ := (show y.toInt ≠ 5 from ti_ne rfl rg_15 c36_)
    refine lv_aload hx hb dX10_fromRow_40 (lv_at hl 1 rfl) ?_
    have bb37_ : 1 ≤ (u_a.1 0).toInt ∧ (u_a.1 0).toInt ≤ 6 ∧ 0 ≤ (u_a.1 3).toInt ∧ (u_a.1 3).toInt + (u_a.1 0).toInt ≤ 12 := q_a.2.2
    obtain ⟨kp38_, hkp38_⟩ := cpl (κ := κ) (σ := σ) q_a.1 q_a.2.1
    refine va_get (D := (dC, dI)) (ci := 5) (v := .int (u_a.1 0)) (C := RX5) (T := TX5) (N := 5) hx hb hts hin5 hown hK hP kp38_ hkp38_ rfl 1 (Nat.le_of_ble_eq_true rfl) (ho (.fieldLink RX10 79 "NearEnough$Row" "count" "I") (List.mem_of_getElem? (i := 4) rfl)) (fun _ h9 => h9) rfl dX10_fromRow_42 ?_
    have o28 : ((u_a.1 0)).toInt ≤ (u_a.1 0).toInt := by omega
    exact pt45_  (u_a.1 0) _ _ _ o28 hP hD hS (lv_sub hl [0, 1, 2, 3, 5, 6] rfl)
  · have tc36_ := (show y.toInt = 5 from ti_eq rfl rg_15 c36_)
    refine lv_iload hx hb dX10_fromRow_27 (lv_at hl 6 rfl) ?_
    refine lv_aload hx hb dX10_fromRow_29 (lv_at hl 1 rfl) ?_
    have bb39_ : 1 ≤ (u_a.1 0).toInt ∧ (u_a.1 0).toInt ≤ 6 ∧ 0 ≤ (u_a.1 3).toInt ∧ (u_a.1 3).toInt + (u_a.1 0).toInt ≤ 12 := q_a.2.2
    obtain ⟨kp40_, hkp40_⟩ := cpl (κ := κ) (σ := σ) q_a.1 q_a.2.1
    refine va_get (D := (dC, dI)) (ci := 5) (v := .int (u_a.1 0)) (C := RX5) (T := TX5) (N := 5) hx hb hts hin5 hown hK hP kp40_ hkp40_ rfl 1 (Nat.le_of_ble_eq_true rfl) (ho (.fieldLink RX10 79 "NearEnough$Row" "count" "I") (List.mem_of_getElem? (i := 4) rfl)) (fun _ h9 => h9) rfl dX10_fromRow_31 ?_
    refine va_mmin hx hb (hml.trans hl.1.symm) hown (ho (.methodLink RX10 105 Lib.Math.min.name) (List.mem_of_getElem? (i := 16) rfl)) (ho (.static Lib.Math.min.name) (List.mem_of_getElem? (i := 17) rfl)) (ho (.initialized "java/lang/Math") (List.mem_of_getElem? (i := 11) rfl)) (ho (.code Lib.Math.min.name Lib.Math.min.code 2 (some .int)) (List.mem_of_getElem? (i := 18) rfl)) (Nat.le_of_ble_eq_true rfl) (Nat.le_of_ble_eq_true rfl) (Nat.le_of_ble_eq_true rfl) (Nat.le_of_ble_eq_true rfl) dX10_fromRow_34 ?_
    refine lv_topi (fun z41_ ez41_ => ?_)
    have mz41_ := imin_ok ez41_
    refine lv_goto (tgt := 45) hx hb dX10_fromRow_37 rfl ?_
    have o29 : z41_.toInt ≤ (u_a.1 0).toInt := by omega
    exact pt45_  z41_ _ _ _ o29 hP hD hS (lv_sub hl [0, 1, 2, 3, 5, 6] rfl)
