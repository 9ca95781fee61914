theorem dX12_isStep_0 : decode cX12_isStep 0 = .ok (.iload_n 1, 1) := by decide +kernel
theorem dX12_isStep_1 : decode cX12_isStep 1 = .ok (.iconst 0, 1) := by decide +kernel
theorem dX12_isStep_2 : decode cX12_isStep 2 = .ok (.aload_n 0, 1) := by decide +kernel
theorem dX12_isStep_3 : decode cX12_isStep 3 = .ok (.invokevirtual 321, 3) := by decide +kernel
theorem dX12_isStep_6 : decode cX12_isStep 6 = .ok (.iconst 1, 1) := by decide +kernel
theorem dX12_isStep_7 : decode cX12_isStep 7 = .ok (.isub, 1) := by decide +kernel
theorem dX12_isStep_8 : decode cX12_isStep 8 = .ok (.invokestatic 324, 3) := by decide +kernel
theorem dX12_isStep_11 : decode cX12_isStep 11 = .ok (.ireturn, 1) := by decide +kernel
theorem dX12_isEnd_0 : decode cX12_isEnd 0 = .ok (.iload_n 1, 1) := by decide +kernel
theorem dX12_isEnd_1 : decode cX12_isEnd 1 = .ok (.iconst 0, 1) := by decide +kernel
theorem dX12_isEnd_2 : decode cX12_isEnd 2 = .ok (.aload_n 0, 1) := by decide +kernel
theorem dX12_isEnd_3 : decode cX12_isEnd 3 = .ok (.getfield 27, 3) := by decide +kernel
theorem dX12_isEnd_6 : decode cX12_isEnd 6 = .ok (.aload_n 0, 1) := by decide +kernel
theorem dX12_isEnd_7 : decode cX12_isEnd 7 = .ok (.getfield 240, 3) := by decide +kernel
theorem dX12_isEnd_10 : decode cX12_isEnd 10 = .ok (.iaload, 1) := by decide +kernel
theorem dX12_isEnd_11 : decode cX12_isEnd 11 = .ok (.iconst 1, 1) := by decide +kernel
theorem dX12_isEnd_12 : decode cX12_isEnd 12 = .ok (.isub, 1) := by decide +kernel
theorem dX12_isEnd_13 : decode cX12_isEnd 13 = .ok (.invokestatic 324, 3) := by decide +kernel
theorem dX12_isEnd_16 : decode cX12_isEnd 16 = .ok (.ireturn, 1) := by decide +kernel
theorem dX12_span_0 : decode cX12_span 0 = .ok (.aload_n 0, 1) := by decide +kernel
theorem dX12_span_1 : decode cX12_span 1 = .ok (.iload_n 1, 1) := by decide +kernel
theorem dX12_span_2 : decode cX12_span 2 = .ok (.invokevirtual 328, 3) := by decide +kernel
theorem dX12_span_5 : decode cX12_span 5 = .ok (.ifCond .ne 7, 3) := by decide +kernel
theorem dX12_span_12 : decode cX12_span 12 = .ok (.iload_n 2, 1) := by decide +kernel
theorem dX12_span_13 : decode cX12_span 13 = .ok (.ifCond .eq 16, 3) := by decide +kernel
theorem dX12_span_29 : decode cX12_span 29 = .ok (.aload_n 0, 1) := by decide +kernel
theorem dX12_span_30 : decode cX12_span 30 = .ok (.getfield 70, 3) := by decide +kernel
theorem dX12_span_33 : decode cX12_span 33 = .ok (.aload_n 0, 1) := by decide +kernel
theorem dX12_span_34 : decode cX12_span 34 = .ok (.iload_n 1, 1) := by decide +kernel
theorem dX12_span_35 : decode cX12_span 35 = .ok (.invokevirtual 331, 3) := by decide +kernel
theorem dX12_span_38 : decode cX12_span 38 = .ok (.laload, 1) := by decide +kernel
theorem dX12_span_39 : decode cX12_span 39 = .ok (.l2i, 1) := by decide +kernel
theorem dX12_span_40 : decode cX12_span 40 = .ok (.ireturn, 1) := by decide +kernel
theorem dX12_span_16 : decode cX12_span 16 = .ok (.aload_n 0, 1) := by decide +kernel
theorem dX12_span_17 : decode cX12_span 17 = .ok (.getfield 73, 3) := by decide +kernel
theorem dX12_span_20 : decode cX12_span 20 = .ok (.aload_n 0, 1) := by decide +kernel
theorem dX12_span_21 : decode cX12_span 21 = .ok (.iload_n 1, 1) := by decide +kernel
theorem dX12_span_22 : decode cX12_span 22 = .ok (.invokevirtual 331, 3) := by decide +kernel
theorem dX12_span_25 : decode cX12_span 25 = .ok (.laload, 1) := by decide +kernel
theorem dX12_span_26 : decode cX12_span 26 = .ok (.goto 13, 3) := by decide +kernel
theorem dX12_span_8 : decode cX12_span 8 = .ok (.iconst 0, 1) := by decide +kernel
theorem dX12_span_9 : decode cX12_span 9 = .ok (.goto 31, 3) := by decide +kernel
theorem dX12_put_0 : decode cX12_put 0 = .ok (.iload_n 1, 1) := by decide +kernel
theorem dX12_put_1 : decode cX12_put 1 = .ok (.iconst 0, 1) := by decide +kernel
theorem dX12_put_2 : decode cX12_put 2 = .ok (.aload_n 0, 1) := by decide +kernel
theorem dX12_put_3 : decode cX12_put 3 = .ok (.getfield 249, 3) := by decide +kernel
theorem dX12_put_6 : decode cX12_put 6 = .ok (.iconst 1, 1) := by decide +kernel
theorem dX12_put_7 : decode cX12_put 7 = .ok (.isub, 1) := by decide +kernel
theorem dX12_put_8 : decode cX12_put 8 = .ok (.invokestatic 324, 3) := by decide +kernel
theorem dX12_put_11 : decode cX12_put 11 = .ok (.ifCond .eq 22, 3) := by decide +kernel
theorem dX12_put_33 : decode cX12_put 33 = .ok (.iconst 0, 1) := by decide +kernel
theorem dX12_put_34 : decode cX12_put 34 = .ok (.ireturn, 1) := by decide +kernel
theorem dX12_put_14 : decode cX12_put 14 = .ok (.iload_n 2, 1) := by decide +kernel
theorem dX12_put_15 : decode cX12_put 15 = .ok (.iconst 0, 1) := by decide +kernel
theorem dX12_put_16 : decode cX12_put 16 = .ok (.aload_n 0, 1) := by decide +kernel
theorem dX12_put_17 : decode cX12_put 17 = .ok (.getfield 20, 3) := by decide +kernel
theorem dX12_put_20 : decode cX12_put 20 = .ok (.aload_n 0, 1) := by decide +kernel
theorem dX12_put_21 : decode cX12_put 21 = .ok (.getfield 240, 3) := by decide +kernel
theorem dX12_put_24 : decode cX12_put 24 = .ok (.iaload, 1) := by decide +kernel
theorem dX12_put_25 : decode cX12_put 25 = .ok (.iconst 1, 1) := by decide +kernel
theorem dX12_put_26 : decode cX12_put 26 = .ok (.isub, 1) := by decide +kernel
theorem dX12_put_27 : decode cX12_put 27 = .ok (.invokestatic 324, 3) := by decide +kernel
theorem dX12_put_30 : decode cX12_put 30 = .ok (.ifCond .ne 5, 3) := by decide +kernel
theorem dX12_put_35 : decode cX12_put 35 = .ok (.iconst 2, 1) := by decide +kernel
theorem dX12_put_36 : decode cX12_put 36 = .ok (.aload_n 0, 1) := by decide +kernel
theorem dX12_put_37 : decode cX12_put 37 = .ok (.getfield 240, 3) := by decide +kernel
theorem dX12_put_40 : decode cX12_put 40 = .ok (.imul, 1) := by decide +kernel
theorem dX12_put_41 : decode cX12_put 41 = .ok (.iload_n 2, 1) := by decide +kernel
theorem dX12_put_42 : decode cX12_put 42 = .ok (.iadd, 1) := by decide +kernel
theorem dX12_put_43 : decode cX12_put 43 = .ok (.istore 5, 2) := by decide +kernel
theorem dX12_put_45 : decode cX12_put 45 = .ok (.iload_n 3, 1) := by decide +kernel
theorem dX12_put_46 : decode cX12_put 46 = .ok (.iconst 0, 1) := by decide +kernel
theorem dX12_put_47 : decode cX12_put 47 = .ok (.aload_n 0, 1) := by decide +kernel
theorem dX12_put_48 : decode cX12_put 48 = .ok (.getfield 30, 3) := by decide +kernel
theorem dX12_put_51 : decode cX12_put 51 = .ok (.iload 5, 2) := by decide +kernel
theorem dX12_put_53 : decode cX12_put 53 = .ok (.iaload, 1) := by decide +kernel
theorem dX12_put_54 : decode cX12_put 54 = .ok (.iconst 1, 1) := by decide +kernel
theorem dX12_put_55 : decode cX12_put 55 = .ok (.isub, 1) := by decide +kernel
theorem dX12_put_56 : decode cX12_put 56 = .ok (.invokestatic 324, 3) := by decide +kernel
theorem dX12_put_59 : decode cX12_put 59 = .ok (.ifCond .eq 25, 3) := by decide +kernel
theorem dX12_put_84 : decode cX12_put 84 = .ok (.iconst 0, 1) := by decide +kernel
theorem dX12_put_85 : decode cX12_put 85 = .ok (.ireturn, 1) := by decide +kernel
theorem dX12_put_62 : decode cX12_put 62 = .ok (.iload 4, 2) := by decide +kernel
theorem dX12_put_64 : decode cX12_put 64 = .ok (.aload_n 0, 1) := by decide +kernel
theorem dX12_put_65 : decode cX12_put 65 = .ok (.getfield 33, 3) := by decide +kernel
theorem dX12_put_68 : decode cX12_put 68 = .ok (.iload 5, 2) := by decide +kernel
theorem dX12_put_70 : decode cX12_put 70 = .ok (.iaload, 1) := by decide +kernel
theorem dX12_put_71 : decode cX12_put 71 = .ok (.aload_n 0, 1) := by decide +kernel
theorem dX12_put_72 : decode cX12_put 72 = .ok (.getfield 36, 3) := by decide +kernel
theorem dX12_put_75 : decode cX12_put 75 = .ok (.iload 5, 2) := by decide +kernel
theorem dX12_put_77 : decode cX12_put 77 = .ok (.iaload, 1) := by decide +kernel
theorem dX12_put_78 : decode cX12_put 78 = .ok (.invokestatic 324, 3) := by decide +kernel
theorem dX12_put_81 : decode cX12_put 81 = .ok (.ifCond .ne 5, 3) := by decide +kernel
theorem dX12_put_86 : decode cX12_put 86 = .ok (.aload_n 0, 1) := by decide +kernel
theorem dX12_put_87 : decode cX12_put 87 = .ok (.getfield 76, 3) := by decide +kernel
theorem dX12_put_90 : decode cX12_put 90 = .ok (.bipush 12, 2) := by decide +kernel
theorem dX12_put_92 : decode cX12_put 92 = .ok (.iload_n 1, 1) := by decide +kernel
theorem dX12_put_93 : decode cX12_put 93 = .ok (.imul, 1) := by decide +kernel
theorem dX12_put_94 : decode cX12_put 94 = .ok (.bipush 6, 2) := by decide +kernel
theorem dX12_put_96 : decode cX12_put 96 = .ok (.iload_n 2, 1) := by decide +kernel
theorem dX12_put_97 : decode cX12_put 97 = .ok (.imul, 1) := by decide +kernel
theorem dX12_put_98 : decode cX12_put 98 = .ok (.iadd, 1) := by decide +kernel
theorem dX12_put_99 : decode cX12_put 99 = .ok (.iload_n 3, 1) := by decide +kernel
theorem dX12_put_100 : decode cX12_put 100 = .ok (.iadd, 1) := by decide +kernel
theorem dX12_put_101 : decode cX12_put 101 = .ok (.iload 4, 2) := by decide +kernel
theorem dX12_put_103 : decode cX12_put 103 = .ok (.iastore, 1) := by decide +kernel
theorem dX12_put_104 : decode cX12_put 104 = .ok (.iconst 1, 1) := by decide +kernel
theorem dX12_put_105 : decode cX12_put 105 = .ok (.ireturn, 1) := by decide +kernel
theorem dX12_mayChange_0 : decode cX12_mayChange 0 = .ok (.aload_n 0, 1) := by decide +kernel
theorem dX12_mayChange_1 : decode cX12_mayChange 1 = .ok (.getfield 39, 3) := by decide +kernel
theorem dX12_mayChange_4 : decode cX12_mayChange 4 = .ok (.aload_n 0, 1) := by decide +kernel
theorem dX12_mayChange_5 : decode cX12_mayChange 5 = .ok (.iload_n 1, 1) := by decide +kernel
theorem dX12_mayChange_6 : decode cX12_mayChange 6 = .ok (.invokevirtual 331, 3) := by decide +kernel
theorem dX12_mayChange_9 : decode cX12_mayChange 9 = .ok (.iaload, 1) := by decide +kernel
theorem dX12_mayChange_10 : decode cX12_mayChange 10 = .ok (.istore 4, 2) := by decide +kernel
theorem dX12_mayChange_12 : decode cX12_mayChange 12 = .ok (.iload_n 2, 1) := by decide +kernel
theorem dX12_mayChange_13 : decode cX12_mayChange 13 = .ok (.tableswitch 192 0 6 #[43, 64, 72, 94, 128, 138, 164], 43) := by decide +kernel
theorem dX12_mayChange_205 : decode cX12_mayChange 205 = .ok (.iconst 0, 1) := by decide +kernel
theorem dX12_mayChange_206 : decode cX12_mayChange 206 = .ok (.ireturn, 1) := by decide +kernel
theorem dX12_mayChange_56 : decode cX12_mayChange 56 = .ok (.iload 4, 2) := by decide +kernel
theorem dX12_mayChange_58 : decode cX12_mayChange 58 = .ok (.ifCond .ne 17, 3) := by decide +kernel
theorem dX12_mayChange_75 : decode cX12_mayChange 75 = .ok (.iconst 0, 1) := by decide +kernel
theorem dX12_mayChange_76 : decode cX12_mayChange 76 = .ok (.ireturn, 1) := by decide +kernel
theorem dX12_mayChange_61 : decode cX12_mayChange 61 = .ok (.iload_n 3, 1) := by decide +kernel
theorem dX12_mayChange_62 : decode cX12_mayChange 62 = .ok (.iconst 2, 1) := by decide +kernel
theorem dX12_mayChange_63 : decode cX12_mayChange 63 = .ok (.bipush 6, 2) := by decide +kernel
theorem dX12_mayChange_65 : decode cX12_mayChange 65 = .ok (.invokestatic 324, 3) := by decide +kernel
theorem dX12_mayChange_68 : decode cX12_mayChange 68 = .ok (.ifCond .eq 7, 3) := by decide +kernel
theorem dX12_mayChange_71 : decode cX12_mayChange 71 = .ok (.iconst 1, 1) := by decide +kernel
theorem dX12_mayChange_72 : decode cX12_mayChange 72 = .ok (.goto 4, 3) := by decide +kernel
theorem dX12_mayChange_77 : decode cX12_mayChange 77 = .ok (.iload_n 3, 1) := by decide +kernel
theorem dX12_mayChange_78 : decode cX12_mayChange 78 = .ok (.iconst 1, 1) := by decide +kernel
theorem dX12_mayChange_79 : decode cX12_mayChange 79 = .ok (.bipush 10, 2) := by decide +kernel
theorem dX12_mayChange_81 : decode cX12_mayChange 81 = .ok (.invokestatic 324, 3) := by decide +kernel
theorem dX12_mayChange_84 : decode cX12_mayChange 84 = .ok (.ireturn, 1) := by decide +kernel
theorem dX12_mayChange_85 : decode cX12_mayChange 85 = .ok (.iload 4, 2) := by decide +kernel
theorem dX12_mayChange_87 : decode cX12_mayChange 87 = .ok (.bipush 7, 2) := by decide +kernel
theorem dX12_mayChange_89 : decode cX12_mayChange 89 = .ok (.if_icmp .ne 16, 3) := by decide +kernel
theorem dX12_mayChange_105 : decode cX12_mayChange 105 = .ok (.iconst 0, 1) := by decide +kernel
theorem dX12_mayChange_106 : decode cX12_mayChange 106 = .ok (.ireturn, 1) := by decide +kernel
theorem dX12_mayChange_92 : decode cX12_mayChange 92 = .ok (.iload_n 3, 1) := by decide +kernel
theorem dX12_mayChange_93 : decode cX12_mayChange 93 = .ok (.iconst 0, 1) := by decide +kernel
theorem dX12_mayChange_94 : decode cX12_mayChange 94 = .ok (.iconst 1, 1) := by decide +kernel
theorem dX12_mayChange_95 : decode cX12_mayChange 95 = .ok (.invokestatic 324, 3) := by decide +kernel
theorem dX12_mayChange_98 : decode cX12_mayChange 98 = .ok (.ifCond .eq 7, 3) := by decide +kernel
theorem dX12_mayChange_101 : decode cX12_mayChange 101 = .ok (.iconst 1, 1) := by decide +kernel
theorem dX12_mayChange_102 : decode cX12_mayChange 102 = .ok (.goto 4, 3) := by decide +kernel
theorem dX12_mayChange_107 : decode cX12_mayChange 107 = .ok (.iload 4, 2) := by decide +kernel
theorem dX12_mayChange_109 : decode cX12_mayChange 109 = .ok (.ifCond .eq 16, 3) := by decide +kernel
theorem dX12_mayChange_125 : decode cX12_mayChange 125 = .ok (.iload_n 3, 1) := by decide +kernel
theorem dX12_mayChange_126 : decode cX12_mayChange 126 = .ok (.iconst 2, 1) := by decide +kernel
theorem dX12_mayChange_127 : decode cX12_mayChange 127 = .ok (.bipush 99, 2) := by decide +kernel
theorem dX12_mayChange_129 : decode cX12_mayChange 129 = .ok (.invokestatic 324, 3) := by decide +kernel
theorem dX12_mayChange_132 : decode cX12_mayChange 132 = .ok (.ifCond .eq 7, 3) := by decide +kernel
theorem dX12_mayChange_139 : decode cX12_mayChange 139 = .ok (.iconst 0, 1) := by decide +kernel
theorem dX12_mayChange_140 : decode cX12_mayChange 140 = .ok (.ireturn, 1) := by decide +kernel
theorem dX12_mayChange_135 : decode cX12_mayChange 135 = .ok (.iconst 1, 1) := by decide +kernel
theorem dX12_mayChange_136 : decode cX12_mayChange 136 = .ok (.goto 4, 3) := by decide +kernel
theorem dX12_mayChange_112 : decode cX12_mayChange 112 = .ok (.iload 4, 2) := by decide +kernel
theorem dX12_mayChange_114 : decode cX12_mayChange 114 = .ok (.iconst 1, 1) := by decide +kernel
theorem dX12_mayChange_115 : decode cX12_mayChange 115 = .ok (.if_icmp .eq 10, 3) := by decide +kernel
theorem dX12_mayChange_118 : decode cX12_mayChange 118 = .ok (.iload 4, 2) := by decide +kernel
theorem dX12_mayChange_120 : decode cX12_mayChange 120 = .ok (.bipush 6, 2) := by decide +kernel
theorem dX12_mayChange_122 : decode cX12_mayChange 122 = .ok (.if_icmp .ne 17, 3) := by decide +kernel
theorem dX12_mayChange_141 : decode cX12_mayChange 141 = .ok (.iload_n 3, 1) := by decide +kernel
theorem dX12_mayChange_142 : decode cX12_mayChange 142 = .ok (.ifCond .ne 7, 3) := by decide +kernel
theorem dX12_mayChange_149 : decode cX12_mayChange 149 = .ok (.iconst 0, 1) := by decide +kernel
theorem dX12_mayChange_150 : decode cX12_mayChange 150 = .ok (.ireturn, 1) := by decide +kernel
theorem dX12_mayChange_145 : decode cX12_mayChange 145 = .ok (.iconst 1, 1) := by decide +kernel
theorem dX12_mayChange_146 : decode cX12_mayChange 146 = .ok (.goto 4, 3) := by decide +kernel
theorem dX12_mayChange_151 : decode cX12_mayChange 151 = .ok (.iload 4, 2) := by decide +kernel
theorem dX12_mayChange_153 : decode cX12_mayChange 153 = .ok (.ifCond .eq 9, 3) := by decide +kernel
theorem dX12_mayChange_162 : decode cX12_mayChange 162 = .ok (.iload_n 3, 1) := by decide +kernel
theorem dX12_mayChange_163 : decode cX12_mayChange 163 = .ok (.iconst 1, 1) := by decide +kernel
theorem dX12_mayChange_164 : decode cX12_mayChange 164 = .ok (.iconst 5, 1) := by decide +kernel
theorem dX12_mayChange_165 : decode cX12_mayChange 165 = .ok (.invokestatic 324, 3) := by decide +kernel
theorem dX12_mayChange_168 : decode cX12_mayChange 168 = .ok (.ifCond .eq 7, 3) := by decide +kernel
theorem dX12_mayChange_175 : decode cX12_mayChange 175 = .ok (.iconst 0, 1) := by decide +kernel
theorem dX12_mayChange_176 : decode cX12_mayChange 176 = .ok (.ireturn, 1) := by decide +kernel
theorem dX12_mayChange_171 : decode cX12_mayChange 171 = .ok (.iconst 1, 1) := by decide +kernel
theorem dX12_mayChange_172 : decode cX12_mayChange 172 = .ok (.goto 4, 3) := by decide +kernel
theorem dX12_mayChange_156 : decode cX12_mayChange 156 = .ok (.iload 4, 2) := by decide +kernel
theorem dX12_mayChange_158 : decode cX12_mayChange 158 = .ok (.iconst 1, 1) := by decide +kernel
theorem dX12_mayChange_159 : decode cX12_mayChange 159 = .ok (.if_icmp .ne 16, 3) := by decide +kernel
theorem dX12_mayChange_177 : decode cX12_mayChange 177 = .ok (.iload 4, 2) := by decide +kernel
theorem dX12_mayChange_179 : decode cX12_mayChange 179 = .ok (.ifCond .eq 16, 3) := by decide +kernel
theorem dX12_mayChange_195 : decode cX12_mayChange 195 = .ok (.iload_n 3, 1) := by decide +kernel
theorem dX12_mayChange_196 : decode cX12_mayChange 196 = .ok (.ifCond .ne 7, 3) := by decide +kernel
theorem dX12_mayChange_203 : decode cX12_mayChange 203 = .ok (.iconst 0, 1) := by decide +kernel
theorem dX12_mayChange_204 : decode cX12_mayChange 204 = .ok (.ireturn, 1) := by decide +kernel
theorem dX12_mayChange_199 : decode cX12_mayChange 199 = .ok (.iconst 1, 1) := by decide +kernel
theorem dX12_mayChange_200 : decode cX12_mayChange 200 = .ok (.goto 4, 3) := by decide +kernel
theorem dX12_mayChange_182 : decode cX12_mayChange 182 = .ok (.iload 4, 2) := by decide +kernel
theorem dX12_mayChange_184 : decode cX12_mayChange 184 = .ok (.iconst 1, 1) := by decide +kernel
theorem dX12_mayChange_185 : decode cX12_mayChange 185 = .ok (.if_icmp .eq 10, 3) := by decide +kernel
theorem dX12_mayChange_188 : decode cX12_mayChange 188 = .ok (.iload 4, 2) := by decide +kernel
theorem dX12_mayChange_190 : decode cX12_mayChange 190 = .ok (.bipush 6, 2) := by decide +kernel
theorem dX12_mayChange_192 : decode cX12_mayChange 192 = .ok (.if_icmp .ne 11, 3) := by decide +kernel
theorem dX12_change_0 : decode cX12_change 0 = .ok (.aload_n 0, 1) := by decide +kernel
theorem dX12_change_1 : decode cX12_change 1 = .ok (.iload_n 1, 1) := by decide +kernel
theorem dX12_change_2 : decode cX12_change 2 = .ok (.invokevirtual 328, 3) := by decide +kernel
theorem dX12_change_5 : decode cX12_change 5 = .ok (.ifCond .eq 24, 3) := by decide +kernel
theorem dX12_change_29 : decode cX12_change 29 = .ok (.iconst (-1), 1) := by decide +kernel
theorem dX12_change_30 : decode cX12_change 30 = .ok (.ireturn, 1) := by decide +kernel
theorem dX12_change_8 : decode cX12_change 8 = .ok (.aload_n 0, 1) := by decide +kernel
theorem dX12_change_9 : decode cX12_change 9 = .ok (.getfield 252, 3) := by decide +kernel
theorem dX12_change_12 : decode cX12_change 12 = .ok (.bipush 12, 2) := by decide +kernel
theorem dX12_change_14 : decode cX12_change 14 = .ok (.if_icmp .eq 15, 3) := by decide +kernel
theorem dX12_change_17 : decode cX12_change 17 = .ok (.iload 4, 2) := by decide +kernel
theorem dX12_change_19 : decode cX12_change 19 = .ok (.iconst 0, 1) := by decide +kernel
theorem dX12_change_20 : decode cX12_change 20 = .ok (.sipush 999, 3) := by decide +kernel
theorem dX12_change_23 : decode cX12_change 23 = .ok (.invokestatic 324, 3) := by decide +kernel
theorem dX12_change_26 : decode cX12_change 26 = .ok (.ifCond .ne 5, 3) := by decide +kernel
theorem dX12_change_31 : decode cX12_change 31 = .ok (.aload_n 0, 1) := by decide +kernel
theorem dX12_change_32 : decode cX12_change 32 = .ok (.iload_n 1, 1) := by decide +kernel
theorem dX12_change_33 : decode cX12_change 33 = .ok (.iload_n 2, 1) := by decide +kernel
theorem dX12_change_34 : decode cX12_change 34 = .ok (.iload_n 3, 1) := by decide +kernel
theorem dX12_change_35 : decode cX12_change 35 = .ok (.invokevirtual 334, 3) := by decide +kernel
theorem dX12_change_38 : decode cX12_change 38 = .ok (.ifCond .ne 5, 3) := by decide +kernel
theorem dX12_change_43 : decode cX12_change 43 = .ok (.aload_n 0, 1) := by decide +kernel
theorem dX12_change_44 : decode cX12_change 44 = .ok (.getfield 82, 3) := by decide +kernel
theorem dX12_change_47 : decode cX12_change 47 = .ok (.aload_n 0, 1) := by decide +kernel
theorem dX12_change_48 : decode cX12_change 48 = .ok (.getfield 252, 3) := by decide +kernel
theorem dX12_change_51 : decode cX12_change 51 = .ok (.iload_n 1, 1) := by decide +kernel
theorem dX12_change_52 : decode cX12_change 52 = .ok (.iastore, 1) := by decide +kernel
theorem dX12_change_53 : decode cX12_change 53 = .ok (.aload_n 0, 1) := by decide +kernel
theorem dX12_change_54 : decode cX12_change 54 = .ok (.getfield 85, 3) := by decide +kernel
theorem dX12_change_57 : decode cX12_change 57 = .ok (.aload_n 0, 1) := by decide +kernel
theorem dX12_change_58 : decode cX12_change 58 = .ok (.getfield 252, 3) := by decide +kernel
theorem dX12_change_61 : decode cX12_change 61 = .ok (.iload_n 2, 1) := by decide +kernel
theorem dX12_change_62 : decode cX12_change 62 = .ok (.iastore, 1) := by decide +kernel
theorem dX12_change_63 : decode cX12_change 63 = .ok (.aload_n 0, 1) := by decide +kernel
theorem dX12_change_64 : decode cX12_change 64 = .ok (.getfield 88, 3) := by decide +kernel
theorem dX12_change_67 : decode cX12_change 67 = .ok (.aload_n 0, 1) := by decide +kernel
theorem dX12_change_68 : decode cX12_change 68 = .ok (.getfield 252, 3) := by decide +kernel
theorem dX12_change_71 : decode cX12_change 71 = .ok (.iload_n 3, 1) := by decide +kernel
theorem dX12_change_72 : decode cX12_change 72 = .ok (.iastore, 1) := by decide +kernel
theorem dX12_change_73 : decode cX12_change 73 = .ok (.aload_n 0, 1) := by decide +kernel
theorem dX12_change_74 : decode cX12_change 74 = .ok (.getfield 91, 3) := by decide +kernel
theorem dX12_change_77 : decode cX12_change 77 = .ok (.aload_n 0, 1) := by decide +kernel
theorem dX12_change_78 : decode cX12_change 78 = .ok (.getfield 252, 3) := by decide +kernel
theorem dX12_change_81 : decode cX12_change 81 = .ok (.iload 4, 2) := by decide +kernel
theorem dX12_change_83 : decode cX12_change 83 = .ok (.iastore, 1) := by decide +kernel
theorem dX12_change_84 : decode cX12_change 84 = .ok (.aload_n 0, 1) := by decide +kernel
theorem dX12_change_85 : decode cX12_change 85 = .ok (.dup, 1) := by decide +kernel
theorem dX12_change_86 : decode cX12_change 86 = .ok (.getfield 252, 3) := by decide +kernel
theorem dX12_change_89 : decode cX12_change 89 = .ok (.iconst 1, 1) := by decide +kernel
theorem dX12_change_90 : decode cX12_change 90 = .ok (.iadd, 1) := by decide +kernel
theorem dX12_change_91 : decode cX12_change 91 = .ok (.putfield 252, 3) := by decide +kernel
theorem dX12_change_94 : decode cX12_change 94 = .ok (.aload_n 0, 1) := by decide +kernel
theorem dX12_change_95 : decode cX12_change 95 = .ok (.getfield 252, 3) := by decide +kernel
theorem dX12_change_98 : decode cX12_change 98 = .ok (.iconst 1, 1) := by decide +kernel
theorem dX12_change_99 : decode cX12_change 99 = .ok (.isub, 1) := by decide +kernel
theorem dX12_change_100 : decode cX12_change 100 = .ok (.ireturn, 1) := by decide +kernel
theorem dX12_change_41 : decode cX12_change 41 = .ok (.iconst (-1), 1) := by decide +kernel
theorem dX12_change_42 : decode cX12_change 42 = .ok (.ireturn, 1) := by decide +kernel
theorem dX12_isChoice_39 : decode cX12_isChoice 39 = .ok (.iload_n 2, 1) := by decide +kernel
theorem dX12_isChoice_40 : decode cX12_isChoice 40 = .ok (.aload_n 0, 1) := by decide +kernel
theorem dX12_isChoice_41 : decode cX12_isChoice 41 = .ok (.getfield 252, 3) := by decide +kernel
theorem dX12_isChoice_44 : decode cX12_isChoice 44 = .ok (.if_icmp .ge 48, 3) := by decide +kernel
theorem dX12_isChoice_92 : decode cX12_isChoice 92 = .ok (.iconst 1, 1) := by decide +kernel
theorem dX12_isChoice_93 : decode cX12_isChoice 93 = .ok (.ireturn, 1) := by decide +kernel
theorem dX12_isChoice_47 : decode cX12_isChoice 47 = .ok (.iload_n 1, 1) := by decide +kernel
theorem dX12_isChoice_48 : decode cX12_isChoice 48 = .ok (.iload_n 2, 1) := by decide +kernel
theorem dX12_isChoice_49 : decode cX12_isChoice 49 = .ok (.ishr, 1) := by decide +kernel
theorem dX12_isChoice_50 : decode cX12_isChoice 50 = .ok (.iconst 1, 1) := by decide +kernel
theorem dX12_isChoice_51 : decode cX12_isChoice 51 = .ok (.iand, 1) := by decide +kernel
theorem dX12_isChoice_52 : decode cX12_isChoice 52 = .ok (.ifCond .ne 6, 3) := by decide +kernel
theorem dX12_isChoice_58 : decode cX12_isChoice 58 = .ok (.aload_n 0, 1) := by decide +kernel
theorem dX12_isChoice_59 : decode cX12_isChoice 59 = .ok (.getfield 94, 3) := by decide +kernel
theorem dX12_isChoice_62 : decode cX12_isChoice 62 = .ok (.aload_n 0, 1) := by decide +kernel
theorem dX12_isChoice_63 : decode cX12_isChoice 63 = .ok (.getfield 82, 3) := by decide +kernel
theorem dX12_isChoice_66 : decode cX12_isChoice 66 = .ok (.iload_n 2, 1) := by decide +kernel
theorem dX12_isChoice_67 : decode cX12_isChoice 67 = .ok (.iaload, 1) := by decide +kernel
theorem dX12_isChoice_68 : decode cX12_isChoice 68 = .ok (.iaload, 1) := by decide +kernel
theorem dX12_isChoice_69 : decode cX12_isChoice 69 = .ok (.ifCond .lt 5, 3) := by decide +kernel
theorem dX12_isChoice_74 : decode cX12_isChoice 74 = .ok (.aload_n 0, 1) := by decide +kernel
theorem dX12_isChoice_75 : decode cX12_isChoice 75 = .ok (.getfield 94, 3) := by decide +kernel
theorem dX12_isChoice_78 : decode cX12_isChoice 78 = .ok (.aload_n 0, 1) := by decide +kernel
theorem dX12_isChoice_79 : decode cX12_isChoice 79 = .ok (.getfield 82, 3) := by decide +kernel
theorem dX12_isChoice_82 : decode cX12_isChoice 82 = .ok (.iload_n 2, 1) := by decide +kernel
theorem dX12_isChoice_83 : decode cX12_isChoice 83 = .ok (.iaload, 1) := by decide +kernel
theorem dX12_isChoice_84 : decode cX12_isChoice 84 = .ok (.iload_n 2, 1) := by decide +kernel
theorem dX12_isChoice_85 : decode cX12_isChoice 85 = .ok (.iastore, 1) := by decide +kernel
theorem dX12_isChoice_86 : decode cX12_isChoice 86 = .ok (.iinc 2 1, 3) := by decide +kernel
theorem dX12_isChoice_89 : decode cX12_isChoice 89 = .ok (.goto (-50), 3) := by decide +kernel
theorem dX12_isChoice_72 : decode cX12_isChoice 72 = .ok (.iconst 0, 1) := by decide +kernel
theorem dX12_isChoice_73 : decode cX12_isChoice 73 = .ok (.ireturn, 1) := by decide +kernel
theorem dX12_isChoice_55 : decode cX12_isChoice 55 = .ok (.goto 31, 3) := by decide +kernel
theorem dX12_isChoice_18 : decode cX12_isChoice 18 = .ok (.iload_n 2, 1) := by decide +kernel
theorem dX12_isChoice_19 : decode cX12_isChoice 19 = .ok (.bipush 12, 2) := by decide +kernel
theorem dX12_isChoice_21 : decode cX12_isChoice 21 = .ok (.if_icmp .ge 16, 3) := by decide +kernel
theorem dX12_isChoice_37 : decode cX12_isChoice 37 = .ok (.iconst 0, 1) := by decide +kernel
theorem dX12_isChoice_38 : decode cX12_isChoice 38 = .ok (.istore_n 2, 1) := by decide +kernel
theorem dX12_isChoice_24 : decode cX12_isChoice 24 = .ok (.aload_n 0, 1) := by decide +kernel
theorem dX12_isChoice_25 : decode cX12_isChoice 25 = .ok (.getfield 94, 3) := by decide +kernel
theorem dX12_isChoice_28 : decode cX12_isChoice 28 = .ok (.iload_n 2, 1) := by decide +kernel
theorem dX12_isChoice_29 : decode cX12_isChoice 29 = .ok (.iconst (-1), 1) := by decide +kernel
theorem dX12_isChoice_30 : decode cX12_isChoice 30 = .ok (.iastore, 1) := by decide +kernel
theorem dX12_isChoice_31 : decode cX12_isChoice 31 = .ok (.iinc 2 1, 3) := by decide +kernel
theorem dX12_isChoice_34 : decode cX12_isChoice 34 = .ok (.goto (-16), 3) := by decide +kernel
theorem dX12_isChoice_0 : decode cX12_isChoice 0 = .ok (.iload_n 1, 1) := by decide +kernel
theorem dX12_isChoice_1 : decode cX12_isChoice 1 = .ok (.ifCond .lt 13, 3) := by decide +kernel
theorem dX12_isChoice_14 : decode cX12_isChoice 14 = .ok (.iconst 0, 1) := by decide +kernel
theorem dX12_isChoice_15 : decode cX12_isChoice 15 = .ok (.ireturn, 1) := by decide +kernel
theorem dX12_isChoice_4 : decode cX12_isChoice 4 = .ok (.iload_n 1, 1) := by decide +kernel
theorem dX12_isChoice_5 : decode cX12_isChoice 5 = .ok (.iconst 1, 1) := by decide +kernel
theorem dX12_isChoice_6 : decode cX12_isChoice 6 = .ok (.aload_n 0, 1) := by decide +kernel
theorem dX12_isChoice_7 : decode cX12_isChoice 7 = .ok (.getfield 252, 3) := by decide +kernel
theorem dX12_isChoice_10 : decode cX12_isChoice 10 = .ok (.ishl, 1) := by decide +kernel
theorem dX12_isChoice_11 : decode cX12_isChoice 11 = .ok (.if_icmp .lt 5, 3) := by decide +kernel
theorem dX12_isChoice_16 : decode cX12_isChoice 16 = .ok (.iconst 0, 1) := by decide +kernel
theorem dX12_isChoice_17 : decode cX12_isChoice 17 = .ok (.istore_n 2, 1) := by decide +kernel
theorem dX12_savedBy_4 : decode cX12_savedBy 4 = .ok (.iload_n 3, 1) := by decide +kernel
theorem dX12_savedBy_5 : decode cX12_savedBy 5 = .ok (.aload_n 0, 1) := by decide +kernel
theorem dX12_savedBy_6 : decode cX12_savedBy 6 = .ok (.getfield 252, 3) := by decide +kernel
theorem dX12_savedBy_9 : decode cX12_savedBy 9 = .ok (.if_icmp .ge 31, 3) := by decide +kernel
theorem dX12_savedBy_40 : decode cX12_savedBy 40 = .ok (.iload_n 2, 1) := by decide +kernel
theorem dX12_savedBy_41 : decode cX12_savedBy 41 = .ok (.ireturn, 1) := by decide +kernel
theorem dX12_savedBy_12 : decode cX12_savedBy 12 = .ok (.iload_n 2, 1) := by decide +kernel
theorem dX12_savedBy_13 : decode cX12_savedBy 13 = .ok (.iload_n 1, 1) := by decide +kernel
theorem dX12_savedBy_14 : decode cX12_savedBy 14 = .ok (.iload_n 3, 1) := by decide +kernel
theorem dX12_savedBy_15 : decode cX12_savedBy 15 = .ok (.ishr, 1) := by decide +kernel
theorem dX12_savedBy_16 : decode cX12_savedBy 16 = .ok (.iconst 1, 1) := by decide +kernel
theorem dX12_savedBy_17 : decode cX12_savedBy 17 = .ok (.iand, 1) := by decide +kernel
theorem dX12_savedBy_18 : decode cX12_savedBy 18 = .ok (.iconst 1, 1) := by decide +kernel
theorem dX12_savedBy_19 : decode cX12_savedBy 19 = .ok (.if_icmp .ne 12, 3) := by decide +kernel
theorem dX12_savedBy_31 : decode cX12_savedBy 31 = .ok (.iconst 0, 1) := by decide +kernel
theorem dX12_savedBy_32 : decode cX12_savedBy 32 = .ok (.iadd, 1) := by decide +kernel
theorem dX12_savedBy_33 : decode cX12_savedBy 33 = .ok (.istore_n 2, 1) := by decide +kernel
theorem dX12_savedBy_34 : decode cX12_savedBy 34 = .ok (.iinc 3 1, 3) := by decide +kernel
theorem dX12_savedBy_37 : decode cX12_savedBy 37 = .ok (.goto (-33), 3) := by decide +kernel
theorem dX12_savedBy_22 : decode cX12_savedBy 22 = .ok (.aload_n 0, 1) := by decide +kernel
theorem dX12_savedBy_23 : decode cX12_savedBy 23 = .ok (.getfield 91, 3) := by decide +kernel
theorem dX12_savedBy_26 : decode cX12_savedBy 26 = .ok (.iload_n 3, 1) := by decide +kernel
theorem dX12_savedBy_27 : decode cX12_savedBy 27 = .ok (.iaload, 1) := by decide +kernel
theorem dX12_savedBy_28 : decode cX12_savedBy 28 = .ok (.goto 4, 3) := by decide +kernel
theorem dX12_savedBy_0 : decode cX12_savedBy 0 = .ok (.iconst 0, 1) := by decide +kernel
theorem dX12_savedBy_1 : decode cX12_savedBy 1 = .ok (.istore_n 2, 1) := by decide +kernel
theorem dX12_savedBy_2 : decode cX12_savedBy 2 = .ok (.iconst 0, 1) := by decide +kernel
theorem dX12_savedBy_3 : decode cX12_savedBy 3 = .ok (.istore_n 3, 1) := by decide +kernel
theorem dX12_about_0 : decode cX12_about 0 = .ok (.iload_n 1, 1) := by decide +kernel
theorem dX12_about_1 : decode cX12_about 1 = .ok (.tableswitch 97 0 7 #[47, 57, 62, 72, 77, 82, 87, 92], 47) := by decide +kernel
theorem dX12_about_98 : decode cX12_about 98 = .ok (.iconst (-1), 1) := by decide +kernel
theorem dX12_about_99 : decode cX12_about 99 = .ok (.ireturn, 1) := by decide +kernel
theorem dX12_about_48 : decode cX12_about 48 = .ok (.aload_n 0, 1) := by decide +kernel
theorem dX12_about_49 : decode cX12_about 49 = .ok (.getfield 20, 3) := by decide +kernel
theorem dX12_about_52 : decode cX12_about 52 = .ok (.aload_n 0, 1) := by decide +kernel
theorem dX12_about_53 : decode cX12_about 53 = .ok (.getfield 240, 3) := by decide +kernel
theorem dX12_about_56 : decode cX12_about 56 = .ok (.iaload, 1) := by decide +kernel
theorem dX12_about_57 : decode cX12_about 57 = .ok (.ireturn, 1) := by decide +kernel
theorem dX12_about_58 : decode cX12_about 58 = .ok (.aload_n 0, 1) := by decide +kernel
theorem dX12_about_59 : decode cX12_about 59 = .ok (.invokevirtual 321, 3) := by decide +kernel
theorem dX12_about_62 : decode cX12_about 62 = .ok (.ireturn, 1) := by decide +kernel
theorem dX12_about_63 : decode cX12_about 63 = .ok (.aload_n 0, 1) := by decide +kernel
theorem dX12_about_64 : decode cX12_about 64 = .ok (.getfield 27, 3) := by decide +kernel
theorem dX12_about_67 : decode cX12_about 67 = .ok (.aload_n 0, 1) := by decide +kernel
theorem dX12_about_68 : decode cX12_about 68 = .ok (.getfield 240, 3) := by decide +kernel
theorem dX12_about_71 : decode cX12_about 71 = .ok (.iaload, 1) := by decide +kernel
theorem dX12_about_72 : decode cX12_about 72 = .ok (.ireturn, 1) := by decide +kernel
theorem dX12_about_73 : decode cX12_about 73 = .ok (.aload_n 0, 1) := by decide +kernel
theorem dX12_about_74 : decode cX12_about 74 = .ok (.getfield 249, 3) := by decide +kernel
theorem dX12_about_77 : decode cX12_about 77 = .ok (.ireturn, 1) := by decide +kernel
theorem dX12_about_78 : decode cX12_about 78 = .ok (.aload_n 0, 1) := by decide +kernel
theorem dX12_about_79 : decode cX12_about 79 = .ok (.getfield 252, 3) := by decide +kernel
theorem dX12_about_82 : decode cX12_about 82 = .ok (.ireturn, 1) := by decide +kernel
theorem dX12_about_83 : decode cX12_about 83 = .ok (.aload_n 0, 1) := by decide +kernel
theorem dX12_about_84 : decode cX12_about 84 = .ok (.getfield 255, 3) := by decide +kernel
theorem dX12_about_87 : decode cX12_about 87 = .ok (.ireturn, 1) := by decide +kernel
theorem dX12_about_88 : decode cX12_about 88 = .ok (.aload_n 0, 1) := by decide +kernel
theorem dX12_about_89 : decode cX12_about 89 = .ok (.getfield 258, 3) := by decide +kernel
theorem dX12_about_92 : decode cX12_about 92 = .ok (.ireturn, 1) := by decide +kernel
theorem dX12_about_93 : decode cX12_about 93 = .ok (.aload_n 0, 1) := by decide +kernel
theorem dX12_about_94 : decode cX12_about 94 = .ok (.getfield 237, 3) := by decide +kernel
theorem dX12_about_97 : decode cX12_about 97 = .ok (.ireturn, 1) := by decide +kernel
theorem dX12_lesser_0 : decode cX12_lesser 0 = .ok (.lload_n 0, 1) := by decide +kernel
theorem dX12_lesser_1 : decode cX12_lesser 1 = .ok (.lload_n 2, 1) := by decide +kernel
theorem dX12_lesser_2 : decode cX12_lesser 2 = .ok (.lcmp, 1) := by decide +kernel
theorem dX12_lesser_3 : decode cX12_lesser 3 = .ok (.ifCond .ge 7, 3) := by decide +kernel
theorem dX12_lesser_10 : decode cX12_lesser 10 = .ok (.lload_n 2, 1) := by decide +kernel
theorem dX12_lesser_11 : decode cX12_lesser 11 = .ok (.lreturn, 1) := by decide +kernel
theorem dX12_lesser_6 : decode cX12_lesser 6 = .ok (.lload_n 0, 1) := by decide +kernel
theorem dX12_lesser_7 : decode cX12_lesser 7 = .ok (.goto 4, 3) := by decide +kernel
theorem dX12_greater_0 : decode cX12_greater 0 = .ok (.lload_n 0, 1) := by decide +kernel
theorem dX12_greater_1 : decode cX12_greater 1 = .ok (.lload_n 2, 1) := by decide +kernel
theorem dX12_greater_2 : decode cX12_greater 2 = .ok (.lcmp, 1) := by decide +kernel
theorem dX12_greater_3 : decode cX12_greater 3 = .ok (.ifCond .le 7, 3) := by decide +kernel
theorem dX12_greater_10 : decode cX12_greater 10 = .ok (.lload_n 2, 1) := by decide +kernel
theorem dX12_greater_11 : decode cX12_greater 11 = .ok (.lreturn, 1) := by decide +kernel
theorem dX12_greater_6 : decode cX12_greater 6 = .ok (.lload_n 0, 1) := by decide +kernel
theorem dX12_greater_7 : decode cX12_greater 7 = .ok (.goto 4, 3) := by decide +kernel
theorem dX12_leastOf_0 : decode cX12_leastOf 0 = .ok (.lload_n 0, 1) := by decide +kernel
theorem dX12_leastOf_1 : decode cX12_leastOf 1 = .ok (.lload_n 2, 1) := by decide +kernel
theorem dX12_leastOf_2 : decode cX12_leastOf 2 = .ok (.invokestatic 314, 3) := by decide +kernel
theorem dX12_leastOf_5 : decode cX12_leastOf 5 = .ok (.lload 4, 2) := by decide +kernel
theorem dX12_leastOf_7 : decode cX12_leastOf 7 = .ok (.lload 6, 2) := by decide +kernel
theorem dX12_leastOf_9 : decode cX12_leastOf 9 = .ok (.invokestatic 314, 3) := by decide +kernel
theorem dX12_leastOf_12 : decode cX12_leastOf 12 = .ok (.invokestatic 314, 3) := by decide +kernel
theorem dX12_leastOf_15 : decode cX12_leastOf 15 = .ok (.lreturn, 1) := by decide +kernel
theorem dX12_mostOf_0 : decode cX12_mostOf 0 = .ok (.lload_n 0, 1) := by decide +kernel
theorem dX12_mostOf_1 : decode cX12_mostOf 1 = .ok (.lload_n 2, 1) := by decide +kernel
theorem dX12_mostOf_2 : decode cX12_mostOf 2 = .ok (.invokestatic 318, 3) := by decide +kernel
theorem dX12_mostOf_5 : decode cX12_mostOf 5 = .ok (.lload 4, 2) := by decide +kernel
theorem dX12_mostOf_7 : decode cX12_mostOf 7 = .ok (.lload 6, 2) := by decide +kernel
theorem dX12_mostOf_9 : decode cX12_mostOf 9 = .ok (.invokestatic 318, 3) := by decide +kernel
theorem dX12_mostOf_12 : decode cX12_mostOf 12 = .ok (.invokestatic 318, 3) := by decide +kernel
theorem dX12_mostOf_15 : decode cX12_mostOf 15 = .ok (.lreturn, 1) := by decide +kernel
theorem dX12_errs_0 : decode cX12_errs 0 = .ok (.lload_n 0, 1) := by decide +kernel
theorem dX12_errs_1 : decode cX12_errs 1 = .ok (.lconst 0, 1) := by decide +kernel
theorem dX12_errs_2 : decode cX12_errs 2 = .ok (.lcmp, 1) := by decide +kernel
theorem dX12_errs_3 : decode cX12_errs 3 = .ok (.ifCond .ne 9, 3) := by decide +kernel
theorem dX12_errs_12 : decode cX12_errs 12 = .ok (.iconst 1, 1) := by decide +kernel
theorem dX12_errs_13 : decode cX12_errs 13 = .ok (.goto 4, 3) := by decide +kernel
theorem dX12_errs_17 : decode cX12_errs 17 = .ok (.ireturn, 1) := by decide +kernel
theorem dX12_errs_6 : decode cX12_errs 6 = .ok (.lload_n 2, 1) := by decide +kernel
theorem dX12_errs_7 : decode cX12_errs 7 = .ok (.lconst 0, 1) := by decide +kernel
theorem dX12_errs_8 : decode cX12_errs 8 = .ok (.lcmp, 1) := by decide +kernel
theorem dX12_errs_9 : decode cX12_errs 9 = .ok (.ifCond .eq 7, 3) := by decide +kernel
theorem dX12_errs_16 : decode cX12_errs 16 = .ok (.iconst 0, 1) := by decide +kernel
theorem dX12_least2_0 : decode cX12_least2 0 = .ok (.iload_n 0, 1) := by decide +kernel
theorem dX12_least2_1 : decode cX12_least2 1 = .ok (.iload_n 1, 1) := by decide +kernel
theorem dX12_least2_2 : decode cX12_least2 2 = .ok (.if_icmp .ge 7, 3) := by decide +kernel
theorem dX12_least2_9 : decode cX12_least2 9 = .ok (.iload_n 1, 1) := by decide +kernel
theorem dX12_least2_10 : decode cX12_least2 10 = .ok (.ireturn, 1) := by decide +kernel
theorem dX12_least2_5 : decode cX12_least2 5 = .ok (.iload_n 0, 1) := by decide +kernel
theorem dX12_least2_6 : decode cX12_least2 6 = .ok (.goto 4, 3) := by decide +kernel
theorem rg_76 : 31 ∈ [31] := by decide
theorem rg_77 : (7 : Int32).toInt = 7 := by decide
theorem rg_78 : Int32.ofInt 99 = 99 := by decide
theorem rg_79 : (99 : Int32).toInt = 99 := by decide
theorem rg_80 : Int32.ofInt 999 = 999 := by decide
theorem rg_81 : (999 : Int32).toInt = 999 := by decide
theorem rg_82 : 33 ∈ [33, 34, 35, 36, 40] := by decide
theorem rg_83 : 34 ∈ [33, 34, 35, 36, 40] := by decide
theorem rg_84 : 35 ∈ [33, 34, 35, 36, 40] := by decide
theorem rg_85 : 36 ∈ [33, 34, 35, 36, 40] := by decide
theorem rg_86 : 40 ∈ [33, 34, 35, 36, 40] := by decide
theorem rg_87 : 40 ∉ [37] := by decide
theorem rg_88 : 37 ∈ [37] := by decide
theorem rg_89 : ((-1) : Int) ≤ ((-1) : Int32).toInt ∧ ((-1) : Int32).toInt ≤ 11 := by decide
def ow_n_isStep : List Cond := []
def vs_n_isStep : List Cond := .code yX12_isStep cX12_isStep 2 (some .boolean) :: (ow_n_isStep ++ (([.methodLink RX12 321 yX12_steps, .instanceMethod yX12_steps, .selects RX12 yX12_steps yX12_steps, .initialized RX12] : List Cond) ++ (vs_n_steps ++ (([.methodLink RX12 324 yX12_isIn, .static yX12_isIn, .initialized yX12_isIn.cls] : List Cond) ++ (vs_n_isIn)))))
theorem vg_n_isStep : vs_n_isStep.all goodWord = true := by decide +kernel
theorem dd_n_isStep : yX12_isStep.cls = RX12 ∧ yX12_isStep.cls ≠ "java/lang/invoke/MethodHandle" ∧ yX12_isStep.cls ≠ "java/lang/invoke/VarHandle" ∧ (parseMethodDescriptor yX12_isStep.desc).map (fun d => d.parameters.length) = some 1 := by decide +kernel
def rm_n_isStep : Room := { frames := 1, cells := 0, slots := 0, locals := 22 }
theorem gd_n_isStep_321_n_steps : GoodIn vs_n_isStep (wsV RX12 321 RX12 yX12_steps vs_n_steps) := goodIn_app (goodIn_sub (fun w h => (List.mem_cons_of_mem _ (List.mem_append_right _ (List.mem_append_left _ h)))) (by decide +kernel)) (goodIn_sub (fun w h => (List.mem_cons_of_mem _ (List.mem_append_right _ (List.mem_append_right _ (List.mem_append_left _ h))))) vg_n_steps)
theorem gd_n_isStep_324_n_isIn : GoodIn vs_n_isStep (va_wsS RX12 324 yX12_isIn vs_n_isIn) := goodIn_app (goodIn_sub (fun w h => (List.mem_cons_of_mem _ (List.mem_append_right _ (List.mem_append_right _ (List.mem_append_right _ (List.mem_append_left _ h)))))) (by decide +kernel)) (goodIn_sub (fun w h => (List.mem_cons_of_mem _ (List.mem_append_right _ (List.mem_append_right _ (List.mem_append_right _ (List.mem_append_right _ h)))))) vg_n_isIn)
set_option maxHeartbeats 4000000 in
set_option maxRecDepth 100000 in
theorem n_isStep (l : Launch) (dC : Nat → ClassId) (dI : Nat → Nat → Nat) (h : Nat) (ad : Nat → Nat) (cl : Nat → ClassId) (sz : Nat) (σ : MS) (x : Int32) (hI : Inv σ) : Met l yX12_isStep vs_n_isStep rm_n_isStep (va_Pc [.ref h, .int x] (wSt dC dI (mW h ad cl σ) (mT cl) sz)) (va_Qi (fun (r : Int32) (τ : MS) => σ = τ ∧ ((r.toInt = 1 ∧ 0 ≤ x.toInt ∧ x.toInt ≤ 11 ∧ x.toInt < (σ.2.1 12 (σ.1 29).toNatClampNeg).toInt) ∨ (r.toInt = 0 ∧ (x.toInt < 0 ∨ (σ.2.1 12 (σ.1 29).toNatClampNeg).toInt ≤ x.toInt)))) (fun (τ : MS) => wEn dC dI (va_A (mW h ad cl σ) sz) (mW h ad cl τ) []) (va_A (mW h ad cl σ) sz)) 0 0 (va_A (mW h ad cl σ) sz) := by
  refine Met.ofW (cc := cX12_isStep) (maxL := 2) (ret := (some .boolean)) (by decide) rfl ?_
  intro p e s m args below meth c s₁ B hml hv
  obtain ⟨rfl, hsz, hP, hK, hD0, hE⟩ := hv
  have hx := B.exec
  have hb := B.bytes
  have hr := B.returns
  have hts := atoms_spec (ws := vs_n_isStep) B.pre
  have hown : s.vm.findClass RX12 = some m.cls := findClass_of_methodNamed B.named
  have hlocks := B.notSynchronized
  subst hsz
  have hD := hD0.self (sz := s.heap.size)
  generalize hAe : va_A (mW h ad cl σ) s.heap.size = A at hD ⊢
  have hA : ∀ q : Nat, s.heap.size ≤ q → A q := fun q h => by rw [← hAe]; exact Or.inr h
  have hl := lv_entry ([.ref h, .int x]) (n := 2) (Nat.le_of_ble_eq_true rfl)
  rw [lg_entry_eq]
  generalize (lg_sl ([.ref h, .int x]) ++ List.replicate (2 - (lg_sl ([.ref h, .int x])).length) Slot.unset).toArray = ls at hl ⊢
  have hl : lv_has ls 2 [(0, .ref h), (1, .int x)] := hl
  have ho := fun w (h : w ∈ ow_n_isStep) => hts w (List.mem_cons_of_mem _ (List.mem_append_left _ h))
  refine zQ (fun Q hQ => ?_)
  refine zH (A := A) (ws := mW h ad cl σ) (fun H hP hS => ?_) hP
  have bσ_29 : 0 ≤ (σ.1 29).toInt ∧ (σ.1 29).toInt ≤ 1 := hI.1 29
  refine lv_iload_n hx hb dX12_isStep_0 rfl (lv_at hl 1 rfl) ?_
  refine lv_iconst (v := 0) hx hb dX12_isStep_1 rg_0 ?_
  refine lv_aload_n hx hb dX12_isStep_2 rfl (lv_at hl 0 rfl) ?_
  refine zy_i (va_runV (As := []) (rest := [.int 0, .int x]) ⟨hx, hb, hml, hown, hts⟩ (n_steps l dC dI h ad cl H.size σ  hI) (cwV 0 hts gd_n_isStep_321_n_steps rfl rfl rfl dd_n_steps ⟨Nat.le_of_ble_eq_true rfl, Nat.le_of_ble_eq_true rfl⟩) (preV hP hK hD hE (ci := 12) (q0 := 0) rfl rfl) rfl rfl hl.1 rfl (lv_room (Nat.le_of_ble_eq_true rfl)) dX12_isStep_3 ⟨Nat.le_of_ble_eq_true rfl, Nat.le_of_ble_eq_true rfl⟩) hD hS hA (fun z2 τ1 H locs hq hP hD hS => ?_)
  obtain ⟨rfl, f3, f4, f5⟩ := hq
  refine W.widen (k := 0) (n := 0) (Nat.le_of_ble_eq_true rfl) (Nat.le_of_ble_eq_true rfl) ?_
  refine lv_iconst (v := 1) hx hb dX12_isStep_6 rg_6 ?_
  refine lv_isub hx hb dX12_isStep_7 ?_
  refine lv_topi (fun z6 ez6 => ?_)
  have o1 : -2147483648 ≤ z2.toInt - 1 := by omega
  have o2 : z2.toInt - 1 ≤ 2147483647 := by omega
  have tz6 : z6.toInt = z2.toInt - 1 := ti_sub ez6 rfl rg_18 o1 o2
  have kk7 : (0 : Int32).toInt = 0 := rg_11
  refine zs_i (va_runS (As := [.int x, .int 0, .int z6]) (rest := []) ⟨hx, hb, hml, hown, hts⟩ (n_isIn l dC dI x 0 z6  H.size) (va_cwS 3 hts gd_n_isStep_324_n_isIn rfl rfl rfl dd_n_isIn ⟨Nat.le_of_ble_eq_true rfl, Nat.le_of_ble_eq_true rfl⟩) (preS (A := A) empP (hK.sub (tys' := []) [] rfl) empD hE) rfl rfl hl.1 rfl (lv_room (Nat.le_of_ble_eq_true rfl)) dX12_isStep_8 ⟨Nat.le_of_ble_eq_true rfl, Nat.le_of_ble_eq_true rfl⟩) hP hD hS hA (fun z8 H locs hq hP hD hS => ?_)
  obtain f9 := hq
  refine W.widen (k := 0) (n := 0) (Nat.le_of_ble_eq_true rfl) (Nat.le_of_ble_eq_true rfl) ?_
  rw [hQ]
  exact W.zret (v := z8) hx hb hr (nbz (by omega)) (fun t ht hW => ⟨⟨z8, σ, rfl, ⟨rfl, (by omega)⟩, wEn_of hP (hK.sub [] rfl) hD ht hW⟩, hS.F ht⟩) hS.2.2 dX12_isStep_11
def ow_n_isEnd : List Cond := [.fieldLink RX12 27 "NearEnoughModel" "endMany" "[I", .fieldLink RX12 240 "NearEnoughModel" "bank" "I"]
def vs_n_isEnd : List Cond := .code yX12_isEnd cX12_isEnd 2 (some .boolean) :: (ow_n_isEnd ++ (([.methodLink RX12 324 yX12_isIn, .static yX12_isIn, .initialized yX12_isIn.cls] : List Cond) ++ (vs_n_isIn ++ (wsX120))))
theorem vg_n_isEnd : vs_n_isEnd.all goodWord = true := by decide +kernel
theorem dd_n_isEnd : yX12_isEnd.cls = RX12 ∧ yX12_isEnd.cls ≠ "java/lang/invoke/MethodHandle" ∧ yX12_isEnd.cls ≠ "java/lang/invoke/VarHandle" ∧ (parseMethodDescriptor yX12_isEnd.desc).map (fun d => d.parameters.length) = some 1 := by decide +kernel
def rm_n_isEnd : Room := { frames := 1, cells := 0, slots := 0, locals := 22 }
theorem gd_n_isEnd_324_n_isIn : GoodIn vs_n_isEnd (va_wsS RX12 324 yX12_isIn vs_n_isIn) := goodIn_app (goodIn_sub (fun w h => (List.mem_cons_of_mem _ (List.mem_append_right _ (List.mem_append_left _ h)))) (by decide +kernel)) (goodIn_sub (fun w h => (List.mem_cons_of_mem _ (List.mem_append_right _ (List.mem_append_right _ (List.mem_append_left _ h))))) vg_n_isIn)
set_option maxHeartbeats 4000000 in
set_option maxRecDepth 100000 in
theorem n_isEnd (l : Launch) (dC : Nat → ClassId) (dI : Nat → Nat → Nat) (h : Nat) (ad : Nat → Nat) (cl : Nat → ClassId) (sz : Nat) (σ : MS) (x : Int32) (hI : Inv σ) : Met l yX12_isEnd vs_n_isEnd rm_n_isEnd (va_Pc [.ref h, .int x] (wSt dC dI (mW h ad cl σ) (mT cl) sz)) (va_Qi (fun (r : Int32) (τ : MS) => σ = τ ∧ ((r.toInt = 1 ∧ 0 ≤ x.toInt ∧ x.toInt ≤ 3 ∧ x.toInt < (σ.2.1 13 (σ.1 29).toNatClampNeg).toInt) ∨ (r.toInt = 0))) (fun (τ : MS) => wEn dC dI (va_A (mW h ad cl σ) sz) (mW h ad cl τ) []) (va_A (mW h ad cl σ) sz)) 0 0 (va_A (mW h ad cl σ) sz) := by
  refine Met.ofW (cc := cX12_isEnd) (maxL := 2) (ret := (some .boolean)) (by decide) rfl ?_
  intro p e s m args below meth c s₁ B hml hv
  obtain ⟨rfl, hsz, hP, hK, hD0, hE⟩ := hv
  have hx := B.exec
  have hb := B.bytes
  have hr := B.returns
  have hts := atoms_spec (ws := vs_n_isEnd) B.pre
  have hown : s.vm.findClass RX12 = some m.cls := findClass_of_methodNamed B.named
  have hlocks := B.notSynchronized
  subst hsz
  have hD := hD0.self (sz := s.heap.size)
  generalize hAe : va_A (mW h ad cl σ) s.heap.size = A at hD ⊢
  have hA : ∀ q : Nat, s.heap.size ≤ q → A q := fun q h => by rw [← hAe]; exact Or.inr h
  have hl := lv_entry ([.ref h, .int x]) (n := 2) (Nat.le_of_ble_eq_true rfl)
  rw [lg_entry_eq]
  generalize (lg_sl ([.ref h, .int x]) ++ List.replicate (2 - (lg_sl ([.ref h, .int x])).length) Slot.unset).toArray = ls at hl ⊢
  have hl : lv_has ls 2 [(0, .ref h), (1, .int x)] := hl
  have ho := fun w (h : w ∈ ow_n_isEnd) => hts w (List.mem_cons_of_mem _ (List.mem_append_left _ h))
  have hin12 : ∀ w ∈ u_ws RX12 TX12 59, w ∈ vs_n_isEnd := fun w h => (List.mem_cons_of_mem _ (List.mem_append_right _ (List.mem_append_right _ (List.mem_append_right _ h))))
  refine zQ (fun Q hQ => ?_)
  refine zH (A := A) (ws := mW h ad cl σ) (fun H hP hS => ?_) hP
  have bσ_29 : 0 ≤ (σ.1 29).toInt ∧ (σ.1 29).toInt ≤ 1 := hI.1 29
  refine lv_iload_n hx hb dX12_isEnd_0 rfl (lv_at hl 1 rfl) ?_
  refine lv_iconst (v := 0) hx hb dX12_isEnd_1 rg_0 ?_
  refine lv_aload_n hx hb dX12_isEnd_2 rfl (lv_at hl 0 rfl) ?_
  refine va_get (D := (dC, dI)) (ci := 12) (v := .ref (ad 13)) (C := RX12) (T := TX12) (N := 59) hx hb hts hin12 hown hK hP 0 rfl rfl 13 (Nat.le_of_ble_eq_true rfl) (ho (.fieldLink RX12 27 "NearEnoughModel" "endMany" "[I") (List.mem_of_getElem? (i := 0) rfl)) (fun _ h9 => h9) rfl dX12_isEnd_3 ?_
  refine lv_aload_n hx hb dX12_isEnd_6 rfl (lv_at hl 0 rfl) ?_
  refine va_get (D := (dC, dI)) (ci := 12) (v := .int (σ.1 29)) (C := RX12) (T := TX12) (N := 59) hx hb hts hin12 hown hK hP 0 rfl rfl 29 (Nat.le_of_ble_eq_true rfl) (ho (.fieldLink RX12 240 "NearEnoughModel" "bank" "I") (List.mem_of_getElem? (i := 1) rfl)) (fun _ h9 => h9) rfl dX12_isEnd_7 ?_
  have bσ_29 : 0 ≤ (σ.1 29).toInt ∧ (σ.1 29).toInt ≤ 1 := hI.1 29
  have o1 : 0 ≤ (σ.1 29).toInt := by omega
  have o2 : (σ.1 29).toInt < ((2 : Nat) : Int) := by omega
  refine va_iald hx hb hK hP 5 4 rfl rfl (ti_inx o1 o2) dX12_isEnd_10 ?_
  refine lv_topi (fun z1 ez1 => ?_)
  have gz1 : z1.toInt = ((σ.2.1 13) (Int32.toNatClampNeg (σ.1 29))).toInt := congrArg Int32.toInt (ez1.trans (congrFun rfl (Int32.toNatClampNeg (σ.1 29))))
  have bz1 : 0 ≤ z1.toInt ∧ z1.toInt ≤ 4 := by rw [ez1]; exact (hI.2 13) _ (cl_lt (n := 2) o1 o2)
  refine lv_iconst (v := 1) hx hb dX12_isEnd_11 rg_6 ?_
  refine lv_isub hx hb dX12_isEnd_12 ?_
  refine lv_topi (fun z2 ez2 => ?_)
  have o3 : -2147483648 ≤ z1.toInt - 1 := by omega
  have o4 : z1.toInt - 1 ≤ 2147483647 := by omega
  have tz2 : z2.toInt = z1.toInt - 1 := ti_sub ez2 rfl rg_18 o3 o4
  have kk3 : (0 : Int32).toInt = 0 := rg_11
  refine zs_i (va_runS (As := [.int x, .int 0, .int z2]) (rest := []) ⟨hx, hb, hml, hown, hts⟩ (n_isIn l dC dI x 0 z2  H.size) (va_cwS 3 hts gd_n_isEnd_324_n_isIn rfl rfl rfl dd_n_isIn ⟨Nat.le_of_ble_eq_true rfl, Nat.le_of_ble_eq_true rfl⟩) (preS (A := A) empP (hK.sub (tys' := []) [] rfl) empD hE) rfl rfl hl.1 rfl (lv_room (Nat.le_of_ble_eq_true rfl)) dX12_isEnd_13 ⟨Nat.le_of_ble_eq_true rfl, Nat.le_of_ble_eq_true rfl⟩) hP hD hS hA (fun z4 H locs hq hP hD hS => ?_)
  obtain f5 := hq
  refine W.widen (k := 0) (n := 0) (Nat.le_of_ble_eq_true rfl) (Nat.le_of_ble_eq_true rfl) ?_
  rw [hQ]
  exact W.zret (v := z4) hx hb hr (nbz (by omega)) (fun t ht hW => ⟨⟨z4, σ, rfl, ⟨rfl, (by have hz := congrArg Int32.toInt ez1; omega)⟩, wEn_of hP (hK.sub [] rfl) hD ht hW⟩, hS.F ht⟩) hS.2.2 dX12_isEnd_16
def ow_n_span : List Cond := [.fieldLink RX12 70 "NearEnoughModel" "sLeast" "[J", .fieldLink RX12 73 "NearEnoughModel" "sMost" "[J"]
def vs_n_span : List Cond := .code yX12_span cX12_span 3 (some .int) :: (ow_n_span ++ (([.methodLink RX12 328 yX12_isStep, .instanceMethod yX12_isStep, .selects RX12 yX12_isStep yX12_isStep, .initialized RX12] : List Cond) ++ (vs_n_isStep ++ (([.methodLink RX12 331 yX12_at0, .instanceMethod yX12_at0, .selects RX12 yX12_at0 yX12_at0, .initialized RX12] : List Cond) ++ (vs_n_at0 ++ (wsX120))))))
theorem vg_n_span : vs_n_span.all goodWord = true := by decide +kernel
theorem dd_n_span : yX12_span.cls = RX12 ∧ yX12_span.cls ≠ "java/lang/invoke/MethodHandle" ∧ yX12_span.cls ≠ "java/lang/invoke/VarHandle" ∧ (parseMethodDescriptor yX12_span.desc).map (fun d => d.parameters.length) = some 2 := by decide +kernel
def rm_n_span : Room := { frames := 2, cells := 0, slots := 0, locals := 43 }
theorem gd_n_span_328_n_isStep : GoodIn vs_n_span (wsV RX12 328 RX12 yX12_isStep vs_n_isStep) := goodIn_app (goodIn_sub (fun w h => (List.mem_cons_of_mem _ (List.mem_append_right _ (List.mem_append_left _ h)))) (by decide +kernel)) (goodIn_sub (fun w h => (List.mem_cons_of_mem _ (List.mem_append_right _ (List.mem_append_right _ (List.mem_append_left _ h))))) vg_n_isStep)
theorem gd_n_span_331_n_at0 : GoodIn vs_n_span (wsV RX12 331 RX12 yX12_at0 vs_n_at0) := goodIn_app (goodIn_sub (fun w h => (List.mem_cons_of_mem _ (List.mem_append_right _ (List.mem_append_right _ (List.mem_append_right _ (List.mem_append_left _ h)))))) (by decide +kernel)) (goodIn_sub (fun w h => (List.mem_cons_of_mem _ (List.mem_append_right _ (List.mem_append_right _ (List.mem_append_right _ (List.mem_append_right _ (List.mem_append_left _ h))))))) vg_n_at0)
set_option maxHeartbeats 4000000 in
set_option maxRecDepth 100000 in
theorem n_span (l : Launch) (dC : Nat → ClassId) (dI : Nat → Nat → Nat) (h : Nat) (ad : Nat → Nat) (cl : Nat → ClassId) (sz : Nat) (σ : MS) (x : Int32) (y : Int32) (hI : Inv σ) : Met l yX12_span vs_n_span rm_n_span (va_Pc [.ref h, .int x, .int y] (wSt dC dI (mW h ad cl σ) (mT cl) sz)) (va_Qi (fun (r : Int32) (τ : MS) => σ = τ) (fun (τ : MS) => wEn dC dI (va_A (mW h ad cl σ) sz) (mW h ad cl τ) []) (va_A (mW h ad cl σ) sz)) 0 0 (va_A (mW h ad cl σ) sz) := by
  refine Met.ofW (cc := cX12_span) (maxL := 3) (ret := (some .int)) (by decide) rfl ?_
  intro p e s m args below meth c s₁ B hml hv
  obtain ⟨rfl, hsz, hP, hK, hD0, hE⟩ := hv
  have hx := B.exec
  have hb := B.bytes
  have hr := B.returns
  have hts := atoms_spec (ws := vs_n_span) B.pre
  have hown : s.vm.findClass RX12 = some m.cls := findClass_of_methodNamed B.named
  have hlocks := B.notSynchronized
  subst hsz
  have hD := hD0.self (sz := s.heap.size)
  generalize hAe : va_A (mW h ad cl σ) s.heap.size = A at hD ⊢
  have hA : ∀ q : Nat, s.heap.size ≤ q → A q := fun q h => by rw [← hAe]; exact Or.inr h
  have hl := lv_entry ([.ref h, .int x, .int y]) (n := 3) (Nat.le_of_ble_eq_true rfl)
  rw [lg_entry_eq]
  generalize (lg_sl ([.ref h, .int x, .int y]) ++ List.replicate (3 - (lg_sl ([.ref h, .int x, .int y])).length) Slot.unset).toArray = ls at hl ⊢
  have hl : lv_has ls 3 [(0, .ref h), (1, .int x), (2, .int y)] := hl
  have ho := fun w (h : w ∈ ow_n_span) => hts w (List.mem_cons_of_mem _ (List.mem_append_left _ h))
  have hin12 : ∀ w ∈ u_ws RX12 TX12 59, w ∈ vs_n_span := fun w h => (List.mem_cons_of_mem _ (List.mem_append_right _ (List.mem_append_right _ (List.mem_append_right _ (List.mem_append_right _ (List.mem_append_right _ h))))))
  refine zQ (fun Q hQ => ?_)
  refine zH (A := A) (ws := mW h ad cl σ) (fun H hP hS => ?_) hP
  have bσ_29 : 0 ≤ (σ.1 29).toInt ∧ (σ.1 29).toInt ≤ 1 := hI.1 29
  refine lv_aload_n hx hb dX12_span_0 rfl (lv_at hl 0 rfl) ?_
  refine lv_iload_n hx hb dX12_span_1 rfl (lv_at hl 1 rfl) ?_
  refine zy_i (va_runV (As := [.int x]) (rest := []) ⟨hx, hb, hml, hown, hts⟩ (n_isStep l dC dI h ad cl H.size σ x hI) (cwV 1 hts gd_n_span_328_n_isStep rfl rfl rfl dd_n_isStep ⟨Nat.le_of_ble_eq_true rfl, Nat.le_of_ble_eq_true rfl⟩) (preV hP hK hD hE (ci := 12) (q0 := 0) rfl rfl) rfl rfl hl.1 rfl (lv_room (Nat.le_of_ble_eq_true rfl)) dX12_span_2 ⟨Nat.le_of_ble_eq_true rfl, Nat.le_of_ble_eq_true rfl⟩) hD hS hA (fun z2 τ1 H locs hq hP hD hS => ?_)
  obtain ⟨rfl, f3⟩ := hq
  refine W.widen (k := 0) (n := 0) (Nat.le_of_ble_eq_true rfl) (Nat.le_of_ble_eq_true rfl) ?_
  refine lv_if_ne (tgt := 12) hx hb dX12_span_5 rfl (fun c4 => ?_) (fun c4 => ?_)
  · have tc4 := (show z2.toInt ≠ 0 from ti_ne rfl rg_11 c4)
    refine lv_iload_n hx hb dX12_span_12 rfl (lv_at hl 2 rfl) ?_
    refine lv_if_eq (tgt := 29) hx hb dX12_span_13 rfl (fun c5 => ?_) (fun c5 => ?_)
    · have tc5 := (show y.toInt = 0 from ti_eq rfl rg_11 c5)
      refine lv_aload_n hx hb dX12_span_29 rfl (lv_at hl 0 rfl) ?_
      refine va_get (D := (dC, dI)) (ci := 12) (v := .ref (ad 27)) (C := RX12) (T := TX12) (N := 59) hx hb hts hin12 hown hK hP 0 rfl rfl 27 (Nat.le_of_ble_eq_true rfl) (ho (.fieldLink RX12 70 "NearEnoughModel" "sLeast" "[J") (List.mem_of_getElem? (i := 0) rfl)) (fun _ h9 => h9) rfl dX12_span_30 ?_
      refine lv_aload_n hx hb dX12_span_33 rfl (lv_at hl 0 rfl) ?_
      refine lv_iload_n hx hb dX12_span_34 rfl (lv_at hl 1 rfl) ?_
      have o1 : 0 ≤ x.toInt := by omega
      have o2 : x.toInt ≤ 11 := by omega
      refine zy_i (va_runV (As := [.int x]) (rest := [.ref (ad 27)]) ⟨hx, hb, hml, hown, hts⟩ (n_at0 l dC dI h ad cl H.size σ x hI ⟨o1, o2⟩) (cwV 1 hts gd_n_span_331_n_at0 rfl rfl rfl dd_n_at0 ⟨Nat.le_of_ble_eq_true rfl, Nat.le_of_ble_eq_true rfl⟩) (preV hP hK hD hE (ci := 12) (q0 := 0) rfl rfl) rfl rfl hl.1 rfl (lv_room (Nat.le_of_ble_eq_true rfl)) dX12_span_35 ⟨Nat.le_of_ble_eq_true rfl, Nat.le_of_ble_eq_true rfl⟩) hD hS hA (fun z7 τ6 H locs hq hP hD hS => ?_)
      obtain ⟨rfl, f8⟩ := hq
      refine W.widen (k := 0) (n := 0) (Nat.le_of_ble_eq_true rfl) (Nat.le_of_ble_eq_true rfl) ?_
      have o3 : 0 ≤ z7.toInt := by omega
      have o4 : z7.toInt < ((24 : Nat) : Int) := by omega
      refine va_lald hx hb hK hP 19 18 rfl rfl (ti_inx o3 o4) dX12_span_38 ?_
      refine lv_topl (fun y9 ey9 => ?_)
      refine lv_l2i hx hb dX12_span_39 rfl ?_
      refine lv_topi (fun z10 ez10 => ?_)
      rw [hQ]
      exact W.iret (v := z10) hx hb hr (fun t ht hW => ⟨⟨z10, σ, rfl, rfl, wEn_of hP (hK.sub [] rfl) hD ht hW⟩, hS.F ht⟩) hS.2.2 dX12_span_40
    · have tc5 := (show y.toInt ≠ 0 from ti_ne rfl rg_11 c5)
      refine lv_aload_n hx hb dX12_span_16 rfl (lv_at hl 0 rfl) ?_
      refine va_get (D := (dC, dI)) (ci := 12) (v := .ref (ad 28)) (C := RX12) (T := TX12) (N := 59) hx hb hts hin12 hown hK hP 0 rfl rfl 28 (Nat.le_of_ble_eq_true rfl) (ho (.fieldLink RX12 73 "NearEnoughModel" "sMost" "[J") (List.mem_of_getElem? (i := 1) rfl)) (fun _ h9 => h9) rfl dX12_span_17 ?_
      refine lv_aload_n hx hb dX12_span_20 rfl (lv_at hl 0 rfl) ?_
      refine lv_iload_n hx hb dX12_span_21 rfl (lv_at hl 1 rfl) ?_
      have o5 : 0 ≤ x.toInt := by omega
      have o6 : x.toInt ≤ 11 := by omega
      refine zy_i (va_runV (As := [.int x]) (rest := [.ref (ad 28)]) ⟨hx, hb, hml, hown, hts⟩ (n_at0 l dC dI h ad cl H.size σ x hI ⟨o5, o6⟩) (cwV 1 hts gd_n_span_331_n_at0 rfl rfl rfl dd_n_at0 ⟨Nat.le_of_ble_eq_true rfl, Nat.le_of_ble_eq_true rfl⟩) (preV hP hK hD hE (ci := 12) (q0 := 0) rfl rfl) rfl rfl hl.1 rfl (lv_room (Nat.le_of_ble_eq_true rfl)) dX12_span_22 ⟨Nat.le_of_ble_eq_true rfl, Nat.le_of_ble_eq_true rfl⟩) hD hS hA (fun z12 τ11 H locs hq hP hD hS => ?_)
      obtain ⟨rfl, f13⟩ := hq
      refine W.widen (k := 0) (n := 0) (Nat.le_of_ble_eq_true rfl) (Nat.le_of_ble_eq_true rfl) ?_
      have o7 : 0 ≤ z12.toInt := by omega
      have o8 : z12.toInt < ((24 : Nat) : Int) := by omega
      refine va_lald hx hb hK hP 20 19 rfl rfl (ti_inx o7 o8) dX12_span_25 ?_
      refine lv_topl (fun y14 ey14 => ?_)
      refine lv_goto (tgt := 39) hx hb dX12_span_26 rfl ?_
      refine lv_l2i hx hb dX12_span_39 rfl ?_
      refine lv_topi (fun z15 ez15 => ?_)
      rw [hQ]
      exact W.iret (v := z15) hx hb hr (fun t ht hW => ⟨⟨z15, σ, rfl, rfl, wEn_of hP (hK.sub [] rfl) hD ht hW⟩, hS.F ht⟩) hS.2.2 dX12_span_40
  · have tc4 := (show z2.toInt = 0 from ti_eq rfl rg_11 c4)
    refine lv_iconst (v := 0) hx hb dX12_span_8 rg_0 ?_
    refine lv_goto (tgt := 40) hx hb dX12_span_9 rfl ?_
    rw [hQ]
    exact W.iret (v := 0) hx hb hr (fun t ht hW => ⟨⟨0, σ, rfl, rfl, wEn_of hP (hK.sub [] rfl) hD ht hW⟩, hS.F ht⟩) hS.2.2 dX12_span_40
def ow_n_put : List Cond := [.fieldLink RX12 249 "NearEnoughModel" "sheets" "I", .fieldLink RX12 20 "NearEnoughModel" "rowMany" "[I", .fieldLink RX12 240 "NearEnoughModel" "bank" "I", .fieldLink RX12 30 "NearEnoughModel" "rHas" "[I", .fieldLink RX12 33 "NearEnoughModel" "rLeast" "[I", .fieldLink RX12 36 "NearEnoughModel" "rMost" "[I", .fieldLink RX12 76 "NearEnoughModel" "numbers" "[I"]
def vs_n_put : List Cond := .code yX12_put cX12_put 6 (some .boolean) :: (ow_n_put ++ (([.methodLink RX12 324 yX12_isIn, .static yX12_isIn, .initialized yX12_isIn.cls] : List Cond) ++ (vs_n_isIn ++ (wsX120))))
theorem vg_n_put : vs_n_put.all goodWord = true := by decide +kernel
theorem dd_n_put : yX12_put.cls = RX12 ∧ yX12_put.cls ≠ "java/lang/invoke/MethodHandle" ∧ yX12_put.cls ≠ "java/lang/invoke/VarHandle" ∧ (parseMethodDescriptor yX12_put.desc).map (fun d => d.parameters.length) = some 4 := by decide +kernel
def rm_n_put : Room := { frames := 1, cells := 0, slots := 0, locals := 22 }
theorem gd_n_put_324_n_isIn : GoodIn vs_n_put (va_wsS RX12 324 yX12_isIn vs_n_isIn) := goodIn_app (goodIn_sub (fun w h => (List.mem_cons_of_mem _ (List.mem_append_right _ (List.mem_append_left _ h)))) (by decide +kernel)) (goodIn_sub (fun w h => (List.mem_cons_of_mem _ (List.mem_append_right _ (List.mem_append_right _ (List.mem_append_left _ h))))) vg_n_isIn)
set_option maxHeartbeats 4000000 in
set_option maxRecDepth 100000 in
theorem n_put (l : Launch) (dC : Nat → ClassId) (dI : Nat → Nat → Nat) (h : Nat) (ad : Nat → Nat) (cl : Nat → ClassId) (sz : Nat) (σ : MS) (x0 : Int32) (x1 : Int32) (x2 : Int32) (x3 : Int32) (hI : Inv σ) : Met l yX12_put vs_n_put rm_n_put (va_Pc [.ref h, .int x0, .int x1, .int x2, .int x3] (wSt dC dI (mW h ad cl σ) (mT cl) sz)) (va_Qi (fun (r : Int32) (τ : MS) => Inv τ ∧ eqx [31] τ σ) (fun (τ : MS) => wEn dC dI (va_A (mW h ad cl σ) sz) (mW h ad cl τ) []) (va_A (mW h ad cl σ) sz)) 0 0 (va_A (mW h ad cl σ) sz) := by
  refine Met.ofW (cc := cX12_put) (maxL := 6) (ret := (some .boolean)) (by decide) rfl ?_
  intro p e s m args below meth c s₁ B hml hv
  obtain ⟨rfl, hsz, hP, hK, hD0, hE⟩ := hv
  have hx := B.exec
  have hb := B.bytes
  have hr := B.returns
  have hts := atoms_spec (ws := vs_n_put) B.pre
  have hown : s.vm.findClass RX12 = some m.cls := findClass_of_methodNamed B.named
  have hlocks := B.notSynchronized
  subst hsz
  have hD := hD0.self (sz := s.heap.size)
  generalize hAe : va_A (mW h ad cl σ) s.heap.size = A at hD ⊢
  have hA : ∀ q : Nat, s.heap.size ≤ q → A q := fun q h => by rw [← hAe]; exact Or.inr h
  have hl := lv_entry ([.ref h, .int x0, .int x1, .int x2, .int x3]) (n := 6) (Nat.le_of_ble_eq_true rfl)
  rw [lg_entry_eq]
  generalize (lg_sl ([.ref h, .int x0, .int x1, .int x2, .int x3]) ++ List.replicate (6 - (lg_sl ([.ref h, .int x0, .int x1, .int x2, .int x3])).length) Slot.unset).toArray = ls at hl ⊢
  have hl : lv_has ls 6 [(0, .ref h), (1, .int x0), (2, .int x1), (3, .int x2), (4, .int x3)] := hl
  have ho := fun w (h : w ∈ ow_n_put) => hts w (List.mem_cons_of_mem _ (List.mem_append_left _ h))
  have hin12 : ∀ w ∈ u_ws RX12 TX12 59, w ∈ vs_n_put := fun w h => (List.mem_cons_of_mem _ (List.mem_append_right _ (List.mem_append_right _ (List.mem_append_right _ h))))
  refine zQ (fun Q hQ => ?_)
  refine zH (A := A) (ws := mW h ad cl σ) (fun H hP hS => ?_) hP
  have bσ_29 : 0 ≤ (σ.1 29).toInt ∧ (σ.1 29).toInt ≤ 1 := hI.1 29
  have bσ_39 : 0 ≤ (σ.1 39).toInt ∧ (σ.1 39).toInt ≤ 40 := hI.1 39
  refine lv_iload_n hx hb dX12_put_0 rfl (lv_at hl 1 rfl) ?_
  refine lv_iconst (v := 0) hx hb dX12_put_1 rg_0 ?_
  refine lv_aload_n hx hb dX12_put_2 rfl (lv_at hl 0 rfl) ?_
  refine va_get (D := (dC, dI)) (ci := 12) (v := .int (σ.1 39)) (C := RX12) (T := TX12) (N := 59) hx hb hts hin12 hown hK hP 0 rfl rfl 39 (Nat.le_of_ble_eq_true rfl) (ho (.fieldLink RX12 249 "NearEnoughModel" "sheets" "I") (List.mem_of_getElem? (i := 0) rfl)) (fun _ h9 => h9) rfl dX12_put_3 ?_
  have bσ_39 : 0 ≤ (σ.1 39).toInt ∧ (σ.1 39).toInt ≤ 40 := hI.1 39
  refine lv_iconst (v := 1) hx hb dX12_put_6 rg_6 ?_
  refine lv_isub hx hb dX12_put_7 ?_
  refine lv_topi (fun z1 ez1 => ?_)
  have o1 : -2147483648 ≤ (σ.1 39).toInt - 1 := by omega
  have o2 : (σ.1 39).toInt - 1 ≤ 2147483647 := by omega
  have tz1 : z1.toInt = (σ.1 39).toInt - 1 := ti_sub ez1 rfl rg_18 o1 o2
  have kk2 : (0 : Int32).toInt = 0 := rg_11
  refine zs_i (va_runS (As := [.int x0, .int 0, .int z1]) (rest := []) ⟨hx, hb, hml, hown, hts⟩ (n_isIn l dC dI x0 0 z1  H.size) (va_cwS 3 hts gd_n_put_324_n_isIn rfl rfl rfl dd_n_isIn ⟨Nat.le_of_ble_eq_true rfl, Nat.le_of_ble_eq_true rfl⟩) (preS (A := A) empP (hK.sub (tys' := []) [] rfl) empD hE) rfl rfl hl.1 rfl (lv_room (Nat.le_of_ble_eq_true rfl)) dX12_put_8 ⟨Nat.le_of_ble_eq_true rfl, Nat.le_of_ble_eq_true rfl⟩) hP hD hS hA (fun z3 H locs hq hP hD hS => ?_)
  obtain f4 := hq
  refine W.widen (k := 0) (n := 0) (Nat.le_of_ble_eq_true rfl) (Nat.le_of_ble_eq_true rfl) ?_
  refine lv_if_eq (tgt := 33) hx hb dX12_put_11 rfl (fun c5 => ?_) (fun c5 => ?_)
  · have tc5 := (show z3.toInt = 0 from ti_eq rfl rg_11 c5)
    refine lv_iconst (v := 0) hx hb dX12_put_33 rg_0 ?_
    rw [hQ]
    exact W.zret (v := 0) hx hb hr rfl (fun t ht hW => ⟨⟨0, σ, rfl, ⟨hI, eqx.rf⟩, wEn_of hP (hK.sub [] rfl) hD ht hW⟩, hS.F ht⟩) hS.2.2 dX12_put_34
  · have tc5 := (show z3.toInt ≠ 0 from ti_ne rfl rg_11 c5)
    refine lv_iload_n hx hb dX12_put_14 rfl (lv_at hl 2 rfl) ?_
    refine lv_iconst (v := 0) hx hb dX12_put_15 rg_0 ?_
    refine lv_aload_n hx hb dX12_put_16 rfl (lv_at hl 0 rfl) ?_
    refine va_get (D := (dC, dI)) (ci := 12) (v := .ref (ad 11)) (C := RX12) (T := TX12) (N := 59) hx hb hts hin12 hown hK hP 0 rfl rfl 11 (Nat.le_of_ble_eq_true rfl) (ho (.fieldLink RX12 20 "NearEnoughModel" "rowMany" "[I") (List.mem_of_getElem? (i := 1) rfl)) (fun _ h9 => h9) rfl dX12_put_17 ?_
    refine lv_aload_n hx hb dX12_put_20 rfl (lv_at hl 0 rfl) ?_
    refine va_get (D := (dC, dI)) (ci := 12) (v := .int (σ.1 29)) (C := RX12) (T := TX12) (N := 59) hx hb hts hin12 hown hK hP 0 rfl rfl 29 (Nat.le_of_ble_eq_true rfl) (ho (.fieldLink RX12 240 "NearEnoughModel" "bank" "I") (List.mem_of_getElem? (i := 2) rfl)) (fun _ h9 => h9) rfl dX12_put_21 ?_
    have bσ_29 : 0 ≤ (σ.1 29).toInt ∧ (σ.1 29).toInt ≤ 1 := hI.1 29
    have o3 : 0 ≤ (σ.1 29).toInt := by omega
    have o4 : (σ.1 29).toInt < ((2 : Nat) : Int) := by omega
    refine va_iald hx hb hK hP 3 2 rfl rfl (ti_inx o3 o4) dX12_put_24 ?_
    refine lv_topi (fun z6 ez6 => ?_)
    have gz6 : z6.toInt = ((σ.2.1 11) (Int32.toNatClampNeg (σ.1 29))).toInt := congrArg Int32.toInt (ez6.trans (congrFun rfl (Int32.toNatClampNeg (σ.1 29))))
    have bz6 : 0 ≤ z6.toInt ∧ z6.toInt ≤ 2 := by rw [ez6]; exact (hI.2 11) _ (cl_lt (n := 2) o3 o4)
    refine lv_iconst (v := 1) hx hb dX12_put_25 rg_6 ?_
    refine lv_isub hx hb dX12_put_26 ?_
    refine lv_topi (fun z7 ez7 => ?_)
    have o5 : -2147483648 ≤ z6.toInt - 1 := by omega
    have o6 : z6.toInt - 1 ≤ 2147483647 := by omega
    have tz7 : z7.toInt = z6.toInt - 1 := ti_sub ez7 rfl rg_18 o5 o6
    have kk8 : (0 : Int32).toInt = 0 := rg_11
    refine zs_i (va_runS (As := [.int x1, .int 0, .int z7]) (rest := []) ⟨hx, hb, hml, hown, hts⟩ (n_isIn l dC dI x1 0 z7  H.size) (va_cwS 3 hts gd_n_put_324_n_isIn rfl rfl rfl dd_n_isIn ⟨Nat.le_of_ble_eq_true rfl, Nat.le_of_ble_eq_true rfl⟩) (preS (A := A) empP (hK.sub (tys' := []) [] rfl) empD hE) rfl rfl hl.1 rfl (lv_room (Nat.le_of_ble_eq_true rfl)) dX12_put_27 ⟨Nat.le_of_ble_eq_true rfl, Nat.le_of_ble_eq_true rfl⟩) hP hD hS hA (fun z9 H locs hq hP hD hS => ?_)
    obtain f10 := hq
    refine W.widen (k := 0) (n := 0) (Nat.le_of_ble_eq_true rfl) (Nat.le_of_ble_eq_true rfl) ?_
    refine lv_if_ne (tgt := 35) hx hb dX12_put_30 rfl (fun c11 => ?_) (fun c11 => ?_)
    · have tc11 := (show z9.toInt ≠ 0 from ti_ne rfl rg_11 c11)
      refine lv_iconst (v := 2) hx hb dX12_put_35 rg_19 ?_
      refine lv_aload_n hx hb dX12_put_36 rfl (lv_at hl 0 rfl) ?_
      refine va_get (D := (dC, dI)) (ci := 12) (v := .int (σ.1 29)) (C := RX12) (T := TX12) (N := 59) hx hb hts hin12 hown hK hP 0 rfl rfl 29 (Nat.le_of_ble_eq_true rfl) (ho (.fieldLink RX12 240 "NearEnoughModel" "bank" "I") (List.mem_of_getElem? (i := 2) rfl)) (fun _ h9 => h9) rfl dX12_put_37 ?_
      have bσ_29 : 0 ≤ (σ.1 29).toInt ∧ (σ.1 29).toInt ≤ 1 := hI.1 29
      refine lv_imul hx hb dX12_put_40 ?_
      refine lv_topi (fun z12 ez12 => ?_)
      have o7 : -2147483648 ≤ 2 * (σ.1 29).toInt := by omega
      have o8 : 2 * (σ.1 29).toInt ≤ 2147483647 := by omega
      have tz12 : z12.toInt = 2 * (σ.1 29).toInt := ti_mul ez12 rg_20 rfl o7 o8
      refine lv_iload_n hx hb dX12_put_41 rfl (lv_at hl 2 rfl) ?_
      refine lv_iadd hx hb dX12_put_42 ?_
      refine lv_topi (fun z13 ez13 => ?_)
      have o9 : -2147483648 ≤ z12.toInt + x1.toInt := by omega
      have o10 : z12.toInt + x1.toInt ≤ 2147483647 := by omega
      have tz13 : z13.toInt = z12.toInt + x1.toInt := ti_add ez13 rfl rfl o9 o10
      refine lv_istore (lv' := [(5, .int z13), (0, .ref h), (1, .int x0), (2, .int x1), (3, .int x2), (4, .int x3)]) hx hb dX12_put_43 hl (Nat.le_of_ble_eq_true rfl) rfl (fun ls hl => ?_)
      refine lv_iload_n hx hb dX12_put_45 rfl (lv_at hl 4 rfl) ?_
      refine lv_iconst (v := 0) hx hb dX12_put_46 rg_0 ?_
      refine lv_aload_n hx hb dX12_put_47 rfl (lv_at hl 1 rfl) ?_
      refine va_get (D := (dC, dI)) (ci := 12) (v := .ref (ad 14)) (C := RX12) (T := TX12) (N := 59) hx hb hts hin12 hown hK hP 0 rfl rfl 14 (Nat.le_of_ble_eq_true rfl) (ho (.fieldLink RX12 30 "NearEnoughModel" "rHas" "[I") (List.mem_of_getElem? (i := 3) rfl)) (fun _ h9 => h9) rfl dX12_put_48 ?_
      refine lv_iload hx hb dX12_put_51 (lv_at hl 0 rfl) ?_
      have o11 : 0 ≤ z13.toInt := by omega
      have o12 : z13.toInt < ((4 : Nat) : Int) := by omega
      refine va_iald hx hb hK hP 6 5 rfl rfl (ti_inx o11 o12) dX12_put_53 ?_
      refine lv_topi (fun z14 ez14 => ?_)
      have gz14 : z14.toInt = ((σ.2.1 14) (Int32.toNatClampNeg z13)).toInt := congrArg Int32.toInt (ez14.trans (congrFun rfl (Int32.toNatClampNeg z13)))
      have bz14 : 0 ≤ z14.toInt ∧ z14.toInt ≤ 6 := by rw [ez14]; exact (hI.2 14) _ (cl_lt (n := 4) o11 o12)
      refine lv_iconst (v := 1) hx hb dX12_put_54 rg_6 ?_
      refine lv_isub hx hb dX12_put_55 ?_
      refine lv_topi (fun z15 ez15 => ?_)
      have o13 : -2147483648 ≤ z14.toInt - 1 := by omega
      have o14 : z14.toInt - 1 ≤ 2147483647 := by omega
      have tz15 : z15.toInt = z14.toInt - 1 := ti_sub ez15 rfl rg_18 o13 o14
      have kk16 : (0 : Int32).toInt = 0 := rg_11
      refine zs_i (va_runS (As := [.int x2, .int 0, .int z15]) (rest := []) ⟨hx, hb, hml, hown, hts⟩ (n_isIn l dC dI x2 0 z15  H.size) (va_cwS 3 hts gd_n_put_324_n_isIn rfl rfl rfl dd_n_isIn ⟨Nat.le_of_ble_eq_true rfl, Nat.le_of_ble_eq_true rfl⟩) (preS (A := A) empP (hK.sub (tys' := []) [] rfl) empD hE) rfl rfl hl.1 rfl (lv_room (Nat.le_of_ble_eq_true rfl)) dX12_put_56 ⟨Nat.le_of_ble_eq_true rfl, Nat.le_of_ble_eq_true rfl⟩) hP hD hS hA (fun z17 H locs hq hP hD hS => ?_)
      obtain f18 := hq
      refine W.widen (k := 0) (n := 0) (Nat.le_of_ble_eq_true rfl) (Nat.le_of_ble_eq_true rfl) ?_
      refine lv_if_eq (tgt := 84) hx hb dX12_put_59 rfl (fun c19 => ?_) (fun c19 => ?_)
      · have tc19 := (show z17.toInt = 0 from ti_eq rfl rg_11 c19)
        refine lv_iconst (v := 0) hx hb dX12_put_84 rg_0 ?_
        rw [hQ]
        exact W.zret (v := 0) hx hb hr rfl (fun t ht hW => ⟨⟨0, σ, rfl, ⟨hI, eqx.rf⟩, wEn_of hP (hK.sub [] rfl) hD ht hW⟩, hS.F ht⟩) hS.2.2 dX12_put_85
      · have tc19 := (show z17.toInt ≠ 0 from ti_ne rfl rg_11 c19)
        refine lv_iload hx hb dX12_put_62 (lv_at hl 5 rfl) ?_
        refine lv_aload_n hx hb dX12_put_64 rfl (lv_at hl 1 rfl) ?_
        refine va_get (D := (dC, dI)) (ci := 12) (v := .ref (ad 15)) (C := RX12) (T := TX12) (N := 59) hx hb hts hin12 hown hK hP 0 rfl rfl 15 (Nat.le_of_ble_eq_true rfl) (ho (.fieldLink RX12 33 "NearEnoughModel" "rLeast" "[I") (List.mem_of_getElem? (i := 4) rfl)) (fun _ h9 => h9) rfl dX12_put_65 ?_
        refine lv_iload hx hb dX12_put_68 (lv_at hl 0 rfl) ?_
        refine va_iald hx hb hK hP 7 6 rfl rfl (ti_inx o11 o12) dX12_put_70 ?_
        refine lv_topi (fun z20 ez20 => ?_)
        have gz20 : z20.toInt = ((σ.2.1 15) (Int32.toNatClampNeg z13)).toInt := congrArg Int32.toInt (ez20.trans (congrFun rfl (Int32.toNatClampNeg z13)))
        refine lv_aload_n hx hb dX12_put_71 rfl (lv_at hl 1 rfl) ?_
        refine va_get (D := (dC, dI)) (ci := 12) (v := .ref (ad 16)) (C := RX12) (T := TX12) (N := 59) hx hb hts hin12 hown hK hP 0 rfl rfl 16 (Nat.le_of_ble_eq_true rfl) (ho (.fieldLink RX12 36 "NearEnoughModel" "rMost" "[I") (List.mem_of_getElem? (i := 5) rfl)) (fun _ h9 => h9) rfl dX12_put_72 ?_
        refine lv_iload hx hb dX12_put_75 (lv_at hl 0 rfl) ?_
        refine va_iald hx hb hK hP 8 7 rfl rfl (ti_inx o11 o12) dX12_put_77 ?_
        refine lv_topi (fun z21 ez21 => ?_)
        have gz21 : z21.toInt = ((σ.2.1 16) (Int32.toNatClampNeg z13)).toInt := congrArg Int32.toInt (ez21.trans (congrFun rfl (Int32.toNatClampNeg z13)))
        refine zs_i (va_runS (As := [.int x3, .int z20, .int z21]) (rest := []) ⟨hx, hb, hml, hown, hts⟩ (n_isIn l dC dI x3 z20 z21  H.size) (va_cwS 3 hts gd_n_put_324_n_isIn rfl rfl rfl dd_n_isIn ⟨Nat.le_of_ble_eq_true rfl, Nat.le_of_ble_eq_true rfl⟩) (preS (A := A) empP (hK.sub (tys' := []) [] rfl) empD hE) rfl rfl hl.1 rfl (lv_room (Nat.le_of_ble_eq_true rfl)) dX12_put_78 ⟨Nat.le_of_ble_eq_true rfl, Nat.le_of_ble_eq_true rfl⟩) hP hD hS hA (fun z22 H locs hq hP hD hS => ?_)
        obtain f23 := hq
        refine W.widen (k := 0) (n := 0) (Nat.le_of_ble_eq_true rfl) (Nat.le_of_ble_eq_true rfl) ?_
        refine lv_if_ne (tgt := 86) hx hb dX12_put_81 rfl (fun c24 => ?_) (fun c24 => ?_)
        · have tc24 := (show z22.toInt ≠ 0 from ti_ne rfl rg_11 c24)
          refine lv_aload_n hx hb dX12_put_86 rfl (lv_at hl 1 rfl) ?_
          refine va_get (D := (dC, dI)) (ci := 12) (v := .ref (ad 31)) (C := RX12) (T := TX12) (N := 59) hx hb hts hin12 hown hK hP 0 rfl rfl 31 (Nat.le_of_ble_eq_true rfl) (ho (.fieldLink RX12 76 "NearEnoughModel" "numbers" "[I") (List.mem_of_getElem? (i := 6) rfl)) (fun _ h9 => h9) rfl dX12_put_87 ?_
          refine lv_bipush (v := 12) hx hb dX12_put_90 rg_57 ?_
          refine lv_iload_n hx hb dX12_put_92 rfl (lv_at hl 2 rfl) ?_
          refine lv_imul hx hb dX12_put_93 ?_
          refine lv_topi (fun z25 ez25 => ?_)
          have o15 : -2147483648 ≤ 12 * x0.toInt := by omega
          have o16 : 12 * x0.toInt ≤ 2147483647 := by omega
          have tz25 : z25.toInt = 12 * x0.toInt := ti_mul ez25 rg_58 rfl o15 o16
          refine lv_bipush (v := 6) hx hb dX12_put_94 rg_55 ?_
          refine lv_iload_n hx hb dX12_put_96 rfl (lv_at hl 3 rfl) ?_
          refine lv_imul hx hb dX12_put_97 ?_
          refine lv_topi (fun z26 ez26 => ?_)
          have o17 : -2147483648 ≤ 6 * x1.toInt := by omega
          have o18 : 6 * x1.toInt ≤ 2147483647 := by omega
          have tz26 : z26.toInt = 6 * x1.toInt := ti_mul ez26 rg_70 rfl o17 o18
          refine lv_iadd hx hb dX12_put_98 ?_
          refine lv_topi (fun z27 ez27 => ?_)
          have o19 : -2147483648 ≤ z25.toInt + z26.toInt := by omega
          have o20 : z25.toInt + z26.toInt ≤ 2147483647 := by omega
          have tz27 : z27.toInt = z25.toInt + z26.toInt := ti_add ez27 rfl rfl o19 o20
          refine lv_iload_n hx hb dX12_put_99 rfl (lv_at hl 4 rfl) ?_
          refine lv_iadd hx hb dX12_put_100 ?_
          refine lv_topi (fun z28 ez28 => ?_)
          have o21 : -2147483648 ≤ z27.toInt + x2.toInt := by omega
          have o22 : z27.toInt + x2.toInt ≤ 2147483647 := by omega
          have tz28 : z28.toInt = z27.toInt + x2.toInt := ti_add ez28 rfl rfl o21 o22
          refine lv_iload hx hb dX12_put_101 (lv_at hl 5 rfl) ?_
          have o23 : 0 ≤ z28.toInt := by omega
          have o24 : z28.toInt < ((480 : Nat) : Int) := by omega
          refine va_iast hx hb hK hP hD hS 21 20 rfl rfl (ti_inx o23 o24) dX12_put_103 (fun H locs hP hD hS => ?_)
          rw [wS31] at hP hD
          obtain ⟨τ29, eτ29⟩ : ∃ x9 : MS, x9 = sA σ 31 (upd (σ.2.1 31) (Int32.toNatClampNeg z28) x3) := ⟨_, rfl⟩
          have hP : va_P (dC, dI) vwCl (mW h ad cl τ29) H := by rw [eτ29]; exact hP
          have hD : va_D A (mW h ad cl τ29) := by rw [eτ29]; exact hD
          have hIτ29 : Inv τ29 := by rw [eτ29]; exact (Inv_sA1 hI (fun j _ => Inv.any _))
          have Xτ29 : eqx [31] τ29 σ := (eqx.eq eτ29 (eqx.sA eqx.rf rg_76))
          have qq30 : (τ29.1 29).toInt = ((σ.1 29) : Int32).toInt := congrArg Int32.toInt ((show τ29.1 29 = (σ.1 29) from (congrArg (fun x9 : MS => x9.1 29) eτ29).trans rfl))
          have qq31 : (τ29.1 39).toInt = ((σ.1 39) : Int32).toInt := congrArg Int32.toInt ((show τ29.1 39 = (σ.1 39) from (congrArg (fun x9 : MS => x9.1 39) eτ29).trans rfl))
          refine lv_iconst (v := 1) hx hb dX12_put_104 rg_6 ?_
          rw [hQ]
          exact W.zret (v := 1) hx hb hr rfl (fun t ht hW => ⟨⟨1, τ29, rfl, ⟨hIτ29, Xτ29⟩, wEn_of hP (hK.sub [] rfl) hD ht hW⟩, hS.F ht⟩) hS.2.2 dX12_put_105
        · have tc24 := (show z22.toInt = 0 from ti_eq rfl rg_11 c24)
          refine lv_iconst (v := 0) hx hb dX12_put_84 rg_0 ?_
          rw [hQ]
          exact W.zret (v := 0) hx hb hr rfl (fun t ht hW => ⟨⟨0, σ, rfl, ⟨hI, eqx.rf⟩, wEn_of hP (hK.sub [] rfl) hD ht hW⟩, hS.F ht⟩) hS.2.2 dX12_put_85
    · have tc11 := (show z9.toInt = 0 from ti_eq rfl rg_11 c11)
      refine lv_iconst (v := 0) hx hb dX12_put_33 rg_0 ?_
      rw [hQ]
      exact W.zret (v := 0) hx hb hr rfl (fun t ht hW => ⟨⟨0, σ, rfl, ⟨hI, eqx.rf⟩, wEn_of hP (hK.sub [] rfl) hD ht hW⟩, hS.F ht⟩) hS.2.2 dX12_put_34
def ow_n_mayChange : List Cond := [.fieldLink RX12 39 "NearEnoughModel" "sKind" "[I"]
def vs_n_mayChange : List Cond := .code yX12_mayChange cX12_mayChange 5 (some .boolean) :: (ow_n_mayChange ++ (([.methodLink RX12 331 yX12_at0, .instanceMethod yX12_at0, .selects RX12 yX12_at0 yX12_at0, .initialized RX12] : List Cond) ++ (vs_n_at0 ++ (([.methodLink RX12 324 yX12_isIn, .static yX12_isIn, .initialized yX12_isIn.cls] : List Cond) ++ (vs_n_isIn ++ (wsX120))))))
theorem vg_n_mayChange : vs_n_mayChange.all goodWord = true := by decide +kernel
theorem dd_n_mayChange : yX12_mayChange.cls = RX12 ∧ yX12_mayChange.cls ≠ "java/lang/invoke/MethodHandle" ∧ yX12_mayChange.cls ≠ "java/lang/invoke/VarHandle" ∧ (parseMethodDescriptor yX12_mayChange.desc).map (fun d => d.parameters.length) = some 3 := by decide +kernel
def rm_n_mayChange : Room := { frames := 1, cells := 0, slots := 0, locals := 22 }
theorem gd_n_mayChange_331_n_at0 : GoodIn vs_n_mayChange (wsV RX12 331 RX12 yX12_at0 vs_n_at0) := goodIn_app (goodIn_sub (fun w h => (List.mem_cons_of_mem _ (List.mem_append_right _ (List.mem_append_left _ h)))) (by decide +kernel)) (goodIn_sub (fun w h => (List.mem_cons_of_mem _ (List.mem_append_right _ (List.mem_append_right _ (List.mem_append_left _ h))))) vg_n_at0)
theorem gd_n_mayChange_324_n_isIn : GoodIn vs_n_mayChange (va_wsS RX12 324 yX12_isIn vs_n_isIn) := goodIn_app (goodIn_sub (fun w h => (List.mem_cons_of_mem _ (List.mem_append_right _ (List.mem_append_right _ (List.mem_append_right _ (List.mem_append_left _ h)))))) (by decide +kernel)) (goodIn_sub (fun w h => (List.mem_cons_of_mem _ (List.mem_append_right _ (List.mem_append_right _ (List.mem_append_right _ (List.mem_append_right _ (List.mem_append_left _ h))))))) vg_n_isIn)
set_option maxHeartbeats 4000000 in
set_option maxRecDepth 100000 in
theorem n_mayChange (l : Launch) (dC : Nat → ClassId) (dI : Nat → Nat → Nat) (h : Nat) (ad : Nat → Nat) (cl : Nat → ClassId) (sz : Nat) (σ : MS) (x : Int32) (y : Int32) (z : Int32) (hI : Inv σ) (hx0 : 0 ≤ x.toInt ∧ x.toInt ≤ 11) : Met l yX12_mayChange vs_n_mayChange rm_n_mayChange (va_Pc [.ref h, .int x, .int y, .int z] (wSt dC dI (mW h ad cl σ) (mT cl) sz)) (va_Qi (fun (r : Int32) (τ : MS) => σ = τ ∧ (r.toInt = 0 ∨ (0 ≤ y.toInt ∧ y.toInt ≤ 6 ∧ 0 ≤ z.toInt ∧ z.toInt ≤ 99))) (fun (τ : MS) => wEn dC dI (va_A (mW h ad cl σ) sz) (mW h ad cl τ) []) (va_A (mW h ad cl σ) sz)) 0 0 (va_A (mW h ad cl σ) sz) := by
  refine Met.ofW (cc := cX12_mayChange) (maxL := 5) (ret := (some .boolean)) (by decide) rfl ?_
  intro p e s m args below meth c s₁ B hml hv
  obtain ⟨rfl, hsz, hP, hK, hD0, hE⟩ := hv
  have hx := B.exec
  have hb := B.bytes
  have hr := B.returns
  have hts := atoms_spec (ws := vs_n_mayChange) B.pre
  have hown : s.vm.findClass RX12 = some m.cls := findClass_of_methodNamed B.named
  have hlocks := B.notSynchronized
  subst hsz
  have hD := hD0.self (sz := s.heap.size)
  generalize hAe : va_A (mW h ad cl σ) s.heap.size = A at hD ⊢
  have hA : ∀ q : Nat, s.heap.size ≤ q → A q := fun q h => by rw [← hAe]; exact Or.inr h
  have hl := lv_entry ([.ref h, .int x, .int y, .int z]) (n := 5) (Nat.le_of_ble_eq_true rfl)
  rw [lg_entry_eq]
  generalize (lg_sl ([.ref h, .int x, .int y, .int z]) ++ List.replicate (5 - (lg_sl ([.ref h, .int x, .int y, .int z])).length) Slot.unset).toArray = ls at hl ⊢
  have hl : lv_has ls 5 [(0, .ref h), (1, .int x), (2, .int y), (3, .int z)] := hl
  have ho := fun w (h : w ∈ ow_n_mayChange) => hts w (List.mem_cons_of_mem _ (List.mem_append_left _ h))
  have hin12 : ∀ w ∈ u_ws RX12 TX12 59, w ∈ vs_n_mayChange := fun w h => (List.mem_cons_of_mem _ (List.mem_append_right _ (List.mem_append_right _ (List.mem_append_right _ (List.mem_append_right _ (List.mem_append_right _ h))))))
  refine zQ (fun Q hQ => ?_)
  refine zH (A := A) (ws := mW h ad cl σ) (fun H hP hS => ?_) hP
  have bσ_29 : 0 ≤ (σ.1 29).toInt ∧ (σ.1 29).toInt ≤ 1 := hI.1 29
  refine lv_aload_n hx hb dX12_mayChange_0 rfl (lv_at hl 0 rfl) ?_
  refine va_get (D := (dC, dI)) (ci := 12) (v := .ref (ad 17)) (C := RX12) (T := TX12) (N := 59) hx hb hts hin12 hown hK hP 0 rfl rfl 17 (Nat.le_of_ble_eq_true rfl) (ho (.fieldLink RX12 39 "NearEnoughModel" "sKind" "[I") (List.mem_of_getElem? (i := 0) rfl)) (fun _ h9 => h9) rfl dX12_mayChange_1 ?_
  refine lv_aload_n hx hb dX12_mayChange_4 rfl (lv_at hl 0 rfl) ?_
  refine lv_iload_n hx hb dX12_mayChange_5 rfl (lv_at hl 1 rfl) ?_
  have o1 : 0 ≤ x.toInt := by omega
  have o2 : x.toInt ≤ 11 := by omega
  refine zy_i (va_runV (As := [.int x]) (rest := [.ref (ad 17)]) ⟨hx, hb, hml, hown, hts⟩ (n_at0 l dC dI h ad cl H.size σ x hI ⟨o1, o2⟩) (cwV 1 hts gd_n_mayChange_331_n_at0 rfl rfl rfl dd_n_at0 ⟨Nat.le_of_ble_eq_true rfl, Nat.le_of_ble_eq_true rfl⟩) (preV hP hK hD hE (ci := 12) (q0 := 0) rfl rfl) rfl rfl hl.1 rfl (lv_room (Nat.le_of_ble_eq_true rfl)) dX12_mayChange_6 ⟨Nat.le_of_ble_eq_true rfl, Nat.le_of_ble_eq_true rfl⟩) hD hS hA (fun z2 τ1 H locs hq hP hD hS => ?_)
  obtain ⟨rfl, f3⟩ := hq
  refine W.widen (k := 0) (n := 0) (Nat.le_of_ble_eq_true rfl) (Nat.le_of_ble_eq_true rfl) ?_
  have o3 : 0 ≤ z2.toInt := by omega
  have o4 : z2.toInt < ((24 : Nat) : Int) := by omega
  refine va_iald hx hb hK hP 9 8 rfl rfl (ti_inx o3 o4) dX12_mayChange_9 ?_
  refine lv_topi (fun z4 ez4 => ?_)
  have gz4 : z4.toInt = ((σ.2.1 17) (Int32.toNatClampNeg z2)).toInt := congrArg Int32.toInt (ez4.trans (congrFun rfl (Int32.toNatClampNeg z2)))
  have bz4 : 0 ≤ z4.toInt ∧ z4.toInt ≤ 7 := by rw [ez4]; exact (hI.2 17) _ (cl_lt (n := 24) o3 o4)
  refine lv_istore (lv' := [(4, .int z4), (0, .ref h), (1, .int x), (2, .int y), (3, .int z)]) hx hb dX12_mayChange_10 hl (Nat.le_of_ble_eq_true rfl) rfl (fun ls hl => ?_)
  refine lv_iload_n hx hb dX12_mayChange_12 rfl (lv_at hl 3 rfl) ?_
  by_cases c_lo : y.toInt < 0
  · refine lv_tableOut (tgt := 205) hx hb dX12_mayChange_13 (Or.inl c_lo) rfl ?_
    refine lv_iconst (v := 0) hx hb dX12_mayChange_205 rg_0 ?_
    rw [hQ]
    exact W.zret (v := 0) hx hb hr rfl (fun t ht hW => ⟨⟨0, σ, rfl, ⟨rfl, (by have k9 : (0 : Int32).toInt = 0 := (by decide); omega)⟩, wEn_of hP (hK.sub [] rfl) hD ht hW⟩, hS.F ht⟩) hS.2.2 dX12_mayChange_206
  · by_cases c_hi : 6 < y.toInt
    · refine lv_tableOut (tgt := 205) hx hb dX12_mayChange_13 (Or.inr c_hi) rfl ?_
      refine lv_iconst (v := 0) hx hb dX12_mayChange_205 rg_0 ?_
      rw [hQ]
      exact W.zret (v := 0) hx hb hr rfl (fun t ht hW => ⟨⟨0, σ, rfl, ⟨rfl, (by have k9 : (0 : Int32).toInt = 0 := (by decide); omega)⟩, wEn_of hP (hK.sub [] rfl) hD ht hW⟩, hS.F ht⟩) hS.2.2 dX12_mayChange_206
    · rcases (show y.toInt = 0 ∨ y.toInt = 1 ∨ y.toInt = 2 ∨ y.toInt = 3 ∨ y.toInt = 4 ∨ y.toInt = 5 ∨ y.toInt = 6 by omega) with t_sw | t_sw | t_sw | t_sw | t_sw | t_sw | t_sw
      · refine lv_tableIn (tgt := 56) (off := 43) hx hb dX12_mayChange_13 (by rw [t_sw]; decide) (by rw [t_sw]; decide) (by rw [t_sw]; decide) (by decide) ?_
        refine lv_iload hx hb dX12_mayChange_56 (lv_at hl 0 rfl) ?_
        refine lv_if_ne (tgt := 75) hx hb dX12_mayChange_58 rfl (fun c5 => ?_) (fun c5 => ?_)
        · have tc5 := (show z4.toInt ≠ 0 from ti_ne rfl rg_11 c5)
          refine lv_iconst (v := 0) hx hb dX12_mayChange_75 rg_0 ?_
          rw [hQ]
          exact W.zret (v := 0) hx hb hr rfl (fun t ht hW => ⟨⟨0, σ, rfl, ⟨rfl, (by have k9 : (0 : Int32).toInt = 0 := (by decide); omega)⟩, wEn_of hP (hK.sub [] rfl) hD ht hW⟩, hS.F ht⟩) hS.2.2 dX12_mayChange_76
        · have tc5 := (show z4.toInt = 0 from ti_eq rfl rg_11 c5)
          refine lv_iload_n hx hb dX12_mayChange_61 rfl (lv_at hl 4 rfl) ?_
          refine lv_iconst (v := 2) hx hb dX12_mayChange_62 rg_19 ?_
          refine lv_bipush (v := 6) hx hb dX12_mayChange_63 rg_55 ?_
          have kk6 : (2 : Int32).toInt = 2 := rg_20
          have kk7 : (6 : Int32).toInt = 6 := rg_70
          refine zs_i (va_runS (As := [.int z, .int 2, .int 6]) (rest := []) ⟨hx, hb, hml, hown, hts⟩ (n_isIn l dC dI z 2 6  H.size) (va_cwS 3 hts gd_n_mayChange_324_n_isIn rfl rfl rfl dd_n_isIn ⟨Nat.le_of_ble_eq_true rfl, Nat.le_of_ble_eq_true rfl⟩) (preS (A := A) empP (hK.sub (tys' := []) [] rfl) empD hE) rfl rfl hl.1 rfl (lv_room (Nat.le_of_ble_eq_true rfl)) dX12_mayChange_65 ⟨Nat.le_of_ble_eq_true rfl, Nat.le_of_ble_eq_true rfl⟩) hP hD hS hA (fun z8 H locs hq hP hD hS => ?_)
          obtain f9 := hq
          refine W.widen (k := 0) (n := 0) (Nat.le_of_ble_eq_true rfl) (Nat.le_of_ble_eq_true rfl) ?_
          refine lv_if_eq (tgt := 75) hx hb dX12_mayChange_68 rfl (fun c10 => ?_) (fun c10 => ?_)
          · have tc10 := (show z8.toInt = 0 from ti_eq rfl rg_11 c10)
            refine lv_iconst (v := 0) hx hb dX12_mayChange_75 rg_0 ?_
            rw [hQ]
            exact W.zret (v := 0) hx hb hr rfl (fun t ht hW => ⟨⟨0, σ, rfl, ⟨rfl, (by have k9 : (0 : Int32).toInt = 0 := (by decide); omega)⟩, wEn_of hP (hK.sub [] rfl) hD ht hW⟩, hS.F ht⟩) hS.2.2 dX12_mayChange_76
          · have tc10 := (show z8.toInt ≠ 0 from ti_ne rfl rg_11 c10)
            refine lv_iconst (v := 1) hx hb dX12_mayChange_71 rg_6 ?_
            refine lv_goto (tgt := 76) hx hb dX12_mayChange_72 rfl ?_
            rw [hQ]
            exact W.zret (v := 1) hx hb hr rfl (fun t ht hW => ⟨⟨1, σ, rfl, ⟨rfl, (by have k9 : (1 : Int32).toInt = 1 := (by decide); omega)⟩, wEn_of hP (hK.sub [] rfl) hD ht hW⟩, hS.F ht⟩) hS.2.2 dX12_mayChange_76
      · refine lv_tableIn (tgt := 77) (off := 64) hx hb dX12_mayChange_13 (by rw [t_sw]; decide) (by rw [t_sw]; decide) (by rw [t_sw]; decide) (by decide) ?_
        refine lv_iload_n hx hb dX12_mayChange_77 rfl (lv_at hl 4 rfl) ?_
        refine lv_iconst (v := 1) hx hb dX12_mayChange_78 rg_6 ?_
        refine lv_bipush (v := 10) hx hb dX12_mayChange_79 rg_34 ?_
        have kk11 : (1 : Int32).toInt = 1 := rg_18
        have kk12 : (10 : Int32).toInt = 10 := rg_45
        refine zs_i (va_runS (As := [.int z, .int 1, .int 10]) (rest := []) ⟨hx, hb, hml, hown, hts⟩ (n_isIn l dC dI z 1 10  H.size) (va_cwS 3 hts gd_n_mayChange_324_n_isIn rfl rfl rfl dd_n_isIn ⟨Nat.le_of_ble_eq_true rfl, Nat.le_of_ble_eq_true rfl⟩) (preS (A := A) empP (hK.sub (tys' := []) [] rfl) empD hE) rfl rfl hl.1 rfl (lv_room (Nat.le_of_ble_eq_true rfl)) dX12_mayChange_81 ⟨Nat.le_of_ble_eq_true rfl, Nat.le_of_ble_eq_true rfl⟩) hP hD hS hA (fun z13 H locs hq hP hD hS => ?_)
        obtain f14 := hq
        refine W.widen (k := 0) (n := 0) (Nat.le_of_ble_eq_true rfl) (Nat.le_of_ble_eq_true rfl) ?_
        rw [hQ]
        exact W.zret (v := z13) hx hb hr (nbz (by omega)) (fun t ht hW => ⟨⟨z13, σ, rfl, ⟨rfl, (by omega)⟩, wEn_of hP (hK.sub [] rfl) hD ht hW⟩, hS.F ht⟩) hS.2.2 dX12_mayChange_84
      · refine lv_tableIn (tgt := 85) (off := 72) hx hb dX12_mayChange_13 (by rw [t_sw]; decide) (by rw [t_sw]; decide) (by rw [t_sw]; decide) (by decide) ?_
        refine lv_iload hx hb dX12_mayChange_85 (lv_at hl 0 rfl) ?_
        refine lv_bipush (v := 7) hx hb dX12_mayChange_87 rg_54 ?_
        refine lv_icmp_ne (tgt := 105) hx hb dX12_mayChange_89 rfl (fun c15 => ?_) (fun c15 => ?_)
        · have tc15 := (show z4.toInt ≠ 7 from ti_ne rfl rg_77 c15)
          refine lv_iconst (v := 0) hx hb dX12_mayChange_105 rg_0 ?_
          rw [hQ]
          exact W.zret (v := 0) hx hb hr rfl (fun t ht hW => ⟨⟨0, σ, rfl, ⟨rfl, (by have k9 : (0 : Int32).toInt = 0 := (by decide); omega)⟩, wEn_of hP (hK.sub [] rfl) hD ht hW⟩, hS.F ht⟩) hS.2.2 dX12_mayChange_106
        · have tc15 := (show z4.toInt = 7 from ti_eq rfl rg_77 c15)
          refine lv_iload_n hx hb dX12_mayChange_92 rfl (lv_at hl 4 rfl) ?_
          refine lv_iconst (v := 0) hx hb dX12_mayChange_93 rg_0 ?_
          refine lv_iconst (v := 1) hx hb dX12_mayChange_94 rg_6 ?_
          have kk16 : (0 : Int32).toInt = 0 := rg_11
          have kk17 : (1 : Int32).toInt = 1 := rg_18
          refine zs_i (va_runS (As := [.int z, .int 0, .int 1]) (rest := []) ⟨hx, hb, hml, hown, hts⟩ (n_isIn l dC dI z 0 1  H.size) (va_cwS 3 hts gd_n_mayChange_324_n_isIn rfl rfl rfl dd_n_isIn ⟨Nat.le_of_ble_eq_true rfl, Nat.le_of_ble_eq_true rfl⟩) (preS (A := A) empP (hK.sub (tys' := []) [] rfl) empD hE) rfl rfl hl.1 rfl (lv_room (Nat.le_of_ble_eq_true rfl)) dX12_mayChange_95 ⟨Nat.le_of_ble_eq_true rfl, Nat.le_of_ble_eq_true rfl⟩) hP hD hS hA (fun z18 H locs hq hP hD hS => ?_)
          obtain f19 := hq
          refine W.widen (k := 0) (n := 0) (Nat.le_of_ble_eq_true rfl) (Nat.le_of_ble_eq_true rfl) ?_
          refine lv_if_eq (tgt := 105) hx hb dX12_mayChange_98 rfl (fun c20 => ?_) (fun c20 => ?_)
          · have tc20 := (show z18.toInt = 0 from ti_eq rfl rg_11 c20)
            refine lv_iconst (v := 0) hx hb dX12_mayChange_105 rg_0 ?_
            rw [hQ]
            exact W.zret (v := 0) hx hb hr rfl (fun t ht hW => ⟨⟨0, σ, rfl, ⟨rfl, (by have k9 : (0 : Int32).toInt = 0 := (by decide); omega)⟩, wEn_of hP (hK.sub [] rfl) hD ht hW⟩, hS.F ht⟩) hS.2.2 dX12_mayChange_106
          · have tc20 := (show z18.toInt ≠ 0 from ti_ne rfl rg_11 c20)
            refine lv_iconst (v := 1) hx hb dX12_mayChange_101 rg_6 ?_
            refine lv_goto (tgt := 106) hx hb dX12_mayChange_102 rfl ?_
            rw [hQ]
            exact W.zret (v := 1) hx hb hr rfl (fun t ht hW => ⟨⟨1, σ, rfl, ⟨rfl, (by have k9 : (1 : Int32).toInt = 1 := (by decide); omega)⟩, wEn_of hP (hK.sub [] rfl) hD ht hW⟩, hS.F ht⟩) hS.2.2 dX12_mayChange_106
      · refine lv_tableIn (tgt := 107) (off := 94) hx hb dX12_mayChange_13 (by rw [t_sw]; decide) (by rw [t_sw]; decide) (by rw [t_sw]; decide) (by decide) ?_
        refine lv_iload hx hb dX12_mayChange_107 (lv_at hl 0 rfl) ?_
        refine lv_if_eq (tgt := 125) hx hb dX12_mayChange_109 rfl (fun c21 => ?_) (fun c21 => ?_)
        · have tc21 := (show z4.toInt = 0 from ti_eq rfl rg_11 c21)
          refine lv_iload_n hx hb dX12_mayChange_125 rfl (lv_at hl 4 rfl) ?_
          refine lv_iconst (v := 2) hx hb dX12_mayChange_126 rg_19 ?_
          refine lv_bipush (v := 99) hx hb dX12_mayChange_127 rg_78 ?_
          have kk22 : (2 : Int32).toInt = 2 := rg_20
          have kk23 : (99 : Int32).toInt = 99 := rg_79
          refine zs_i (va_runS (As := [.int z, .int 2, .int 99]) (rest := []) ⟨hx, hb, hml, hown, hts⟩ (n_isIn l dC dI z 2 99  H.size) (va_cwS 3 hts gd_n_mayChange_324_n_isIn rfl rfl rfl dd_n_isIn ⟨Nat.le_of_ble_eq_true rfl, Nat.le_of_ble_eq_true rfl⟩) (preS (A := A) empP (hK.sub (tys' := []) [] rfl) empD hE) rfl rfl hl.1 rfl (lv_room (Nat.le_of_ble_eq_true rfl)) dX12_mayChange_129 ⟨Nat.le_of_ble_eq_true rfl, Nat.le_of_ble_eq_true rfl⟩) hP hD hS hA (fun z24 H locs hq hP hD hS => ?_)
          obtain f25 := hq
          refine W.widen (k := 0) (n := 0) (Nat.le_of_ble_eq_true rfl) (Nat.le_of_ble_eq_true rfl) ?_
          refine lv_if_eq (tgt := 139) hx hb dX12_mayChange_132 rfl (fun c26 => ?_) (fun c26 => ?_)
          · have tc26 := (show z24.toInt = 0 from ti_eq rfl rg_11 c26)
            refine lv_iconst (v := 0) hx hb dX12_mayChange_139 rg_0 ?_
            rw [hQ]
            exact W.zret (v := 0) hx hb hr rfl (fun t ht hW => ⟨⟨0, σ, rfl, ⟨rfl, (by have k9 : (0 : Int32).toInt = 0 := (by decide); omega)⟩, wEn_of hP (hK.sub [] rfl) hD ht hW⟩, hS.F ht⟩) hS.2.2 dX12_mayChange_140
          · have tc26 := (show z24.toInt ≠ 0 from ti_ne rfl rg_11 c26)
            refine lv_iconst (v := 1) hx hb dX12_mayChange_135 rg_6 ?_
            refine lv_goto (tgt := 140) hx hb dX12_mayChange_136 rfl ?_
            rw [hQ]
            exact W.zret (v := 1) hx hb hr rfl (fun t ht hW => ⟨⟨1, σ, rfl, ⟨rfl, (by have k9 : (1 : Int32).toInt = 1 := (by decide); omega)⟩, wEn_of hP (hK.sub [] rfl) hD ht hW⟩, hS.F ht⟩) hS.2.2 dX12_mayChange_140
        · have tc21 := (show z4.toInt ≠ 0 from ti_ne rfl rg_11 c21)
          refine lv_iload hx hb dX12_mayChange_112 (lv_at hl 0 rfl) ?_
          refine lv_iconst (v := 1) hx hb dX12_mayChange_114 rg_6 ?_
          refine lv_icmp_eq (tgt := 125) hx hb dX12_mayChange_115 rfl (fun c27 => ?_) (fun c27 => ?_)
          · have tc27 := (show z4.toInt = 1 from ti_eq rfl rg_18 c27)
            refine lv_iload_n hx hb dX12_mayChange_125 rfl (lv_at hl 4 rfl) ?_
            refine lv_iconst (v := 2) hx hb dX12_mayChange_126 rg_19 ?_
            refine lv_bipush (v := 99) hx hb dX12_mayChange_127 rg_78 ?_
            have kk28 : (2 : Int32).toInt = 2 := rg_20
            have kk29 : (99 : Int32).toInt = 99 := rg_79
            refine zs_i (va_runS (As := [.int z, .int 2, .int 99]) (rest := []) ⟨hx, hb, hml, hown, hts⟩ (n_isIn l dC dI z 2 99  H.size) (va_cwS 3 hts gd_n_mayChange_324_n_isIn rfl rfl rfl dd_n_isIn ⟨Nat.le_of_ble_eq_true rfl, Nat.le_of_ble_eq_true rfl⟩) (preS (A := A) empP (hK.sub (tys' := []) [] rfl) empD hE) rfl rfl hl.1 rfl (lv_room (Nat.le_of_ble_eq_true rfl)) dX12_mayChange_129 ⟨Nat.le_of_ble_eq_true rfl, Nat.le_of_ble_eq_true rfl⟩) hP hD hS hA (fun z30 H locs hq hP hD hS => ?_)
            obtain f31 := hq
            refine W.widen (k := 0) (n := 0) (Nat.le_of_ble_eq_true rfl) (Nat.le_of_ble_eq_true rfl) ?_
            refine lv_if_eq (tgt := 139) hx hb dX12_mayChange_132 rfl (fun c32 => ?_) (fun c32 => ?_)
            · have tc32 := (show z30.toInt = 0 from ti_eq rfl rg_11 c32)
              refine lv_iconst (v := 0) hx hb dX12_mayChange_139 rg_0 ?_
              rw [hQ]
              exact W.zret (v := 0) hx hb hr rfl (fun t ht hW => ⟨⟨0, σ, rfl, ⟨rfl, (by have k9 : (0 : Int32).toInt = 0 := (by decide); omega)⟩, wEn_of hP (hK.sub [] rfl) hD ht hW⟩, hS.F ht⟩) hS.2.2 dX12_mayChange_140
            · have tc32 := (show z30.toInt ≠ 0 from ti_ne rfl rg_11 c32)
              refine lv_iconst (v := 1) hx hb dX12_mayChange_135 rg_6 ?_
              refine lv_goto (tgt := 140) hx hb dX12_mayChange_136 rfl ?_
              rw [hQ]
              exact W.zret (v := 1) hx hb hr rfl (fun t ht hW => ⟨⟨1, σ, rfl, ⟨rfl, (by have k9 : (1 : Int32).toInt = 1 := (by decide); omega)⟩, wEn_of hP (hK.sub [] rfl) hD ht hW⟩, hS.F ht⟩) hS.2.2 dX12_mayChange_140
          · have tc27 := (show z4.toInt ≠ 1 from ti_ne rfl rg_18 c27)
            refine lv_iload hx hb dX12_mayChange_118 (lv_at hl 0 rfl) ?_
            refine lv_bipush (v := 6) hx hb dX12_mayChange_120 rg_55 ?_
            refine lv_icmp_ne (tgt := 139) hx hb dX12_mayChange_122 rfl (fun c33 => ?_) (fun c33 => ?_)
            · have tc33 := (show z4.toInt ≠ 6 from ti_ne rfl rg_70 c33)
              refine lv_iconst (v := 0) hx hb dX12_mayChange_139 rg_0 ?_
              rw [hQ]
              exact W.zret (v := 0) hx hb hr rfl (fun t ht hW => ⟨⟨0, σ, rfl, ⟨rfl, (by have k9 : (0 : Int32).toInt = 0 := (by decide); omega)⟩, wEn_of hP (hK.sub [] rfl) hD ht hW⟩, hS.F ht⟩) hS.2.2 dX12_mayChange_140
            · have tc33 := (show z4.toInt = 6 from ti_eq rfl rg_70 c33)
              refine lv_iload_n hx hb dX12_mayChange_125 rfl (lv_at hl 4 rfl) ?_
              refine lv_iconst (v := 2) hx hb dX12_mayChange_126 rg_19 ?_
              refine lv_bipush (v := 99) hx hb dX12_mayChange_127 rg_78 ?_
              have kk34 : (2 : Int32).toInt = 2 := rg_20
              have kk35 : (99 : Int32).toInt = 99 := rg_79
              refine zs_i (va_runS (As := [.int z, .int 2, .int 99]) (rest := []) ⟨hx, hb, hml, hown, hts⟩ (n_isIn l dC dI z 2 99  H.size) (va_cwS 3 hts gd_n_mayChange_324_n_isIn rfl rfl rfl dd_n_isIn ⟨Nat.le_of_ble_eq_true rfl, Nat.le_of_ble_eq_true rfl⟩) (preS (A := A) empP (hK.sub (tys' := []) [] rfl) empD hE) rfl rfl hl.1 rfl (lv_room (Nat.le_of_ble_eq_true rfl)) dX12_mayChange_129 ⟨Nat.le_of_ble_eq_true rfl, Nat.le_of_ble_eq_true rfl⟩) hP hD hS hA (fun z36 H locs hq hP hD hS => ?_)
              obtain f37 := hq
              refine W.widen (k := 0) (n := 0) (Nat.le_of_ble_eq_true rfl) (Nat.le_of_ble_eq_true rfl) ?_
              refine lv_if_eq (tgt := 139) hx hb dX12_mayChange_132 rfl (fun c38 => ?_) (fun c38 => ?_)
              · have tc38 := (show z36.toInt = 0 from ti_eq rfl rg_11 c38)
                refine lv_iconst (v := 0) hx hb dX12_mayChange_139 rg_0 ?_
                rw [hQ]
                exact W.zret (v := 0) hx hb hr rfl (fun t ht hW => ⟨⟨0, σ, rfl, ⟨rfl, (by have k9 : (0 : Int32).toInt = 0 := (by decide); omega)⟩, wEn_of hP (hK.sub [] rfl) hD ht hW⟩, hS.F ht⟩) hS.2.2 dX12_mayChange_140
              · have tc38 := (show z36.toInt ≠ 0 from ti_ne rfl rg_11 c38)
                refine lv_iconst (v := 1) hx hb dX12_mayChange_135 rg_6 ?_
                refine lv_goto (tgt := 140) hx hb dX12_mayChange_136 rfl ?_
                rw [hQ]
                exact W.zret (v := 1) hx hb hr rfl (fun t ht hW => ⟨⟨1, σ, rfl, ⟨rfl, (by have k9 : (1 : Int32).toInt = 1 := (by decide); omega)⟩, wEn_of hP (hK.sub [] rfl) hD ht hW⟩, hS.F ht⟩) hS.2.2 dX12_mayChange_140
      · refine lv_tableIn (tgt := 141) (off := 128) hx hb dX12_mayChange_13 (by rw [t_sw]; decide) (by rw [t_sw]; decide) (by rw [t_sw]; decide) (by decide) ?_
        refine lv_iload_n hx hb dX12_mayChange_141 rfl (lv_at hl 4 rfl) ?_
        refine lv_if_ne (tgt := 149) hx hb dX12_mayChange_142 rfl (fun c39 => ?_) (fun c39 => ?_)
        · have tc39 := (show z.toInt ≠ 0 from ti_ne rfl rg_11 c39)
          refine lv_iconst (v := 0) hx hb dX12_mayChange_149 rg_0 ?_
          rw [hQ]
          exact W.zret (v := 0) hx hb hr rfl (fun t ht hW => ⟨⟨0, σ, rfl, ⟨rfl, (by have k9 : (0 : Int32).toInt = 0 := (by decide); omega)⟩, wEn_of hP (hK.sub [] rfl) hD ht hW⟩, hS.F ht⟩) hS.2.2 dX12_mayChange_150
        · have tc39 := (show z.toInt = 0 from ti_eq rfl rg_11 c39)
          refine lv_iconst (v := 1) hx hb dX12_mayChange_145 rg_6 ?_
          refine lv_goto (tgt := 150) hx hb dX12_mayChange_146 rfl ?_
          rw [hQ]
          exact W.zret (v := 1) hx hb hr rfl (fun t ht hW => ⟨⟨1, σ, rfl, ⟨rfl, (by have k9 : (1 : Int32).toInt = 1 := (by decide); omega)⟩, wEn_of hP (hK.sub [] rfl) hD ht hW⟩, hS.F ht⟩) hS.2.2 dX12_mayChange_150
      · refine lv_tableIn (tgt := 151) (off := 138) hx hb dX12_mayChange_13 (by rw [t_sw]; decide) (by rw [t_sw]; decide) (by rw [t_sw]; decide) (by decide) ?_
        refine lv_iload hx hb dX12_mayChange_151 (lv_at hl 0 rfl) ?_
        refine lv_if_eq (tgt := 162) hx hb dX12_mayChange_153 rfl (fun c40 => ?_) (fun c40 => ?_)
        · have tc40 := (show z4.toInt = 0 from ti_eq rfl rg_11 c40)
          refine lv_iload_n hx hb dX12_mayChange_162 rfl (lv_at hl 4 rfl) ?_
          refine lv_iconst (v := 1) hx hb dX12_mayChange_163 rg_6 ?_
          refine lv_iconst (v := 5) hx hb dX12_mayChange_164 rg_14 ?_
          have kk41 : (1 : Int32).toInt = 1 := rg_18
          have kk42 : (5 : Int32).toInt = 5 := rg_15
          refine zs_i (va_runS (As := [.int z, .int 1, .int 5]) (rest := []) ⟨hx, hb, hml, hown, hts⟩ (n_isIn l dC dI z 1 5  H.size) (va_cwS 3 hts gd_n_mayChange_324_n_isIn rfl rfl rfl dd_n_isIn ⟨Nat.le_of_ble_eq_true rfl, Nat.le_of_ble_eq_true rfl⟩) (preS (A := A) empP (hK.sub (tys' := []) [] rfl) empD hE) rfl rfl hl.1 rfl (lv_room (Nat.le_of_ble_eq_true rfl)) dX12_mayChange_165 ⟨Nat.le_of_ble_eq_true rfl, Nat.le_of_ble_eq_true rfl⟩) hP hD hS hA (fun z43 H locs hq hP hD hS => ?_)
          obtain f44 := hq
          refine W.widen (k := 0) (n := 0) (Nat.le_of_ble_eq_true rfl) (Nat.le_of_ble_eq_true rfl) ?_
          refine lv_if_eq (tgt := 175) hx hb dX12_mayChange_168 rfl (fun c45 => ?_) (fun c45 => ?_)
          · have tc45 := (show z43.toInt = 0 from ti_eq rfl rg_11 c45)
            refine lv_iconst (v := 0) hx hb dX12_mayChange_175 rg_0 ?_
            rw [hQ]
            exact W.zret (v := 0) hx hb hr rfl (fun t ht hW => ⟨⟨0, σ, rfl, ⟨rfl, (by have k9 : (0 : Int32).toInt = 0 := (by decide); omega)⟩, wEn_of hP (hK.sub [] rfl) hD ht hW⟩, hS.F ht⟩) hS.2.2 dX12_mayChange_176
          · have tc45 := (show z43.toInt ≠ 0 from ti_ne rfl rg_11 c45)
            refine lv_iconst (v := 1) hx hb dX12_mayChange_171 rg_6 ?_
            refine lv_goto (tgt := 176) hx hb dX12_mayChange_172 rfl ?_
            rw [hQ]
            exact W.zret (v := 1) hx hb hr rfl (fun t ht hW => ⟨⟨1, σ, rfl, ⟨rfl, (by have k9 : (1 : Int32).toInt = 1 := (by decide); omega)⟩, wEn_of hP (hK.sub [] rfl) hD ht hW⟩, hS.F ht⟩) hS.2.2 dX12_mayChange_176
        · have tc40 := (show z4.toInt ≠ 0 from ti_ne rfl rg_11 c40)
          refine lv_iload hx hb dX12_mayChange_156 (lv_at hl 0 rfl) ?_
          refine lv_iconst (v := 1) hx hb dX12_mayChange_158 rg_6 ?_
          refine lv_icmp_ne (tgt := 175) hx hb dX12_mayChange_159 rfl (fun c46 => ?_) (fun c46 => ?_)
          · have tc46 := (show z4.toInt ≠ 1 from ti_ne rfl rg_18 c46)
            refine lv_iconst (v := 0) hx hb dX12_mayChange_175 rg_0 ?_
            rw [hQ]
            exact W.zret (v := 0) hx hb hr rfl (fun t ht hW => ⟨⟨0, σ, rfl, ⟨rfl, (by have k9 : (0 : Int32).toInt = 0 := (by decide); omega)⟩, wEn_of hP (hK.sub [] rfl) hD ht hW⟩, hS.F ht⟩) hS.2.2 dX12_mayChange_176
          · have tc46 := (show z4.toInt = 1 from ti_eq rfl rg_18 c46)
            refine lv_iload_n hx hb dX12_mayChange_162 rfl (lv_at hl 4 rfl) ?_
            refine lv_iconst (v := 1) hx hb dX12_mayChange_163 rg_6 ?_
            refine lv_iconst (v := 5) hx hb dX12_mayChange_164 rg_14 ?_
            have kk47 : (1 : Int32).toInt = 1 := rg_18
            have kk48 : (5 : Int32).toInt = 5 := rg_15
            refine zs_i (va_runS (As := [.int z, .int 1, .int 5]) (rest := []) ⟨hx, hb, hml, hown, hts⟩ (n_isIn l dC dI z 1 5  H.size) (va_cwS 3 hts gd_n_mayChange_324_n_isIn rfl rfl rfl dd_n_isIn ⟨Nat.le_of_ble_eq_true rfl, Nat.le_of_ble_eq_true rfl⟩) (preS (A := A) empP (hK.sub (tys' := []) [] rfl) empD hE) rfl rfl hl.1 rfl (lv_room (Nat.le_of_ble_eq_true rfl)) dX12_mayChange_165 ⟨Nat.le_of_ble_eq_true rfl, Nat.le_of_ble_eq_true rfl⟩) hP hD hS hA (fun z49 H locs hq hP hD hS => ?_)
            obtain f50 := hq
            refine W.widen (k := 0) (n := 0) (Nat.le_of_ble_eq_true rfl) (Nat.le_of_ble_eq_true rfl) ?_
            refine lv_if_eq (tgt := 175) hx hb dX12_mayChange_168 rfl (fun c51 => ?_) (fun c51 => ?_)
            · have tc51 := (show z49.toInt = 0 from ti_eq rfl rg_11 c51)
              refine lv_iconst (v := 0) hx hb dX12_mayChange_175 rg_0 ?_
              rw [hQ]
              exact W.zret (v := 0) hx hb hr rfl (fun t ht hW => ⟨⟨0, σ, rfl, ⟨rfl, (by have k9 : (0 : Int32).toInt = 0 := (by decide); omega)⟩, wEn_of hP (hK.sub [] rfl) hD ht hW⟩, hS.F ht⟩) hS.2.2 dX12_mayChange_176
            · have tc51 := (show z49.toInt ≠ 0 from ti_ne rfl rg_11 c51)
              refine lv_iconst (v := 1) hx hb dX12_mayChange_171 rg_6 ?_
              refine lv_goto (tgt := 176) hx hb dX12_mayChange_172 rfl ?_
              rw [hQ]
              exact W.zret (v := 1) hx hb hr rfl (fun t ht hW => ⟨⟨1, σ, rfl, ⟨rfl, (by have k9 : (1 : Int32).toInt = 1 := (by decide); omega)⟩, wEn_of hP (hK.sub [] rfl) hD ht hW⟩, hS.F ht⟩) hS.2.2 dX12_mayChange_176
      · refine lv_tableIn (tgt := 177) (off := 164) hx hb dX12_mayChange_13 (by rw [t_sw]; decide) (by rw [t_sw]; decide) (by rw [t_sw]; decide) (by decide) ?_
        refine lv_iload hx hb dX12_mayChange_177 (lv_at hl 0 rfl) ?_
        refine lv_if_eq (tgt := 195) hx hb dX12_mayChange_179 rfl (fun c52 => ?_) (fun c52 => ?_)
        · have tc52 := (show z4.toInt = 0 from ti_eq rfl rg_11 c52)
          refine lv_iload_n hx hb dX12_mayChange_195 rfl (lv_at hl 4 rfl) ?_
          refine lv_if_ne (tgt := 203) hx hb dX12_mayChange_196 rfl (fun c53 => ?_) (fun c53 => ?_)
          · have tc53 := (show z.toInt ≠ 0 from ti_ne rfl rg_11 c53)
            refine lv_iconst (v := 0) hx hb dX12_mayChange_203 rg_0 ?_
            rw [hQ]
            exact W.zret (v := 0) hx hb hr rfl (fun t ht hW => ⟨⟨0, σ, rfl, ⟨rfl, (by have k9 : (0 : Int32).toInt = 0 := (by decide); omega)⟩, wEn_of hP (hK.sub [] rfl) hD ht hW⟩, hS.F ht⟩) hS.2.2 dX12_mayChange_204
          · have tc53 := (show z.toInt = 0 from ti_eq rfl rg_11 c53)
            refine lv_iconst (v := 1) hx hb dX12_mayChange_199 rg_6 ?_
            refine lv_goto (tgt := 204) hx hb dX12_mayChange_200 rfl ?_
            rw [hQ]
            exact W.zret (v := 1) hx hb hr rfl (fun t ht hW => ⟨⟨1, σ, rfl, ⟨rfl, (by have k9 : (1 : Int32).toInt = 1 := (by decide); omega)⟩, wEn_of hP (hK.sub [] rfl) hD ht hW⟩, hS.F ht⟩) hS.2.2 dX12_mayChange_204
        · have tc52 := (show z4.toInt ≠ 0 from ti_ne rfl rg_11 c52)
          refine lv_iload hx hb dX12_mayChange_182 (lv_at hl 0 rfl) ?_
          refine lv_iconst (v := 1) hx hb dX12_mayChange_184 rg_6 ?_
          refine lv_icmp_eq (tgt := 195) hx hb dX12_mayChange_185 rfl (fun c54 => ?_) (fun c54 => ?_)
          · have tc54 := (show z4.toInt = 1 from ti_eq rfl rg_18 c54)
            refine lv_iload_n hx hb dX12_mayChange_195 rfl (lv_at hl 4 rfl) ?_
            refine lv_if_ne (tgt := 203) hx hb dX12_mayChange_196 rfl (fun c55 => ?_) (fun c55 => ?_)
            · have tc55 := (show z.toInt ≠ 0 from ti_ne rfl rg_11 c55)
              refine lv_iconst (v := 0) hx hb dX12_mayChange_203 rg_0 ?_
              rw [hQ]
              exact W.zret (v := 0) hx hb hr rfl (fun t ht hW => ⟨⟨0, σ, rfl, ⟨rfl, (by have k9 : (0 : Int32).toInt = 0 := (by decide); omega)⟩, wEn_of hP (hK.sub [] rfl) hD ht hW⟩, hS.F ht⟩) hS.2.2 dX12_mayChange_204
            · have tc55 := (show z.toInt = 0 from ti_eq rfl rg_11 c55)
              refine lv_iconst (v := 1) hx hb dX12_mayChange_199 rg_6 ?_
              refine lv_goto (tgt := 204) hx hb dX12_mayChange_200 rfl ?_
              rw [hQ]
              exact W.zret (v := 1) hx hb hr rfl (fun t ht hW => ⟨⟨1, σ, rfl, ⟨rfl, (by have k9 : (1 : Int32).toInt = 1 := (by decide); omega)⟩, wEn_of hP (hK.sub [] rfl) hD ht hW⟩, hS.F ht⟩) hS.2.2 dX12_mayChange_204
          · have tc54 := (show z4.toInt ≠ 1 from ti_ne rfl rg_18 c54)
            refine lv_iload hx hb dX12_mayChange_188 (lv_at hl 0 rfl) ?_
            refine lv_bipush (v := 6) hx hb dX12_mayChange_190 rg_55 ?_
            refine lv_icmp_ne (tgt := 203) hx hb dX12_mayChange_192 rfl (fun c56 => ?_) (fun c56 => ?_)
            · have tc56 := (show z4.toInt ≠ 6 from ti_ne rfl rg_70 c56)
              refine lv_iconst (v := 0) hx hb dX12_mayChange_203 rg_0 ?_
              rw [hQ]
              exact W.zret (v := 0) hx hb hr rfl (fun t ht hW => ⟨⟨0, σ, rfl, ⟨rfl, (by have k9 : (0 : Int32).toInt = 0 := (by decide); omega)⟩, wEn_of hP (hK.sub [] rfl) hD ht hW⟩, hS.F ht⟩) hS.2.2 dX12_mayChange_204
            · have tc56 := (show z4.toInt = 6 from ti_eq rfl rg_70 c56)
              refine lv_iload_n hx hb dX12_mayChange_195 rfl (lv_at hl 4 rfl) ?_
              refine lv_if_ne (tgt := 203) hx hb dX12_mayChange_196 rfl (fun c57 => ?_) (fun c57 => ?_)
              · have tc57 := (show z.toInt ≠ 0 from ti_ne rfl rg_11 c57)
                refine lv_iconst (v := 0) hx hb dX12_mayChange_203 rg_0 ?_
                rw [hQ]
                exact W.zret (v := 0) hx hb hr rfl (fun t ht hW => ⟨⟨0, σ, rfl, ⟨rfl, (by have k9 : (0 : Int32).toInt = 0 := (by decide); omega)⟩, wEn_of hP (hK.sub [] rfl) hD ht hW⟩, hS.F ht⟩) hS.2.2 dX12_mayChange_204
              · have tc57 := (show z.toInt = 0 from ti_eq rfl rg_11 c57)
                refine lv_iconst (v := 1) hx hb dX12_mayChange_199 rg_6 ?_
                refine lv_goto (tgt := 204) hx hb dX12_mayChange_200 rfl ?_
                rw [hQ]
                exact W.zret (v := 1) hx hb hr rfl (fun t ht hW => ⟨⟨1, σ, rfl, ⟨rfl, (by have k9 : (1 : Int32).toInt = 1 := (by decide); omega)⟩, wEn_of hP (hK.sub [] rfl) hD ht hW⟩, hS.F ht⟩) hS.2.2 dX12_mayChange_204
def ow_n_change : List Cond := [.fieldLink RX12 252 "NearEnoughModel" "changes" "I", .fieldLink RX12 82 "NearEnoughModel" "cStep" "[I", .fieldLink RX12 85 "NearEnoughModel" "cKind" "[I", .fieldLink RX12 88 "NearEnoughModel" "cN" "[I", .fieldLink RX12 91 "NearEnoughModel" "cSaves" "[I"]
def vs_n_change : List Cond := .code yX12_change cX12_change 5 (some .int) :: (ow_n_change ++ (([.methodLink RX12 328 yX12_isStep, .instanceMethod yX12_isStep, .selects RX12 yX12_isStep yX12_isStep, .initialized RX12] : List Cond) ++ (vs_n_isStep ++ (([.methodLink RX12 324 yX12_isIn, .static yX12_isIn, .initialized yX12_isIn.cls] : List Cond) ++ (vs_n_isIn ++ (([.methodLink RX12 334 yX12_mayChange, .instanceMethod yX12_mayChange, .selects RX12 yX12_mayChange yX12_mayChange, .initialized RX12] : List Cond) ++ (vs_n_mayChange ++ (wsX120))))))))
theorem vg_n_change : vs_n_change.all goodWord = true := by decide +kernel
theorem dd_n_change : yX12_change.cls = RX12 ∧ yX12_change.cls ≠ "java/lang/invoke/MethodHandle" ∧ yX12_change.cls ≠ "java/lang/invoke/VarHandle" ∧ (parseMethodDescriptor yX12_change.desc).map (fun d => d.parameters.length) = some 4 := by decide +kernel
def rm_n_change : Room := { frames := 2, cells := 0, slots := 0, locals := 46 }
theorem gd_n_change_328_n_isStep : GoodIn vs_n_change (wsV RX12 328 RX12 yX12_isStep vs_n_isStep) := goodIn_app (goodIn_sub (fun w h => (List.mem_cons_of_mem _ (List.mem_append_right _ (List.mem_append_left _ h)))) (by decide +kernel)) (goodIn_sub (fun w h => (List.mem_cons_of_mem _ (List.mem_append_right _ (List.mem_append_right _ (List.mem_append_left _ h))))) vg_n_isStep)
theorem gd_n_change_324_n_isIn : GoodIn vs_n_change (va_wsS RX12 324 yX12_isIn vs_n_isIn) := goodIn_app (goodIn_sub (fun w h => (List.mem_cons_of_mem _ (List.mem_append_right _ (List.mem_append_right _ (List.mem_append_right _ (List.mem_append_left _ h)))))) (by decide +kernel)) (goodIn_sub (fun w h => (List.mem_cons_of_mem _ (List.mem_append_right _ (List.mem_append_right _ (List.mem_append_right _ (List.mem_append_right _ (List.mem_append_left _ h))))))) vg_n_isIn)
theorem gd_n_change_334_n_mayChange : GoodIn vs_n_change (wsV RX12 334 RX12 yX12_mayChange vs_n_mayChange) := goodIn_app (goodIn_sub (fun w h => (List.mem_cons_of_mem _ (List.mem_append_right _ (List.mem_append_right _ (List.mem_append_right _ (List.mem_append_right _ (List.mem_append_right _ (List.mem_append_left _ h)))))))) (by decide +kernel)) (goodIn_sub (fun w h => (List.mem_cons_of_mem _ (List.mem_append_right _ (List.mem_append_right _ (List.mem_append_right _ (List.mem_append_right _ (List.mem_append_right _ (List.mem_append_right _ (List.mem_append_left _ h))))))))) vg_n_mayChange)
set_option maxHeartbeats 4000000 in
set_option maxRecDepth 100000 in
theorem n_change (l : Launch) (dC : Nat → ClassId) (dI : Nat → Nat → Nat) (h : Nat) (ad : Nat → Nat) (cl : Nat → ClassId) (sz : Nat) (σ : MS) (x0 : Int32) (x1 : Int32) (x2 : Int32) (x3 : Int32) (hI : Inv σ) : Met l yX12_change vs_n_change rm_n_change (va_Pc [.ref h, .int x0, .int x1, .int x2, .int x3] (wSt dC dI (mW h ad cl σ) (mT cl) sz)) (va_Qi (fun (r : Int32) (τ : MS) => Inv τ ∧ eqx [33, 34, 35, 36, 40] τ σ) (fun (τ : MS) => wEn dC dI (va_A (mW h ad cl σ) sz) (mW h ad cl τ) []) (va_A (mW h ad cl σ) sz)) 0 0 (va_A (mW h ad cl σ) sz) := by
  refine Met.ofW (cc := cX12_change) (maxL := 5) (ret := (some .int)) (by decide) rfl ?_
  intro p e s m args below meth c s₁ B hml hv
  obtain ⟨rfl, hsz, hP, hK, hD0, hE⟩ := hv
  have hx := B.exec
  have hb := B.bytes
  have hr := B.returns
  have hts := atoms_spec (ws := vs_n_change) B.pre
  have hown : s.vm.findClass RX12 = some m.cls := findClass_of_methodNamed B.named
  have hlocks := B.notSynchronized
  subst hsz
  have hD := hD0.self (sz := s.heap.size)
  generalize hAe : va_A (mW h ad cl σ) s.heap.size = A at hD ⊢
  have hA : ∀ q : Nat, s.heap.size ≤ q → A q := fun q h => by rw [← hAe]; exact Or.inr h
  have hl := lv_entry ([.ref h, .int x0, .int x1, .int x2, .int x3]) (n := 5) (Nat.le_of_ble_eq_true rfl)
  rw [lg_entry_eq]
  generalize (lg_sl ([.ref h, .int x0, .int x1, .int x2, .int x3]) ++ List.replicate (5 - (lg_sl ([.ref h, .int x0, .int x1, .int x2, .int x3])).length) Slot.unset).toArray = ls at hl ⊢
  have hl : lv_has ls 5 [(0, .ref h), (1, .int x0), (2, .int x1), (3, .int x2), (4, .int x3)] := hl
  have ho := fun w (h : w ∈ ow_n_change) => hts w (List.mem_cons_of_mem _ (List.mem_append_left _ h))
  have hin12 : ∀ w ∈ u_ws RX12 TX12 59, w ∈ vs_n_change := fun w h => (List.mem_cons_of_mem _ (List.mem_append_right _ (List.mem_append_right _ (List.mem_append_right _ (List.mem_append_right _ (List.mem_append_right _ (List.mem_append_right _ (List.mem_append_right _ h))))))))
  refine zQ (fun Q hQ => ?_)
  refine zH (A := A) (ws := mW h ad cl σ) (fun H hP hS => ?_) hP
  have bσ_29 : 0 ≤ (σ.1 29).toInt ∧ (σ.1 29).toInt ≤ 1 := hI.1 29
  have bσ_40 : 0 ≤ (σ.1 40).toInt ∧ (σ.1 40).toInt ≤ 12 := hI.1 40
  refine lv_aload_n hx hb dX12_change_0 rfl (lv_at hl 0 rfl) ?_
  refine lv_iload_n hx hb dX12_change_1 rfl (lv_at hl 1 rfl) ?_
  refine zy_i (va_runV (As := [.int x0]) (rest := []) ⟨hx, hb, hml, hown, hts⟩ (n_isStep l dC dI h ad cl H.size σ x0 hI) (cwV 1 hts gd_n_change_328_n_isStep rfl rfl rfl dd_n_isStep ⟨Nat.le_of_ble_eq_true rfl, Nat.le_of_ble_eq_true rfl⟩) (preV hP hK hD hE (ci := 12) (q0 := 0) rfl rfl) rfl rfl hl.1 rfl (lv_room (Nat.le_of_ble_eq_true rfl)) dX12_change_2 ⟨Nat.le_of_ble_eq_true rfl, Nat.le_of_ble_eq_true rfl⟩) hD hS hA (fun z2 τ1 H locs hq hP hD hS => ?_)
  obtain ⟨rfl, f3⟩ := hq
  refine W.widen (k := 0) (n := 0) (Nat.le_of_ble_eq_true rfl) (Nat.le_of_ble_eq_true rfl) ?_
  refine lv_if_eq (tgt := 29) hx hb dX12_change_5 rfl (fun c4 => ?_) (fun c4 => ?_)
  · have tc4 := (show z2.toInt = 0 from ti_eq rfl rg_11 c4)
    refine lv_iconst (v := (-1)) hx hb dX12_change_29 rg_53 ?_
    rw [hQ]
    exact W.iret (v := (-1)) hx hb hr (fun t ht hW => ⟨⟨(-1), σ, rfl, ⟨hI, eqx.rf⟩, wEn_of hP (hK.sub [] rfl) hD ht hW⟩, hS.F ht⟩) hS.2.2 dX12_change_30
  · have tc4 := (show z2.toInt ≠ 0 from ti_ne rfl rg_11 c4)
    refine lv_aload_n hx hb dX12_change_8 rfl (lv_at hl 0 rfl) ?_
    refine va_get (D := (dC, dI)) (ci := 12) (v := .int (σ.1 40)) (C := RX12) (T := TX12) (N := 59) hx hb hts hin12 hown hK hP 0 rfl rfl 40 (Nat.le_of_ble_eq_true rfl) (ho (.fieldLink RX12 252 "NearEnoughModel" "changes" "I") (List.mem_of_getElem? (i := 0) rfl)) (fun _ h9 => h9) rfl dX12_change_9 ?_
    have bσ_40 : 0 ≤ (σ.1 40).toInt ∧ (σ.1 40).toInt ≤ 12 := hI.1 40
    refine lv_bipush (v := 12) hx hb dX12_change_12 rg_57 ?_
    refine lv_icmp_eq (tgt := 29) hx hb dX12_change_14 rfl (fun c5 => ?_) (fun c5 => ?_)
    · have tc5 := (show (σ.1 40).toInt = 12 from ti_eq rfl rg_58 c5)
      refine lv_iconst (v := (-1)) hx hb dX12_change_29 rg_53 ?_
      rw [hQ]
      exact W.iret (v := (-1)) hx hb hr (fun t ht hW => ⟨⟨(-1), σ, rfl, ⟨hI, eqx.rf⟩, wEn_of hP (hK.sub [] rfl) hD ht hW⟩, hS.F ht⟩) hS.2.2 dX12_change_30
    · have tc5 := (show (σ.1 40).toInt ≠ 12 from ti_ne rfl rg_58 c5)
      refine lv_iload hx hb dX12_change_17 (lv_at hl 4 rfl) ?_
      refine lv_iconst (v := 0) hx hb dX12_change_19 rg_0 ?_
      refine lv_sipush (v := 999) hx hb dX12_change_20 rg_80 ?_
      have kk6 : (0 : Int32).toInt = 0 := rg_11
      have kk7 : (999 : Int32).toInt = 999 := rg_81
      refine zs_i (va_runS (As := [.int x3, .int 0, .int 999]) (rest := []) ⟨hx, hb, hml, hown, hts⟩ (n_isIn l dC dI x3 0 999  H.size) (va_cwS 3 hts gd_n_change_324_n_isIn rfl rfl rfl dd_n_isIn ⟨Nat.le_of_ble_eq_true rfl, Nat.le_of_ble_eq_true rfl⟩) (preS (A := A) empP (hK.sub (tys' := []) [] rfl) empD hE) rfl rfl hl.1 rfl (lv_room (Nat.le_of_ble_eq_true rfl)) dX12_change_23 ⟨Nat.le_of_ble_eq_true rfl, Nat.le_of_ble_eq_true rfl⟩) hP hD hS hA (fun z8 H locs hq hP hD hS => ?_)
      obtain f9 := hq
      refine W.widen (k := 0) (n := 0) (Nat.le_of_ble_eq_true rfl) (Nat.le_of_ble_eq_true rfl) ?_
      refine lv_if_ne (tgt := 31) hx hb dX12_change_26 rfl (fun c10 => ?_) (fun c10 => ?_)
      · have tc10 := (show z8.toInt ≠ 0 from ti_ne rfl rg_11 c10)
        refine lv_aload_n hx hb dX12_change_31 rfl (lv_at hl 0 rfl) ?_
        refine lv_iload_n hx hb dX12_change_32 rfl (lv_at hl 1 rfl) ?_
        refine lv_iload_n hx hb dX12_change_33 rfl (lv_at hl 2 rfl) ?_
        refine lv_iload_n hx hb dX12_change_34 rfl (lv_at hl 3 rfl) ?_
        have o1 : 0 ≤ x0.toInt := by omega
        have o2 : x0.toInt ≤ 11 := by omega
        refine zy_i (va_runV (As := [.int x0, .int x1, .int x2]) (rest := []) ⟨hx, hb, hml, hown, hts⟩ (n_mayChange l dC dI h ad cl H.size σ x0 x1 x2 hI ⟨o1, o2⟩) (cwV 3 hts gd_n_change_334_n_mayChange rfl rfl rfl dd_n_mayChange ⟨Nat.le_of_ble_eq_true rfl, Nat.le_of_ble_eq_true rfl⟩) (preV hP hK hD hE (ci := 12) (q0 := 0) rfl rfl) rfl rfl hl.1 rfl (lv_room (Nat.le_of_ble_eq_true rfl)) dX12_change_35 ⟨Nat.le_of_ble_eq_true rfl, Nat.le_of_ble_eq_true rfl⟩) hD hS hA (fun z12 τ11 H locs hq hP hD hS => ?_)
        obtain ⟨rfl, f13⟩ := hq
        refine W.widen (k := 0) (n := 0) (Nat.le_of_ble_eq_true rfl) (Nat.le_of_ble_eq_true rfl) ?_
        refine lv_if_ne (tgt := 43) hx hb dX12_change_38 rfl (fun c14 => ?_) (fun c14 => ?_)
        · have tc14 := (show z12.toInt ≠ 0 from ti_ne rfl rg_11 c14)
          refine lv_aload_n hx hb dX12_change_43 rfl (lv_at hl 0 rfl) ?_
          refine va_get (D := (dC, dI)) (ci := 12) (v := .ref (ad 33)) (C := RX12) (T := TX12) (N := 59) hx hb hts hin12 hown hK hP 0 rfl rfl 33 (Nat.le_of_ble_eq_true rfl) (ho (.fieldLink RX12 82 "NearEnoughModel" "cStep" "[I") (List.mem_of_getElem? (i := 1) rfl)) (fun _ h9 => h9) rfl dX12_change_44 ?_
          refine lv_aload_n hx hb dX12_change_47 rfl (lv_at hl 0 rfl) ?_
          refine va_get (D := (dC, dI)) (ci := 12) (v := .int (σ.1 40)) (C := RX12) (T := TX12) (N := 59) hx hb hts hin12 hown hK hP 0 rfl rfl 40 (Nat.le_of_ble_eq_true rfl) (ho (.fieldLink RX12 252 "NearEnoughModel" "changes" "I") (List.mem_of_getElem? (i := 0) rfl)) (fun _ h9 => h9) rfl dX12_change_48 ?_
          have bσ_40 : 0 ≤ (σ.1 40).toInt ∧ (σ.1 40).toInt ≤ 12 := hI.1 40
          refine lv_iload_n hx hb dX12_change_51 rfl (lv_at hl 1 rfl) ?_
          have o3 : 0 ≤ (σ.1 40).toInt := by omega
          have o4 : (σ.1 40).toInt < ((12 : Nat) : Int) := by omega
          refine va_iast hx hb hK hP hD hS 23 22 rfl rfl (ti_inx o3 o4) dX12_change_52 (fun H locs hP hD hS => ?_)
          rw [wS33] at hP hD
          obtain ⟨τ15, eτ15⟩ : ∃ x9 : MS, x9 = sA σ 33 (upd (σ.2.1 33) (Int32.toNatClampNeg (σ.1 40)) x0) := ⟨_, rfl⟩
          have hP : va_P (dC, dI) vwCl (mW h ad cl τ15) H := by rw [eτ15]; exact hP
          have hD : va_D A (mW h ad cl τ15) := by rw [eτ15]; exact hD
          have o5 : (0 : Int) ≤ (x0 : Int32).toInt := by omega
          have o6 : (x0 : Int32).toInt ≤ 11 := by omega
          have hIτ15 : Inv τ15 := by rw [eτ15]; exact (Inv_sA1 hI (rgu (hI.2 33) (show (0 : Int) ≤ (x0 : Int32).toInt ∧ (x0 : Int32).toInt ≤ 11 from ⟨o5, o6⟩)))
          have Xτ15 : eqx [33, 34, 35, 36, 40] τ15 σ := (eqx.eq eτ15 (eqx.sA eqx.rf rg_82))
          have qq16 : (τ15.1 29).toInt = ((σ.1 29) : Int32).toInt := congrArg Int32.toInt ((show τ15.1 29 = (σ.1 29) from (congrArg (fun x9 : MS => x9.1 29) eτ15).trans rfl))
          have qq17 : (τ15.1 40).toInt = ((σ.1 40) : Int32).toInt := congrArg Int32.toInt ((show τ15.1 40 = (σ.1 40) from (congrArg (fun x9 : MS => x9.1 40) eτ15).trans rfl))
          refine lv_aload_n hx hb dX12_change_53 rfl (lv_at hl 0 rfl) ?_
          refine va_get (D := (dC, dI)) (ci := 12) (v := .ref (ad 34)) (C := RX12) (T := TX12) (N := 59) hx hb hts hin12 hown hK hP 0 rfl rfl 34 (Nat.le_of_ble_eq_true rfl) (ho (.fieldLink RX12 85 "NearEnoughModel" "cKind" "[I") (List.mem_of_getElem? (i := 2) rfl)) (fun _ h9 => h9) rfl dX12_change_54 ?_
          refine lv_aload_n hx hb dX12_change_57 rfl (lv_at hl 0 rfl) ?_
          refine va_get (D := (dC, dI)) (ci := 12) (v := .int (τ15.1 40)) (C := RX12) (T := TX12) (N := 59) hx hb hts hin12 hown hK hP 0 rfl rfl 40 (Nat.le_of_ble_eq_true rfl) (ho (.fieldLink RX12 252 "NearEnoughModel" "changes" "I") (List.mem_of_getElem? (i := 0) rfl)) (fun _ h9 => h9) rfl dX12_change_58 ?_
          refine zi (v := (σ.1 40)) (show τ15.1 40 = (σ.1 40) from (congrArg (fun x9 : MS => x9.1 40) eτ15).trans rfl) ?_
          have bb18 : 0 ≤ (σ.1 40).toInt ∧ (σ.1 40).toInt ≤ 12 := by have h9 := hIτ15.1 40; rw [show (τ15.1 40) = (σ.1 40) from (show τ15.1 40 = (σ.1 40) from (congrArg (fun x9 : MS => x9.1 40) eτ15).trans rfl)] at h9; exact h9
          refine lv_iload_n hx hb dX12_change_61 rfl (lv_at hl 2 rfl) ?_
          refine va_iast hx hb hK hP hD hS 24 23 rfl rfl (ti_inx o3 o4) dX12_change_62 (fun H locs hP hD hS => ?_)
          rw [wS34] at hP hD
          obtain ⟨τ19, eτ19⟩ : ∃ x9 : MS, x9 = sA τ15 34 (upd (τ15.2.1 34) (Int32.toNatClampNeg (σ.1 40)) x1) := ⟨_, rfl⟩
          have hP : va_P (dC, dI) vwCl (mW h ad cl τ19) H := by rw [eτ19]; exact hP
          have hD : va_D A (mW h ad cl τ19) := by rw [eτ19]; exact hD
          have o7 : (0 : Int) ≤ (x1 : Int32).toInt := by omega
          have o8 : (x1 : Int32).toInt ≤ 6 := by omega
          have hIτ19 : Inv τ19 := by rw [eτ19]; exact (Inv_sA1 hIτ15 (rgu (hIτ15.2 34) (show (0 : Int) ≤ (x1 : Int32).toInt ∧ (x1 : Int32).toInt ≤ 6 from ⟨o7, o8⟩)))
          have Xτ19 : eqx [33, 34, 35, 36, 40] τ19 σ := (eqx.eq eτ19 (eqx.sA Xτ15 rg_83))
          have qq20 : (τ19.1 29).toInt = ((σ.1 29) : Int32).toInt := congrArg Int32.toInt ((show τ19.1 29 = (σ.1 29) from (congrArg (fun x9 : MS => x9.1 29) eτ19).trans (show τ15.1 29 = (σ.1 29) from (congrArg (fun x9 : MS => x9.1 29) eτ15).trans rfl)))
          have qq21 : (τ19.1 40).toInt = ((σ.1 40) : Int32).toInt := congrArg Int32.toInt ((show τ19.1 40 = (σ.1 40) from (congrArg (fun x9 : MS => x9.1 40) eτ19).trans (show τ15.1 40 = (σ.1 40) from (congrArg (fun x9 : MS => x9.1 40) eτ15).trans rfl)))
          refine lv_aload_n hx hb dX12_change_63 rfl (lv_at hl 0 rfl) ?_
          refine va_get (D := (dC, dI)) (ci := 12) (v := .ref (ad 35)) (C := RX12) (T := TX12) (N := 59) hx hb hts hin12 hown hK hP 0 rfl rfl 35 (Nat.le_of_ble_eq_true rfl) (ho (.fieldLink RX12 88 "NearEnoughModel" "cN" "[I") (List.mem_of_getElem? (i := 3) rfl)) (fun _ h9 => h9) rfl dX12_change_64 ?_
          refine lv_aload_n hx hb dX12_change_67 rfl (lv_at hl 0 rfl) ?_
          refine va_get (D := (dC, dI)) (ci := 12) (v := .int (τ19.1 40)) (C := RX12) (T := TX12) (N := 59) hx hb hts hin12 hown hK hP 0 rfl rfl 40 (Nat.le_of_ble_eq_true rfl) (ho (.fieldLink RX12 252 "NearEnoughModel" "changes" "I") (List.mem_of_getElem? (i := 0) rfl)) (fun _ h9 => h9) rfl dX12_change_68 ?_
          refine zi (v := (σ.1 40)) (show τ19.1 40 = (σ.1 40) from (congrArg (fun x9 : MS => x9.1 40) eτ19).trans (show τ15.1 40 = (σ.1 40) from (congrArg (fun x9 : MS => x9.1 40) eτ15).trans rfl)) ?_
          have bb22 : 0 ≤ (σ.1 40).toInt ∧ (σ.1 40).toInt ≤ 12 := by have h9 := hIτ19.1 40; rw [show (τ19.1 40) = (σ.1 40) from (show τ19.1 40 = (σ.1 40) from (congrArg (fun x9 : MS => x9.1 40) eτ19).trans (show τ15.1 40 = (σ.1 40) from (congrArg (fun x9 : MS => x9.1 40) eτ15).trans rfl))] at h9; exact h9
          refine lv_iload_n hx hb dX12_change_71 rfl (lv_at hl 3 rfl) ?_
          refine va_iast hx hb hK hP hD hS 25 24 rfl rfl (ti_inx o3 o4) dX12_change_72 (fun H locs hP hD hS => ?_)
          rw [wS35] at hP hD
          obtain ⟨τ23, eτ23⟩ : ∃ x9 : MS, x9 = sA τ19 35 (upd (τ19.2.1 35) (Int32.toNatClampNeg (σ.1 40)) x2) := ⟨_, rfl⟩
          have hP : va_P (dC, dI) vwCl (mW h ad cl τ23) H := by rw [eτ23]; exact hP
          have hD : va_D A (mW h ad cl τ23) := by rw [eτ23]; exact hD
          have o9 : (0 : Int) ≤ (x2 : Int32).toInt := by omega
          have o10 : (x2 : Int32).toInt ≤ 99 := by omega
          have hIτ23 : Inv τ23 := by rw [eτ23]; exact (Inv_sA1 hIτ19 (rgu (hIτ19.2 35) (show (0 : Int) ≤ (x2 : Int32).toInt ∧ (x2 : Int32).toInt ≤ 99 from ⟨o9, o10⟩)))
          have Xτ23 : eqx [33, 34, 35, 36, 40] τ23 σ := (eqx.eq eτ23 (eqx.sA Xτ19 rg_84))
          have qq24 : (τ23.1 29).toInt = ((σ.1 29) : Int32).toInt := congrArg Int32.toInt ((show τ23.1 29 = (σ.1 29) from (congrArg (fun x9 : MS => x9.1 29) eτ23).trans (show τ19.1 29 = (σ.1 29) from (congrArg (fun x9 : MS => x9.1 29) eτ19).trans (show τ15.1 29 = (σ.1 29) from (congrArg (fun x9 : MS => x9.1 29) eτ15).trans rfl))))
          have qq25 : (τ23.1 40).toInt = ((σ.1 40) : Int32).toInt := congrArg Int32.toInt ((show τ23.1 40 = (σ.1 40) from (congrArg (fun x9 : MS => x9.1 40) eτ23).trans (show τ19.1 40 = (σ.1 40) from (congrArg (fun x9 : MS => x9.1 40) eτ19).trans (show τ15.1 40 = (σ.1 40) from (congrArg (fun x9 : MS => x9.1 40) eτ15).trans rfl))))
          refine lv_aload_n hx hb dX12_change_73 rfl (lv_at hl 0 rfl) ?_
          refine va_get (D := (dC, dI)) (ci := 12) (v := .ref (ad 36)) (C := RX12) (T := TX12) (N := 59) hx hb hts hin12 hown hK hP 0 rfl rfl 36 (Nat.le_of_ble_eq_true rfl) (ho (.fieldLink RX12 91 "NearEnoughModel" "cSaves" "[I") (List.mem_of_getElem? (i := 4) rfl)) (fun _ h9 => h9) rfl dX12_change_74 ?_
          refine lv_aload_n hx hb dX12_change_77 rfl (lv_at hl 0 rfl) ?_
          refine va_get (D := (dC, dI)) (ci := 12) (v := .int (τ23.1 40)) (C := RX12) (T := TX12) (N := 59) hx hb hts hin12 hown hK hP 0 rfl rfl 40 (Nat.le_of_ble_eq_true rfl) (ho (.fieldLink RX12 252 "NearEnoughModel" "changes" "I") (List.mem_of_getElem? (i := 0) rfl)) (fun _ h9 => h9) rfl dX12_change_78 ?_
          refine zi (v := (σ.1 40)) (show τ23.1 40 = (σ.1 40) from (congrArg (fun x9 : MS => x9.1 40) eτ23).trans (show τ19.1 40 = (σ.1 40) from (congrArg (fun x9 : MS => x9.1 40) eτ19).trans (show τ15.1 40 = (σ.1 40) from (congrArg (fun x9 : MS => x9.1 40) eτ15).trans rfl))) ?_
          have bb26 : 0 ≤ (σ.1 40).toInt ∧ (σ.1 40).toInt ≤ 12 := by have h9 := hIτ23.1 40; rw [show (τ23.1 40) = (σ.1 40) from (show τ23.1 40 = (σ.1 40) from (congrArg (fun x9 : MS => x9.1 40) eτ23).trans (show τ19.1 40 = (σ.1 40) from (congrArg (fun x9 : MS => x9.1 40) eτ19).trans (show τ15.1 40 = (σ.1 40) from (congrArg (fun x9 : MS => x9.1 40) eτ15).trans rfl)))] at h9; exact h9
          refine lv_iload hx hb dX12_change_81 (lv_at hl 4 rfl) ?_
          refine va_iast hx hb hK hP hD hS 26 25 rfl rfl (ti_inx o3 o4) dX12_change_83 (fun H locs hP hD hS => ?_)
          rw [wS36] at hP hD
          obtain ⟨τ27, eτ27⟩ : ∃ x9 : MS, x9 = sA τ23 36 (upd (τ23.2.1 36) (Int32.toNatClampNeg (σ.1 40)) x3) := ⟨_, rfl⟩
          have hP : va_P (dC, dI) vwCl (mW h ad cl τ27) H := by rw [eτ27]; exact hP
          have hD : va_D A (mW h ad cl τ27) := by rw [eτ27]; exact hD
          have hIτ27 : Inv τ27 := by rw [eτ27]; exact (Inv_sA1 hIτ23 (fun j _ => Inv.any _))
          have Xτ27 : eqx [33, 34, 35, 36, 40] τ27 σ := (eqx.eq eτ27 (eqx.sA Xτ23 rg_85))
          have qq28 : (τ27.1 29).toInt = ((σ.1 29) : Int32).toInt := congrArg Int32.toInt ((show τ27.1 29 = (σ.1 29) from (congrArg (fun x9 : MS => x9.1 29) eτ27).trans (show τ23.1 29 = (σ.1 29) from (congrArg (fun x9 : MS => x9.1 29) eτ23).trans (show τ19.1 29 = (σ.1 29) from (congrArg (fun x9 : MS => x9.1 29) eτ19).trans (show τ15.1 29 = (σ.1 29) from (congrArg (fun x9 : MS => x9.1 29) eτ15).trans rfl)))))
          have qq29 : (τ27.1 40).toInt = ((σ.1 40) : Int32).toInt := congrArg Int32.toInt ((show τ27.1 40 = (σ.1 40) from (congrArg (fun x9 : MS => x9.1 40) eτ27).trans (show τ23.1 40 = (σ.1 40) from (congrArg (fun x9 : MS => x9.1 40) eτ23).trans (show τ19.1 40 = (σ.1 40) from (congrArg (fun x9 : MS => x9.1 40) eτ19).trans (show τ15.1 40 = (σ.1 40) from (congrArg (fun x9 : MS => x9.1 40) eτ15).trans rfl)))))
          refine lv_aload_n hx hb dX12_change_84 rfl (lv_at hl 0 rfl) ?_
          refine lv_dup hx hb dX12_change_85 rfl ?_
          refine va_get (D := (dC, dI)) (ci := 12) (v := .int (τ27.1 40)) (C := RX12) (T := TX12) (N := 59) hx hb hts hin12 hown hK hP 0 rfl rfl 40 (Nat.le_of_ble_eq_true rfl) (ho (.fieldLink RX12 252 "NearEnoughModel" "changes" "I") (List.mem_of_getElem? (i := 0) rfl)) (fun _ h9 => h9) rfl dX12_change_86 ?_
          refine zi (v := (σ.1 40)) (show τ27.1 40 = (σ.1 40) from (congrArg (fun x9 : MS => x9.1 40) eτ27).trans (show τ23.1 40 = (σ.1 40) from (congrArg (fun x9 : MS => x9.1 40) eτ23).trans (show τ19.1 40 = (σ.1 40) from (congrArg (fun x9 : MS => x9.1 40) eτ19).trans (show τ15.1 40 = (σ.1 40) from (congrArg (fun x9 : MS => x9.1 40) eτ15).trans rfl)))) ?_
          have bb30 : 0 ≤ (σ.1 40).toInt ∧ (σ.1 40).toInt ≤ 12 := by have h9 := hIτ27.1 40; rw [show (τ27.1 40) = (σ.1 40) from (show τ27.1 40 = (σ.1 40) from (congrArg (fun x9 : MS => x9.1 40) eτ27).trans (show τ23.1 40 = (σ.1 40) from (congrArg (fun x9 : MS => x9.1 40) eτ23).trans (show τ19.1 40 = (σ.1 40) from (congrArg (fun x9 : MS => x9.1 40) eτ19).trans (show τ15.1 40 = (σ.1 40) from (congrArg (fun x9 : MS => x9.1 40) eτ15).trans rfl))))] at h9; exact h9
          refine lv_iconst (v := 1) hx hb dX12_change_89 rg_6 ?_
          refine lv_iadd hx hb dX12_change_90 ?_
          refine lv_topi (fun z31 ez31 => ?_)
          have o11 : -2147483648 ≤ (σ.1 40).toInt + 1 := by omega
          have o12 : (σ.1 40).toInt + 1 ≤ 2147483647 := by omega
          have tz31 : z31.toInt = (σ.1 40).toInt + 1 := ti_add ez31 rfl rg_18 o11 o12
          refine va_put (D := (dC, dI)) (ci := 12) (v := .int z31) (ty := tyX12 40) (C := RX12) (T := TX12) (N := 59) hx hb hts hin12 tyX12 tyX12_ok nmX12 hown hK hP hD hS 0 rfl rfl 40 (Nat.le_of_ble_eq_true rfl) (ho (.fieldLink RX12 252 "NearEnoughModel" "changes" "I") (List.mem_of_getElem? (i := 0) rfl)) (fun _ h9 => h9) rfl (tyX12_ok 40 (Nat.le_of_ble_eq_true rfl)) rfl rfl (Nat.le_of_ble_eq_true rfl) dX12_change_91 (fun H locs hP hD hS => ?_)
          have hP : va_P (dC, dI) vwCl (mW h ad cl (sI τ27 40 z31)) H := hP
          have hD : va_D A (mW h ad cl (sI τ27 40 z31)) := hD
          refine lv_aload_n hx hb dX12_change_94 rfl (lv_at hl 0 rfl) ?_
          refine va_get (D := (dC, dI)) (ci := 12) (v := .int z31) (C := RX12) (T := TX12) (N := 59) hx hb hts hin12 hown hK hP 0 rfl rfl 40 (Nat.le_of_ble_eq_true rfl) (ho (.fieldLink RX12 252 "NearEnoughModel" "changes" "I") (List.mem_of_getElem? (i := 0) rfl)) (fun _ h9 => h9) rfl dX12_change_95 ?_
          refine lv_iconst (v := 1) hx hb dX12_change_98 rg_6 ?_
          refine lv_isub hx hb dX12_change_99 ?_
          refine lv_topi (fun z32 ez32 => ?_)
          have o13 : -2147483648 ≤ z31.toInt - 1 := by omega
          have o14 : z31.toInt - 1 ≤ 2147483647 := by omega
          have tz32 : z32.toInt = z31.toInt - 1 := ti_sub ez32 rfl rg_18 o13 o14
          rw [hQ]
          have o15 : (0 : Int) ≤ z31.toInt := by omega
          have o16 : z31.toInt ≤ 12 := by omega
          exact W.iret (v := z32) hx hb hr (fun t ht hW => ⟨⟨z32, (sI τ27 40 z31), rfl, ⟨(Inv.sI hIτ27 (show (0 : Int) ≤ z31.toInt ∧ z31.toInt ≤ 12 from ⟨o15, o16⟩)), (eqx.sI Xτ27 rg_86)⟩, wEn_of hP (hK.sub [] rfl) hD ht hW⟩, hS.F ht⟩) hS.2.2 dX12_change_100
        · have tc14 := (show z12.toInt = 0 from ti_eq rfl rg_11 c14)
          refine lv_iconst (v := (-1)) hx hb dX12_change_41 rg_53 ?_
          rw [hQ]
          exact W.iret (v := (-1)) hx hb hr (fun t ht hW => ⟨⟨(-1), σ, rfl, ⟨hI, eqx.rf⟩, wEn_of hP (hK.sub [] rfl) hD ht hW⟩, hS.F ht⟩) hS.2.2 dX12_change_42
      · have tc10 := (show z8.toInt = 0 from ti_eq rfl rg_11 c10)
        refine lv_iconst (v := (-1)) hx hb dX12_change_29 rg_53 ?_
        rw [hQ]
        exact W.iret (v := (-1)) hx hb hr (fun t ht hW => ⟨⟨(-1), σ, rfl, ⟨hI, eqx.rf⟩, wEn_of hP (hK.sub [] rfl) hD ht hW⟩, hS.F ht⟩) hS.2.2 dX12_change_30
def ow_n_isChoice : List Cond := [.fieldLink RX12 252 "NearEnoughModel" "changes" "I", .fieldLink RX12 94 "NearEnoughModel" "on" "[I", .fieldLink RX12 82 "NearEnoughModel" "cStep" "[I"]
def vs_n_isChoice : List Cond := .code yX12_isChoice cX12_isChoice 3 (some .boolean) :: (ow_n_isChoice ++ (wsX120))
theorem vg_n_isChoice : vs_n_isChoice.all goodWord = true := by decide +kernel
theorem dd_n_isChoice : yX12_isChoice.cls = RX12 ∧ yX12_isChoice.cls ≠ "java/lang/invoke/MethodHandle" ∧ yX12_isChoice.cls ≠ "java/lang/invoke/VarHandle" ∧ (parseMethodDescriptor yX12_isChoice.desc).map (fun d => d.parameters.length) = some 1 := by decide +kernel
def rm_n_isChoice : Room := { frames := 0, cells := 0, slots := 0, locals := 0 }
set_option maxHeartbeats 4000000 in
set_option maxRecDepth 100000 in
theorem n_isChoice (l : Launch) (dC : Nat → ClassId) (dI : Nat → Nat → Nat) (h : Nat) (ad : Nat → Nat) (cl : Nat → ClassId) (sz : Nat) (σ : MS) (x : Int32) (hI : Inv σ) : Met l yX12_isChoice vs_n_isChoice rm_n_isChoice (va_Pc [.ref h, .int x] (wSt dC dI (mW h ad cl σ) (mT cl) sz)) (va_Qi (fun (r : Int32) (τ : MS) => Inv τ ∧ eqx [37] τ σ ∧ (r.toInt = 0 ∨ r.toInt = 1)) (fun (τ : MS) => wEn dC dI (va_A (mW h ad cl σ) sz) (mW h ad cl τ) []) (va_A (mW h ad cl σ) sz)) 0 0 (va_A (mW h ad cl σ) sz) := by
  refine Met.ofW (cc := cX12_isChoice) (maxL := 3) (ret := (some .boolean)) (by decide) rfl ?_
  intro p e s m args below meth c s₁ B hml hv
  obtain ⟨rfl, hsz, hP, hK, hD0, hE⟩ := hv
  have hx := B.exec
  have hb := B.bytes
  have hr := B.returns
  have hts := atoms_spec (ws := vs_n_isChoice) B.pre
  have hown : s.vm.findClass RX12 = some m.cls := findClass_of_methodNamed B.named
  have hlocks := B.notSynchronized
  subst hsz
  have hD := hD0.self (sz := s.heap.size)
  generalize hAe : va_A (mW h ad cl σ) s.heap.size = A at hD ⊢
  have hA : ∀ q : Nat, s.heap.size ≤ q → A q := fun q h => by rw [← hAe]; exact Or.inr h
  have hl := lv_entry ([.ref h, .int x]) (n := 3) (Nat.le_of_ble_eq_true rfl)
  rw [lg_entry_eq]
  generalize (lg_sl ([.ref h, .int x]) ++ List.replicate (3 - (lg_sl ([.ref h, .int x])).length) Slot.unset).toArray = ls at hl ⊢
  have hl : lv_has ls 3 [(0, .ref h), (1, .int x)] := hl
  have ho := fun w (h : w ∈ ow_n_isChoice) => hts w (List.mem_cons_of_mem _ (List.mem_append_left _ h))
  have hin12 : ∀ w ∈ u_ws RX12 TX12 59, w ∈ vs_n_isChoice := fun w h => (List.mem_cons_of_mem _ (List.mem_append_right _ h))
  refine zQ (fun Q hQ => ?_)
  have pt_39 : ∀ (n39 : Nat) (τ : MS) (kv : Int32) (H : Heap) (locs : List Loc) (ls : Array Slot), (12 - kv.toInt).toNat < n39 → (Inv τ) → (eqx [37] τ σ) → (0 ≤ kv.toInt) → va_P (dC, dI) vwCl (mW h ad cl τ) H → va_D A (mW h ad cl τ) → va_S A s.heap H locs → lv_has ls 3 [(0, .ref h), (1, .int x), (2, .int kv)] → W p l e (headSpec vs_n_isChoice rm_n_isChoice).room s m #[Value.ref h, Value.int x] below meth c H locs 0 0 Q (F0 m 39 ls []) := by
    intro n39
    induction n39 with
    | zero => intro τ kv H locs ls hn39 hIτ hxτ hk0 hP hD hS hl; exact absurd hn39 (Nat.not_lt_zero _)
    | succ n39 ih39 =>
      intro τ kv H locs ls hn39 hIτ hxτ hk0 hP hD hS hl
      have bτ_40 : 0 ≤ (τ.1 40).toInt ∧ (τ.1 40).toInt ≤ 12 := hIτ.1 40
      have qq1 : (τ.1 40).toInt = ((σ.1 40) : Int32).toInt := congrArg Int32.toInt (((hxτ 40 rg_87).1))
      refine lv_iload_n hx hb dX12_isChoice_39 rfl (lv_at hl 2 rfl) ?_
      refine lv_aload_n hx hb dX12_isChoice_40 rfl (lv_at hl 0 rfl) ?_
      refine va_get (D := (dC, dI)) (ci := 12) (v := .int (τ.1 40)) (C := RX12) (T := TX12) (N := 59) hx hb hts hin12 hown hK hP 0 rfl rfl 40 (Nat.le_of_ble_eq_true rfl) (ho (.fieldLink RX12 252 "NearEnoughModel" "changes" "I") (List.mem_of_getElem? (i := 0) rfl)) (fun _ h9 => h9) rfl dX12_isChoice_41 ?_
      refine zi (v := (σ.1 40)) ((hxτ 40 rg_87).1) ?_
      have bb2 : 0 ≤ (σ.1 40).toInt ∧ (σ.1 40).toInt ≤ 12 := by have h9 := hIτ.1 40; rw [show (τ.1 40) = (σ.1 40) from ((hxτ 40 rg_87).1)] at h9; exact h9
      refine lv_icmp_ge (tgt := 92) hx hb dX12_isChoice_44 rfl (fun c3 => ?_) (fun c3 => ?_)
      · have tc3 := (show (σ.1 40).toInt ≤ kv.toInt from ti_le rfl rfl c3)
        refine lv_iconst (v := 1) hx hb dX12_isChoice_92 rg_6 ?_
        rw [hQ]
        exact W.zret (v := 1) hx hb hr rfl (fun t ht hW => ⟨⟨1, τ, rfl, ⟨hIτ, hxτ, (by have k9 : (1 : Int32).toInt = 1 := (by decide); omega)⟩, wEn_of hP (hK.sub [] rfl) hD ht hW⟩, hS.F ht⟩) hS.2.2 dX12_isChoice_93
      · have tc3 := (show kv.toInt < (σ.1 40).toInt from ti_nle rfl rfl c3)
        refine lv_iload_n hx hb dX12_isChoice_47 rfl (lv_at hl 1 rfl) ?_
        refine lv_iload_n hx hb dX12_isChoice_48 rfl (lv_at hl 2 rfl) ?_
        refine lv_ishr hx hb dX12_isChoice_49 ?_
        refine lv_topi (fun z4 ez4 => ?_)
        refine lv_iconst (v := 1) hx hb dX12_isChoice_50 rg_6 ?_
        refine lv_iand hx hb dX12_isChoice_51 ?_
        refine lv_topi (fun z5 ez5 => ?_)
        refine lv_if_ne (tgt := 58) hx hb dX12_isChoice_52 rfl (fun c6 => ?_) (fun c6 => ?_)
        · have tc6 := (show z5.toInt ≠ 0 from ti_ne rfl rg_11 c6)
          refine lv_aload_n hx hb dX12_isChoice_58 rfl (lv_at hl 0 rfl) ?_
          refine va_get (D := (dC, dI)) (ci := 12) (v := .ref (ad 37)) (C := RX12) (T := TX12) (N := 59) hx hb hts hin12 hown hK hP 0 rfl rfl 37 (Nat.le_of_ble_eq_true rfl) (ho (.fieldLink RX12 94 "NearEnoughModel" "on" "[I") (List.mem_of_getElem? (i := 1) rfl)) (fun _ h9 => h9) rfl dX12_isChoice_59 ?_
          refine lv_aload_n hx hb dX12_isChoice_62 rfl (lv_at hl 0 rfl) ?_
          refine va_get (D := (dC, dI)) (ci := 12) (v := .ref (ad 33)) (C := RX12) (T := TX12) (N := 59) hx hb hts hin12 hown hK hP 0 rfl rfl 33 (Nat.le_of_ble_eq_true rfl) (ho (.fieldLink RX12 82 "NearEnoughModel" "cStep" "[I") (List.mem_of_getElem? (i := 2) rfl)) (fun _ h9 => h9) rfl dX12_isChoice_63 ?_
          refine lv_iload_n hx hb dX12_isChoice_66 rfl (lv_at hl 2 rfl) ?_
          have o1 : 0 ≤ kv.toInt := by omega
          have o2 : kv.toInt < ((12 : Nat) : Int) := by omega
          refine va_iald hx hb hK hP 23 22 rfl rfl (ti_inx o1 o2) dX12_isChoice_67 ?_
          refine lv_topi (fun z7 ez7 => ?_)
          have gz7 : z7.toInt = ((τ.2.1 33) (Int32.toNatClampNeg kv)).toInt := congrArg Int32.toInt (ez7.trans (congrFun rfl (Int32.toNatClampNeg kv)))
          have bz7 : 0 ≤ z7.toInt ∧ z7.toInt ≤ 11 := by rw [ez7]; exact (hIτ.2 33) _ (cl_lt (n := 12) o1 o2)
          have o3 : 0 ≤ z7.toInt := by omega
          have o4 : z7.toInt < ((12 : Nat) : Int) := by omega
          refine va_iald hx hb hK hP 27 26 rfl rfl (ti_inx o3 o4) dX12_isChoice_68 ?_
          refine lv_topi (fun z8 ez8 => ?_)
          have gz8 : z8.toInt = ((τ.2.1 37) (Int32.toNatClampNeg z7)).toInt := congrArg Int32.toInt (ez8.trans (congrFun rfl (Int32.toNatClampNeg z7)))
          have bz8 : (-1) ≤ z8.toInt ∧ z8.toInt ≤ 11 := by rw [ez8]; exact (hIτ.2 37) _ (cl_lt (n := 12) o3 o4)
          refine lv_if_lt (tgt := 74) hx hb dX12_isChoice_69 rfl (fun c9 => ?_) (fun c9 => ?_)
          · have tc9 := (show z8.toInt < 0 from ti_lt rfl rg_11 c9)
            refine lv_aload_n hx hb dX12_isChoice_74 rfl (lv_at hl 0 rfl) ?_
            refine va_get (D := (dC, dI)) (ci := 12) (v := .ref (ad 37)) (C := RX12) (T := TX12) (N := 59) hx hb hts hin12 hown hK hP 0 rfl rfl 37 (Nat.le_of_ble_eq_true rfl) (ho (.fieldLink RX12 94 "NearEnoughModel" "on" "[I") (List.mem_of_getElem? (i := 1) rfl)) (fun _ h9 => h9) rfl dX12_isChoice_75 ?_
            refine lv_aload_n hx hb dX12_isChoice_78 rfl (lv_at hl 0 rfl) ?_
            refine va_get (D := (dC, dI)) (ci := 12) (v := .ref (ad 33)) (C := RX12) (T := TX12) (N := 59) hx hb hts hin12 hown hK hP 0 rfl rfl 33 (Nat.le_of_ble_eq_true rfl) (ho (.fieldLink RX12 82 "NearEnoughModel" "cStep" "[I") (List.mem_of_getElem? (i := 2) rfl)) (fun _ h9 => h9) rfl dX12_isChoice_79 ?_
            refine lv_iload_n hx hb dX12_isChoice_82 rfl (lv_at hl 2 rfl) ?_
            refine va_iald hx hb hK hP 23 22 rfl rfl (ti_inx o1 o2) dX12_isChoice_83 ?_
            refine lv_topi (fun z10 ez10 => ?_)
            have qq11 : z10.toInt = z7.toInt := congrArg Int32.toInt ((ez10.trans (congrFun rfl (Int32.toNatClampNeg kv))).trans ((ez7.trans (congrFun rfl (Int32.toNatClampNeg kv)))).symm)
            have gz10 : z10.toInt = ((τ.2.1 33) (Int32.toNatClampNeg kv)).toInt := congrArg Int32.toInt (ez10.trans (congrFun rfl (Int32.toNatClampNeg kv)))
            have bz10 : 0 ≤ z10.toInt ∧ z10.toInt ≤ 11 := by rw [ez10]; exact (hIτ.2 33) _ (cl_lt (n := 12) o1 o2)
            refine lv_iload_n hx hb dX12_isChoice_84 rfl (lv_at hl 2 rfl) ?_
            have o5 : 0 ≤ z10.toInt := by omega
            have o6 : z10.toInt < ((12 : Nat) : Int) := by omega
            refine va_iast hx hb hK hP hD hS 27 26 rfl rfl (ti_inx o5 o6) dX12_isChoice_85 (fun H locs hP hD hS => ?_)
            rw [wS37] at hP hD
            obtain ⟨τ12, eτ12⟩ : ∃ x9 : MS, x9 = sA τ 37 (upd (τ.2.1 37) (Int32.toNatClampNeg z10) kv) := ⟨_, rfl⟩
            have hP : va_P (dC, dI) vwCl (mW h ad cl τ12) H := by rw [eτ12]; exact hP
            have hD : va_D A (mW h ad cl τ12) := by rw [eτ12]; exact hD
            have o7 : ((-1) : Int) ≤ (kv : Int32).toInt := by omega
            have o8 : (kv : Int32).toInt ≤ 11 := by omega
            have hIτ12 : Inv τ12 := by rw [eτ12]; exact (Inv_sA1 hIτ (rgu (hIτ.2 37) (show ((-1) : Int) ≤ (kv : Int32).toInt ∧ (kv : Int32).toInt ≤ 11 from ⟨o7, o8⟩)))
            have Xτ12 : eqx [37] τ12 σ := (eqx.eq eτ12 (eqx.sA hxτ rg_88))
            have qq13 : (τ12.1 40).toInt = ((σ.1 40) : Int32).toInt := congrArg Int32.toInt ((show τ12.1 40 = (σ.1 40) from (congrArg (fun x9 : MS => x9.1 40) eτ12).trans ((hxτ 40 rg_87).1)))
            obtain ⟨z14, ez14⟩ : ∃ y : Int32, y = kv + 1 := ⟨_, rfl⟩
            have o9 : -2147483648 ≤ kv.toInt + 1 := by omega
            have o10 : kv.toInt + 1 ≤ 2147483647 := by omega
            have tz14 := ti_add ez14 rfl rg_18 o9 o10
            refine lv_iinc (v := z14) (lv' := [(2, .int z14), (0, .ref h), (1, .int x)]) hx hb dX12_isChoice_86 hl (k := 2) rfl (iincp ez14 rg_6) (Nat.le_of_ble_eq_true rfl) rfl (fun ls hl => ?_)
            refine lv_goto (tgt := 39) hx hb dX12_isChoice_89 rfl ?_
            have o11 : (12 - z14.toInt).toNat < n39 := by omega
            have o12 : 0 ≤ z14.toInt := by omega
            exact ih39 τ12 z14 _ _ _ (show (12 - z14.toInt).toNat < n39 from o11) hIτ12 Xτ12 (show 0 ≤ z14.toInt from o12) hP hD hS (lv_sub hl [1, 2, 0] rfl)
          · have tc9 := (show 0 ≤ z8.toInt from ti_nlt rfl rg_11 c9)
            refine lv_iconst (v := 0) hx hb dX12_isChoice_72 rg_0 ?_
            rw [hQ]
            exact W.zret (v := 0) hx hb hr rfl (fun t ht hW => ⟨⟨0, τ, rfl, ⟨hIτ, hxτ, (by have k9 : (0 : Int32).toInt = 0 := (by decide); omega)⟩, wEn_of hP (hK.sub [] rfl) hD ht hW⟩, hS.F ht⟩) hS.2.2 dX12_isChoice_73
        · have tc6 := (show z5.toInt = 0 from ti_eq rfl rg_11 c6)
          refine lv_goto (tgt := 86) hx hb dX12_isChoice_55 rfl ?_
          obtain ⟨z15, ez15⟩ : ∃ y : Int32, y = kv + 1 := ⟨_, rfl⟩
          have o13 : -2147483648 ≤ kv.toInt + 1 := by omega
          have o14 : kv.toInt + 1 ≤ 2147483647 := by omega
          have tz15 := ti_add ez15 rfl rg_18 o13 o14
          refine lv_iinc (v := z15) (lv' := [(2, .int z15), (0, .ref h), (1, .int x)]) hx hb dX12_isChoice_86 hl (k := 2) rfl (iincp ez15 rg_6) (Nat.le_of_ble_eq_true rfl) rfl (fun ls hl => ?_)
          refine lv_goto (tgt := 39) hx hb dX12_isChoice_89 rfl ?_
          have o15 : (12 - z15.toInt).toNat < n39 := by omega
          have o16 : 0 ≤ z15.toInt := by omega
          exact ih39 τ z15 _ _ _ (show (12 - z15.toInt).toNat < n39 from o15) hIτ hxτ (show 0 ≤ z15.toInt from o16) hP hD hS (lv_sub hl [1, 2, 0] rfl)
  have pt_18 : ∀ (n18 : Nat) (τ : MS) (kv : Int32) (H : Heap) (locs : List Loc) (ls : Array Slot), (12 - kv.toInt).toNat < n18 → (Inv τ) → (eqx [37] τ σ) → (0 ≤ kv.toInt) → va_P (dC, dI) vwCl (mW h ad cl τ) H → va_D A (mW h ad cl τ) → va_S A s.heap H locs → lv_has ls 3 [(0, .ref h), (1, .int x), (2, .int kv)] → W p l e (headSpec vs_n_isChoice rm_n_isChoice).room s m #[Value.ref h, Value.int x] below meth c H locs 0 0 Q (F0 m 18 ls []) := by
    intro n18
    induction n18 with
    | zero => intro τ kv H locs ls hn18 hIτ hxτ hk0 hP hD hS hl; exact absurd hn18 (Nat.not_lt_zero _)
    | succ n18 ih18 =>
      intro τ kv H locs ls hn18 hIτ hxτ hk0 hP hD hS hl
      have bτ_40 : 0 ≤ (τ.1 40).toInt ∧ (τ.1 40).toInt ≤ 12 := hIτ.1 40
      have qq16 : (τ.1 40).toInt = ((σ.1 40) : Int32).toInt := congrArg Int32.toInt (((hxτ 40 rg_87).1))
      refine lv_iload_n hx hb dX12_isChoice_18 rfl (lv_at hl 2 rfl) ?_
      refine lv_bipush (v := 12) hx hb dX12_isChoice_19 rg_57 ?_
      refine lv_icmp_ge (tgt := 37) hx hb dX12_isChoice_21 rfl (fun c17 => ?_) (fun c17 => ?_)
      · have tc17 := (show 12 ≤ kv.toInt from ti_le rg_58 rfl c17)
        refine lv_iconst (v := 0) hx hb dX12_isChoice_37 rg_0 ?_
        refine lv_istore_n (lv' := [(2, .int 0), (0, .ref h), (1, .int x)]) hx hb dX12_isChoice_38 rfl hl (Nat.le_of_ble_eq_true rfl) rfl (fun ls hl => ?_)
        exact pt_39 _ τ 0 _ _ _ (Nat.lt_succ_self _) hIτ hxτ rg_56 hP hD hS (lv_sub hl [1, 2, 0] rfl)
      · have tc17 := (show kv.toInt < 12 from ti_nle rg_58 rfl c17)
        refine lv_aload_n hx hb dX12_isChoice_24 rfl (lv_at hl 0 rfl) ?_
        refine va_get (D := (dC, dI)) (ci := 12) (v := .ref (ad 37)) (C := RX12) (T := TX12) (N := 59) hx hb hts hin12 hown hK hP 0 rfl rfl 37 (Nat.le_of_ble_eq_true rfl) (ho (.fieldLink RX12 94 "NearEnoughModel" "on" "[I") (List.mem_of_getElem? (i := 1) rfl)) (fun _ h9 => h9) rfl dX12_isChoice_25 ?_
        refine lv_iload_n hx hb dX12_isChoice_28 rfl (lv_at hl 2 rfl) ?_
        refine lv_iconst (v := (-1)) hx hb dX12_isChoice_29 rg_53 ?_
        have o17 : 0 ≤ kv.toInt := by omega
        have o18 : kv.toInt < ((12 : Nat) : Int) := by omega
        refine va_iast hx hb hK hP hD hS 27 26 rfl rfl (ti_inx o17 o18) dX12_isChoice_30 (fun H locs hP hD hS => ?_)
        rw [wS37] at hP hD
        obtain ⟨τ18, eτ18⟩ : ∃ x9 : MS, x9 = sA τ 37 (upd (τ.2.1 37) (Int32.toNatClampNeg kv) (-1)) := ⟨_, rfl⟩
        have hP : va_P (dC, dI) vwCl (mW h ad cl τ18) H := by rw [eτ18]; exact hP
        have hD : va_D A (mW h ad cl τ18) := by rw [eτ18]; exact hD
        have hIτ18 : Inv τ18 := by rw [eτ18]; exact (Inv_sA1 hIτ (rgu (hIτ.2 37) rg_89))
        have Xτ18 : eqx [37] τ18 σ := (eqx.eq eτ18 (eqx.sA hxτ rg_88))
        have qq19 : (τ18.1 40).toInt = ((σ.1 40) : Int32).toInt := congrArg Int32.toInt ((show τ18.1 40 = (σ.1 40) from (congrArg (fun x9 : MS => x9.1 40) eτ18).trans ((hxτ 40 rg_87).1)))
        obtain ⟨z20, ez20⟩ : ∃ y : Int32, y = kv + 1 := ⟨_, rfl⟩
        have o19 : -2147483648 ≤ kv.toInt + 1 := by omega
        have o20 : kv.toInt + 1 ≤ 2147483647 := by omega
        have tz20 := ti_add ez20 rfl rg_18 o19 o20
        refine lv_iinc (v := z20) (lv' := [(2, .int z20), (0, .ref h), (1, .int x)]) hx hb dX12_isChoice_31 hl (k := 2) rfl (iincp ez20 rg_6) (Nat.le_of_ble_eq_true rfl) rfl (fun ls hl => ?_)
        refine lv_goto (tgt := 18) hx hb dX12_isChoice_34 rfl ?_
        have o21 : (12 - z20.toInt).toNat < n18 := by omega
        have o22 : 0 ≤ z20.toInt := by omega
        exact ih18 τ18 z20 _ _ _ (show (12 - z20.toInt).toNat < n18 from o21) hIτ18 Xτ18 (show 0 ≤ z20.toInt from o22) hP hD hS (lv_sub hl [1, 2, 0] rfl)
  refine zH (A := A) (ws := mW h ad cl σ) (fun H hP hS => ?_) hP
  have bσ_40 : 0 ≤ (σ.1 40).toInt ∧ (σ.1 40).toInt ≤ 12 := hI.1 40
  refine lv_iload_n hx hb dX12_isChoice_0 rfl (lv_at hl 1 rfl) ?_
  refine lv_if_lt (tgt := 14) hx hb dX12_isChoice_1 rfl (fun c21 => ?_) (fun c21 => ?_)
  · have tc21 := (show x.toInt < 0 from ti_lt rfl rg_11 c21)
    refine lv_iconst (v := 0) hx hb dX12_isChoice_14 rg_0 ?_
    rw [hQ]
    exact W.zret (v := 0) hx hb hr rfl (fun t ht hW => ⟨⟨0, σ, rfl, ⟨hI, eqx.rf, (by have k9 : (0 : Int32).toInt = 0 := (by decide); omega)⟩, wEn_of hP (hK.sub [] rfl) hD ht hW⟩, hS.F ht⟩) hS.2.2 dX12_isChoice_15
  · have tc21 := (show 0 ≤ x.toInt from ti_nlt rfl rg_11 c21)
    refine lv_iload_n hx hb dX12_isChoice_4 rfl (lv_at hl 1 rfl) ?_
    refine lv_iconst (v := 1) hx hb dX12_isChoice_5 rg_6 ?_
    refine lv_aload_n hx hb dX12_isChoice_6 rfl (lv_at hl 0 rfl) ?_
    refine va_get (D := (dC, dI)) (ci := 12) (v := .int (σ.1 40)) (C := RX12) (T := TX12) (N := 59) hx hb hts hin12 hown hK hP 0 rfl rfl 40 (Nat.le_of_ble_eq_true rfl) (ho (.fieldLink RX12 252 "NearEnoughModel" "changes" "I") (List.mem_of_getElem? (i := 0) rfl)) (fun _ h9 => h9) rfl dX12_isChoice_7 ?_
    have bσ_40 : 0 ≤ (σ.1 40).toInt ∧ (σ.1 40).toInt ≤ 12 := hI.1 40
    refine lv_ishl hx hb dX12_isChoice_10 ?_
    refine lv_topi (fun z22 ez22 => ?_)
    refine lv_icmp_lt (tgt := 16) hx hb dX12_isChoice_11 rfl (fun c23 => ?_) (fun c23 => ?_)
    · have tc23 := (show x.toInt < z22.toInt from ti_lt rfl rfl c23)
      refine lv_iconst (v := 0) hx hb dX12_isChoice_16 rg_0 ?_
      refine lv_istore_n (lv' := [(2, .int 0), (0, .ref h), (1, .int x)]) hx hb dX12_isChoice_17 rfl hl (Nat.le_of_ble_eq_true rfl) rfl (fun ls hl => ?_)
      exact pt_18 _ σ 0 _ _ _ (Nat.lt_succ_self _) hI eqx.rf rg_56 hP hD hS (lv_sub hl [1, 2, 0] rfl)
    · have tc23 := (show z22.toInt ≤ x.toInt from ti_nlt rfl rfl c23)
      refine lv_iconst (v := 0) hx hb dX12_isChoice_14 rg_0 ?_
      rw [hQ]
      exact W.zret (v := 0) hx hb hr rfl (fun t ht hW => ⟨⟨0, σ, rfl, ⟨hI, eqx.rf, (by have k9 : (0 : Int32).toInt = 0 := (by decide); omega)⟩, wEn_of hP (hK.sub [] rfl) hD ht hW⟩, hS.F ht⟩) hS.2.2 dX12_isChoice_15
def ow_n_savedBy : List Cond := [.fieldLink RX12 252 "NearEnoughModel" "changes" "I", .fieldLink RX12 91 "NearEnoughModel" "cSaves" "[I"]
def vs_n_savedBy : List Cond := .code yX12_savedBy cX12_savedBy 4 (some .int) :: (ow_n_savedBy ++ (wsX120))
theorem vg_n_savedBy : vs_n_savedBy.all goodWord = true := by decide +kernel
theorem dd_n_savedBy : yX12_savedBy.cls = RX12 ∧ yX12_savedBy.cls ≠ "java/lang/invoke/MethodHandle" ∧ yX12_savedBy.cls ≠ "java/lang/invoke/VarHandle" ∧ (parseMethodDescriptor yX12_savedBy.desc).map (fun d => d.parameters.length) = some 1 := by decide +kernel
def rm_n_savedBy : Room := { frames := 0, cells := 0, slots := 0, locals := 0 }
set_option maxHeartbeats 4000000 in
set_option maxRecDepth 100000 in
theorem n_savedBy (l : Launch) (dC : Nat → ClassId) (dI : Nat → Nat → Nat) (h : Nat) (ad : Nat → Nat) (cl : Nat → ClassId) (sz : Nat) (σ : MS) (x : Int32) (hI : Inv σ) : Met l yX12_savedBy vs_n_savedBy rm_n_savedBy (va_Pc [.ref h, .int x] (wSt dC dI (mW h ad cl σ) (mT cl) sz)) (va_Qi (fun (r : Int32) (τ : MS) => σ = τ) (fun (τ : MS) => wEn dC dI (va_A (mW h ad cl σ) sz) (mW h ad cl τ) []) (va_A (mW h ad cl σ) sz)) 0 0 (va_A (mW h ad cl σ) sz) := by
  refine Met.ofW (cc := cX12_savedBy) (maxL := 4) (ret := (some .int)) (by decide) rfl ?_
  intro p e s m args below meth c s₁ B hml hv
  obtain ⟨rfl, hsz, hP, hK, hD0, hE⟩ := hv
  have hx := B.exec
  have hb := B.bytes
  have hr := B.returns
  have hts := atoms_spec (ws := vs_n_savedBy) B.pre
  have hown : s.vm.findClass RX12 = some m.cls := findClass_of_methodNamed B.named
  have hlocks := B.notSynchronized
  subst hsz
  have hD := hD0.self (sz := s.heap.size)
  generalize hAe : va_A (mW h ad cl σ) s.heap.size = A at hD ⊢
  have hA : ∀ q : Nat, s.heap.size ≤ q → A q := fun q h => by rw [← hAe]; exact Or.inr h
  have hl := lv_entry ([.ref h, .int x]) (n := 4) (Nat.le_of_ble_eq_true rfl)
  rw [lg_entry_eq]
  generalize (lg_sl ([.ref h, .int x]) ++ List.replicate (4 - (lg_sl ([.ref h, .int x])).length) Slot.unset).toArray = ls at hl ⊢
  have hl : lv_has ls 4 [(0, .ref h), (1, .int x)] := hl
  have ho := fun w (h : w ∈ ow_n_savedBy) => hts w (List.mem_cons_of_mem _ (List.mem_append_left _ h))
  have hin12 : ∀ w ∈ u_ws RX12 TX12 59, w ∈ vs_n_savedBy := fun w h => (List.mem_cons_of_mem _ (List.mem_append_right _ h))
  refine zQ (fun Q hQ => ?_)
  have pt_4 : ∀ (n4 : Nat) (τ : MS) (sv : Int32) (kv : Int32) (H : Heap) (locs : List Loc) (ls : Array Slot), (12 - kv.toInt).toNat < n4 → (Inv τ) → (τ = σ) → (0 ≤ kv.toInt) → va_P (dC, dI) vwCl (mW h ad cl τ) H → va_D A (mW h ad cl τ) → va_S A s.heap H locs → lv_has ls 4 [(0, .ref h), (1, .int x), (2, .int sv), (3, .int kv)] → W p l e (headSpec vs_n_savedBy rm_n_savedBy).room s m #[Value.ref h, Value.int x] below meth c H locs 0 0 Q (F0 m 4 ls []) := by
    intro n4
    induction n4 with
    | zero => intro τ sv kv H locs ls hn4 hIτ hxτ hk0 hP hD hS hl; exact absurd hn4 (Nat.not_lt_zero _)
    | succ n4 ih4 =>
      intro τ sv kv H locs ls hn4 hIτ hxτ hk0 hP hD hS hl
      have bτ_40 : 0 ≤ (τ.1 40).toInt ∧ (τ.1 40).toInt ≤ 12 := hIτ.1 40
      refine lv_iload_n hx hb dX12_savedBy_4 rfl (lv_at hl 3 rfl) ?_
      refine lv_aload_n hx hb dX12_savedBy_5 rfl (lv_at hl 0 rfl) ?_
      refine va_get (D := (dC, dI)) (ci := 12) (v := .int (τ.1 40)) (C := RX12) (T := TX12) (N := 59) hx hb hts hin12 hown hK hP 0 rfl rfl 40 (Nat.le_of_ble_eq_true rfl) (ho (.fieldLink RX12 252 "NearEnoughModel" "changes" "I") (List.mem_of_getElem? (i := 0) rfl)) (fun _ h9 => h9) rfl dX12_savedBy_6 ?_
      have bτ_40 : 0 ≤ (τ.1 40).toInt ∧ (τ.1 40).toInt ≤ 12 := hIτ.1 40
      refine lv_icmp_ge (tgt := 40) hx hb dX12_savedBy_9 rfl (fun c1 => ?_) (fun c1 => ?_)
      · have tc1 := (show (τ.1 40).toInt ≤ kv.toInt from ti_le rfl rfl c1)
        refine lv_iload_n hx hb dX12_savedBy_40 rfl (lv_at hl 2 rfl) ?_
        rw [hQ]
        exact W.iret (v := sv) hx hb hr (fun t ht hW => ⟨⟨sv, τ, rfl, hxτ.symm, wEn_of hP (hK.sub [] rfl) hD ht hW⟩, hS.F ht⟩) hS.2.2 dX12_savedBy_41
      · have tc1 := (show kv.toInt < (τ.1 40).toInt from ti_nle rfl rfl c1)
        refine lv_iload_n hx hb dX12_savedBy_12 rfl (lv_at hl 2 rfl) ?_
        refine lv_iload_n hx hb dX12_savedBy_13 rfl (lv_at hl 1 rfl) ?_
        refine lv_iload_n hx hb dX12_savedBy_14 rfl (lv_at hl 3 rfl) ?_
        refine lv_ishr hx hb dX12_savedBy_15 ?_
        refine lv_topi (fun z2 ez2 => ?_)
        refine lv_iconst (v := 1) hx hb dX12_savedBy_16 rg_6 ?_
        refine lv_iand hx hb dX12_savedBy_17 ?_
        refine lv_topi (fun z3 ez3 => ?_)
        refine lv_iconst (v := 1) hx hb dX12_savedBy_18 rg_6 ?_
        refine lv_icmp_ne (tgt := 31) hx hb dX12_savedBy_19 rfl (fun c4 => ?_) (fun c4 => ?_)
        · have tc4 := (show z3.toInt ≠ 1 from ti_ne rfl rg_18 c4)
          refine lv_iconst (v := 0) hx hb dX12_savedBy_31 rg_0 ?_
          refine lv_iadd hx hb dX12_savedBy_32 ?_
          refine lv_topi (fun z5 ez5 => ?_)
          refine lv_istore_n (lv' := [(2, .int z5), (0, .ref h), (1, .int x), (3, .int kv)]) hx hb dX12_savedBy_33 rfl hl (Nat.le_of_ble_eq_true rfl) rfl (fun ls hl => ?_)
          obtain ⟨z6, ez6⟩ : ∃ y : Int32, y = kv + 1 := ⟨_, rfl⟩
          have o1 : -2147483648 ≤ kv.toInt + 1 := by omega
          have o2 : kv.toInt + 1 ≤ 2147483647 := by omega
          have tz6 := ti_add ez6 rfl rg_18 o1 o2
          refine lv_iinc (v := z6) (lv' := [(3, .int z6), (2, .int z5), (0, .ref h), (1, .int x)]) hx hb dX12_savedBy_34 hl (k := 3) rfl (iincp ez6 rg_6) (Nat.le_of_ble_eq_true rfl) rfl (fun ls hl => ?_)
          refine lv_goto (tgt := 4) hx hb dX12_savedBy_37 rfl ?_
          have o3 : (12 - z6.toInt).toNat < n4 := by omega
          have o4 : 0 ≤ z6.toInt := by omega
          exact ih4 τ z5 z6 _ _ _ (show (12 - z6.toInt).toNat < n4 from o3) hIτ hxτ (show 0 ≤ z6.toInt from o4) hP hD hS (lv_sub hl [2, 3, 1, 0] rfl)
        · have tc4 := (show z3.toInt = 1 from ti_eq rfl rg_18 c4)
          refine lv_aload_n hx hb dX12_savedBy_22 rfl (lv_at hl 0 rfl) ?_
          refine va_get (D := (dC, dI)) (ci := 12) (v := .ref (ad 36)) (C := RX12) (T := TX12) (N := 59) hx hb hts hin12 hown hK hP 0 rfl rfl 36 (Nat.le_of_ble_eq_true rfl) (ho (.fieldLink RX12 91 "NearEnoughModel" "cSaves" "[I") (List.mem_of_getElem? (i := 1) rfl)) (fun _ h9 => h9) rfl dX12_savedBy_23 ?_
          refine lv_iload_n hx hb dX12_savedBy_26 rfl (lv_at hl 3 rfl) ?_
          have o5 : 0 ≤ kv.toInt := by omega
          have o6 : kv.toInt < ((12 : Nat) : Int) := by omega
          refine va_iald hx hb hK hP 26 25 rfl rfl (ti_inx o5 o6) dX12_savedBy_27 ?_
          refine lv_topi (fun z7 ez7 => ?_)
          have gz7 : z7.toInt = ((τ.2.1 36) (Int32.toNatClampNeg kv)).toInt := congrArg Int32.toInt (ez7.trans (congrFun rfl (Int32.toNatClampNeg kv)))
          refine lv_goto (tgt := 32) hx hb dX12_savedBy_28 rfl ?_
          refine lv_iadd hx hb dX12_savedBy_32 ?_
          refine lv_topi (fun z8 ez8 => ?_)
          refine lv_istore_n (lv' := [(2, .int z8), (0, .ref h), (1, .int x), (3, .int kv)]) hx hb dX12_savedBy_33 rfl hl (Nat.le_of_ble_eq_true rfl) rfl (fun ls hl => ?_)
          obtain ⟨z9, ez9⟩ : ∃ y : Int32, y = kv + 1 := ⟨_, rfl⟩
          have o7 : -2147483648 ≤ kv.toInt + 1 := by omega
          have o8 : kv.toInt + 1 ≤ 2147483647 := by omega
          have tz9 := ti_add ez9 rfl rg_18 o7 o8
          refine lv_iinc (v := z9) (lv' := [(3, .int z9), (2, .int z8), (0, .ref h), (1, .int x)]) hx hb dX12_savedBy_34 hl (k := 3) rfl (iincp ez9 rg_6) (Nat.le_of_ble_eq_true rfl) rfl (fun ls hl => ?_)
          refine lv_goto (tgt := 4) hx hb dX12_savedBy_37 rfl ?_
          have o9 : (12 - z9.toInt).toNat < n4 := by omega
          have o10 : 0 ≤ z9.toInt := by omega
          exact ih4 τ z8 z9 _ _ _ (show (12 - z9.toInt).toNat < n4 from o9) hIτ hxτ (show 0 ≤ z9.toInt from o10) hP hD hS (lv_sub hl [2, 3, 1, 0] rfl)
  refine zH (A := A) (ws := mW h ad cl σ) (fun H hP hS => ?_) hP
  have bσ_40 : 0 ≤ (σ.1 40).toInt ∧ (σ.1 40).toInt ≤ 12 := hI.1 40
  refine lv_iconst (v := 0) hx hb dX12_savedBy_0 rg_0 ?_
  refine lv_istore_n (lv' := [(2, .int 0), (0, .ref h), (1, .int x)]) hx hb dX12_savedBy_1 rfl hl (Nat.le_of_ble_eq_true rfl) rfl (fun ls hl => ?_)
  refine lv_iconst (v := 0) hx hb dX12_savedBy_2 rg_0 ?_
  refine lv_istore_n (lv' := [(3, .int 0), (2, .int 0), (0, .ref h), (1, .int x)]) hx hb dX12_savedBy_3 rfl hl (Nat.le_of_ble_eq_true rfl) rfl (fun ls hl => ?_)
  exact pt_4 _ σ 0 0 _ _ _ (Nat.lt_succ_self _) hI rfl rg_56 hP hD hS (lv_sub hl [2, 3, 1, 0] rfl)
def ow_n_about : List Cond := [.fieldLink RX12 20 "NearEnoughModel" "rowMany" "[I", .fieldLink RX12 240 "NearEnoughModel" "bank" "I", .fieldLink RX12 27 "NearEnoughModel" "endMany" "[I", .fieldLink RX12 249 "NearEnoughModel" "sheets" "I", .fieldLink RX12 252 "NearEnoughModel" "changes" "I", .fieldLink RX12 255 "NearEnoughModel" "guards" "I", .fieldLink RX12 258 "NearEnoughModel" "purse" "I", .fieldLink RX12 237 "NearEnoughModel" "taped" "I"]
def vs_n_about : List Cond := .code yX12_about cX12_about 2 (some .int) :: (ow_n_about ++ (([.methodLink RX12 321 yX12_steps, .instanceMethod yX12_steps, .selects RX12 yX12_steps yX12_steps, .initialized RX12] : List Cond) ++ (vs_n_steps ++ (wsX120))))
theorem vg_n_about : vs_n_about.all goodWord = true := by decide +kernel
theorem dd_n_about : yX12_about.cls = RX12 ∧ yX12_about.cls ≠ "java/lang/invoke/MethodHandle" ∧ yX12_about.cls ≠ "java/lang/invoke/VarHandle" ∧ (parseMethodDescriptor yX12_about.desc).map (fun d => d.parameters.length) = some 1 := by decide +kernel
def rm_n_about : Room := { frames := 1, cells := 0, slots := 0, locals := 20 }
theorem gd_n_about_321_n_steps : GoodIn vs_n_about (wsV RX12 321 RX12 yX12_steps vs_n_steps) := goodIn_app (goodIn_sub (fun w h => (List.mem_cons_of_mem _ (List.mem_append_right _ (List.mem_append_left _ h)))) (by decide +kernel)) (goodIn_sub (fun w h => (List.mem_cons_of_mem _ (List.mem_append_right _ (List.mem_append_right _ (List.mem_append_left _ h))))) vg_n_steps)
set_option maxHeartbeats 4000000 in
set_option maxRecDepth 100000 in
theorem n_about (l : Launch) (dC : Nat → ClassId) (dI : Nat → Nat → Nat) (h : Nat) (ad : Nat → Nat) (cl : Nat → ClassId) (sz : Nat) (σ : MS) (x : Int32) (hI : Inv σ) : Met l yX12_about vs_n_about rm_n_about (va_Pc [.ref h, .int x] (wSt dC dI (mW h ad cl σ) (mT cl) sz)) (va_Qi (fun (r : Int32) (τ : MS) => σ = τ) (fun (τ : MS) => wEn dC dI (va_A (mW h ad cl σ) sz) (mW h ad cl τ) []) (va_A (mW h ad cl σ) sz)) 0 0 (va_A (mW h ad cl σ) sz) := by
  refine Met.ofW (cc := cX12_about) (maxL := 2) (ret := (some .int)) (by decide) rfl ?_
  intro p e s m args below meth c s₁ B hml hv
  obtain ⟨rfl, hsz, hP, hK, hD0, hE⟩ := hv
  have hx := B.exec
  have hb := B.bytes
  have hr := B.returns
  have hts := atoms_spec (ws := vs_n_about) B.pre
  have hown : s.vm.findClass RX12 = some m.cls := findClass_of_methodNamed B.named
  have hlocks := B.notSynchronized
  subst hsz
  have hD := hD0.self (sz := s.heap.size)
  generalize hAe : va_A (mW h ad cl σ) s.heap.size = A at hD ⊢
  have hA : ∀ q : Nat, s.heap.size ≤ q → A q := fun q h => by rw [← hAe]; exact Or.inr h
  have hl := lv_entry ([.ref h, .int x]) (n := 2) (Nat.le_of_ble_eq_true rfl)
  rw [lg_entry_eq]
  generalize (lg_sl ([.ref h, .int x]) ++ List.replicate (2 - (lg_sl ([.ref h, .int x])).length) Slot.unset).toArray = ls at hl ⊢
  have hl : lv_has ls 2 [(0, .ref h), (1, .int x)] := hl
  have ho := fun w (h : w ∈ ow_n_about) => hts w (List.mem_cons_of_mem _ (List.mem_append_left _ h))
  have hin12 : ∀ w ∈ u_ws RX12 TX12 59, w ∈ vs_n_about := fun w h => (List.mem_cons_of_mem _ (List.mem_append_right _ (List.mem_append_right _ (List.mem_append_right _ h))))
  refine zQ (fun Q hQ => ?_)
  refine zH (A := A) (ws := mW h ad cl σ) (fun H hP hS => ?_) hP
  have bσ_29 : 0 ≤ (σ.1 29).toInt ∧ (σ.1 29).toInt ≤ 1 := hI.1 29
  refine lv_iload_n hx hb dX12_about_0 rfl (lv_at hl 1 rfl) ?_
  by_cases c_lo : x.toInt < 0
  · refine lv_tableOut (tgt := 98) hx hb dX12_about_1 (Or.inl c_lo) rfl ?_
    refine lv_iconst (v := (-1)) hx hb dX12_about_98 rg_53 ?_
    rw [hQ]
    exact W.iret (v := (-1)) hx hb hr (fun t ht hW => ⟨⟨(-1), σ, rfl, rfl, wEn_of hP (hK.sub [] rfl) hD ht hW⟩, hS.F ht⟩) hS.2.2 dX12_about_99
  · by_cases c_hi : 7 < x.toInt
    · refine lv_tableOut (tgt := 98) hx hb dX12_about_1 (Or.inr c_hi) rfl ?_
      refine lv_iconst (v := (-1)) hx hb dX12_about_98 rg_53 ?_
      rw [hQ]
      exact W.iret (v := (-1)) hx hb hr (fun t ht hW => ⟨⟨(-1), σ, rfl, rfl, wEn_of hP (hK.sub [] rfl) hD ht hW⟩, hS.F ht⟩) hS.2.2 dX12_about_99
    · rcases (show x.toInt = 0 ∨ x.toInt = 1 ∨ x.toInt = 2 ∨ x.toInt = 3 ∨ x.toInt = 4 ∨ x.toInt = 5 ∨ x.toInt = 6 ∨ x.toInt = 7 by omega) with t_sw | t_sw | t_sw | t_sw | t_sw | t_sw | t_sw | t_sw
      · refine lv_tableIn (tgt := 48) (off := 47) hx hb dX12_about_1 (by rw [t_sw]; decide) (by rw [t_sw]; decide) (by rw [t_sw]; decide) (by decide) ?_
        refine lv_aload_n hx hb dX12_about_48 rfl (lv_at hl 0 rfl) ?_
        refine va_get (D := (dC, dI)) (ci := 12) (v := .ref (ad 11)) (C := RX12) (T := TX12) (N := 59) hx hb hts hin12 hown hK hP 0 rfl rfl 11 (Nat.le_of_ble_eq_true rfl) (ho (.fieldLink RX12 20 "NearEnoughModel" "rowMany" "[I") (List.mem_of_getElem? (i := 0) rfl)) (fun _ h9 => h9) rfl dX12_about_49 ?_
        refine lv_aload_n hx hb dX12_about_52 rfl (lv_at hl 0 rfl) ?_
        refine va_get (D := (dC, dI)) (ci := 12) (v := .int (σ.1 29)) (C := RX12) (T := TX12) (N := 59) hx hb hts hin12 hown hK hP 0 rfl rfl 29 (Nat.le_of_ble_eq_true rfl) (ho (.fieldLink RX12 240 "NearEnoughModel" "bank" "I") (List.mem_of_getElem? (i := 1) rfl)) (fun _ h9 => h9) rfl dX12_about_53 ?_
        have bσ_29 : 0 ≤ (σ.1 29).toInt ∧ (σ.1 29).toInt ≤ 1 := hI.1 29
        have o1 : 0 ≤ (σ.1 29).toInt := by omega
        have o2 : (σ.1 29).toInt < ((2 : Nat) : Int) := by omega
        refine va_iald hx hb hK hP 3 2 rfl rfl (ti_inx o1 o2) dX12_about_56 ?_
        refine lv_topi (fun z1 ez1 => ?_)
        have gz1 : z1.toInt = ((σ.2.1 11) (Int32.toNatClampNeg (σ.1 29))).toInt := congrArg Int32.toInt (ez1.trans (congrFun rfl (Int32.toNatClampNeg (σ.1 29))))
        have bz1 : 0 ≤ z1.toInt ∧ z1.toInt ≤ 2 := by rw [ez1]; exact (hI.2 11) _ (cl_lt (n := 2) o1 o2)
        rw [hQ]
        exact W.iret (v := z1) hx hb hr (fun t ht hW => ⟨⟨z1, σ, rfl, rfl, wEn_of hP (hK.sub [] rfl) hD ht hW⟩, hS.F ht⟩) hS.2.2 dX12_about_57
      · refine lv_tableIn (tgt := 58) (off := 57) hx hb dX12_about_1 (by rw [t_sw]; decide) (by rw [t_sw]; decide) (by rw [t_sw]; decide) (by decide) ?_
        refine lv_aload_n hx hb dX12_about_58 rfl (lv_at hl 0 rfl) ?_
        refine zy_i (va_runV (As := []) (rest := []) ⟨hx, hb, hml, hown, hts⟩ (n_steps l dC dI h ad cl H.size σ  hI) (cwV 0 hts gd_n_about_321_n_steps rfl rfl rfl dd_n_steps ⟨Nat.le_of_ble_eq_true rfl, Nat.le_of_ble_eq_true rfl⟩) (preV hP hK hD hE (ci := 12) (q0 := 0) rfl rfl) rfl rfl hl.1 rfl (lv_room (Nat.le_of_ble_eq_true rfl)) dX12_about_59 ⟨Nat.le_of_ble_eq_true rfl, Nat.le_of_ble_eq_true rfl⟩) hD hS hA (fun z3 τ2 H locs hq hP hD hS => ?_)
        obtain ⟨rfl, f4, f5, f6⟩ := hq
        refine W.widen (k := 0) (n := 0) (Nat.le_of_ble_eq_true rfl) (Nat.le_of_ble_eq_true rfl) ?_
        rw [hQ]
        exact W.iret (v := z3) hx hb hr (fun t ht hW => ⟨⟨z3, σ, rfl, rfl, wEn_of hP (hK.sub [] rfl) hD ht hW⟩, hS.F ht⟩) hS.2.2 dX12_about_62
      · refine lv_tableIn (tgt := 63) (off := 62) hx hb dX12_about_1 (by rw [t_sw]; decide) (by rw [t_sw]; decide) (by rw [t_sw]; decide) (by decide) ?_
        refine lv_aload_n hx hb dX12_about_63 rfl (lv_at hl 0 rfl) ?_
        refine va_get (D := (dC, dI)) (ci := 12) (v := .ref (ad 13)) (C := RX12) (T := TX12) (N := 59) hx hb hts hin12 hown hK hP 0 rfl rfl 13 (Nat.le_of_ble_eq_true rfl) (ho (.fieldLink RX12 27 "NearEnoughModel" "endMany" "[I") (List.mem_of_getElem? (i := 2) rfl)) (fun _ h9 => h9) rfl dX12_about_64 ?_
        refine lv_aload_n hx hb dX12_about_67 rfl (lv_at hl 0 rfl) ?_
        refine va_get (D := (dC, dI)) (ci := 12) (v := .int (σ.1 29)) (C := RX12) (T := TX12) (N := 59) hx hb hts hin12 hown hK hP 0 rfl rfl 29 (Nat.le_of_ble_eq_true rfl) (ho (.fieldLink RX12 240 "NearEnoughModel" "bank" "I") (List.mem_of_getElem? (i := 1) rfl)) (fun _ h9 => h9) rfl dX12_about_68 ?_
        have bσ_29 : 0 ≤ (σ.1 29).toInt ∧ (σ.1 29).toInt ≤ 1 := hI.1 29
        have o3 : 0 ≤ (σ.1 29).toInt := by omega
        have o4 : (σ.1 29).toInt < ((2 : Nat) : Int) := by omega
        refine va_iald hx hb hK hP 5 4 rfl rfl (ti_inx o3 o4) dX12_about_71 ?_
        refine lv_topi (fun z7 ez7 => ?_)
        have gz7 : z7.toInt = ((σ.2.1 13) (Int32.toNatClampNeg (σ.1 29))).toInt := congrArg Int32.toInt (ez7.trans (congrFun rfl (Int32.toNatClampNeg (σ.1 29))))
        have bz7 : 0 ≤ z7.toInt ∧ z7.toInt ≤ 4 := by rw [ez7]; exact (hI.2 13) _ (cl_lt (n := 2) o3 o4)
        rw [hQ]
        exact W.iret (v := z7) hx hb hr (fun t ht hW => ⟨⟨z7, σ, rfl, rfl, wEn_of hP (hK.sub [] rfl) hD ht hW⟩, hS.F ht⟩) hS.2.2 dX12_about_72
      · refine lv_tableIn (tgt := 73) (off := 72) hx hb dX12_about_1 (by rw [t_sw]; decide) (by rw [t_sw]; decide) (by rw [t_sw]; decide) (by decide) ?_
        refine lv_aload_n hx hb dX12_about_73 rfl (lv_at hl 0 rfl) ?_
        refine va_get (D := (dC, dI)) (ci := 12) (v := .int (σ.1 39)) (C := RX12) (T := TX12) (N := 59) hx hb hts hin12 hown hK hP 0 rfl rfl 39 (Nat.le_of_ble_eq_true rfl) (ho (.fieldLink RX12 249 "NearEnoughModel" "sheets" "I") (List.mem_of_getElem? (i := 3) rfl)) (fun _ h9 => h9) rfl dX12_about_74 ?_
        have bσ_39 : 0 ≤ (σ.1 39).toInt ∧ (σ.1 39).toInt ≤ 40 := hI.1 39
        rw [hQ]
        exact W.iret (v := (σ.1 39)) hx hb hr (fun t ht hW => ⟨⟨(σ.1 39), σ, rfl, rfl, wEn_of hP (hK.sub [] rfl) hD ht hW⟩, hS.F ht⟩) hS.2.2 dX12_about_77
      · refine lv_tableIn (tgt := 78) (off := 77) hx hb dX12_about_1 (by rw [t_sw]; decide) (by rw [t_sw]; decide) (by rw [t_sw]; decide) (by decide) ?_
        refine lv_aload_n hx hb dX12_about_78 rfl (lv_at hl 0 rfl) ?_
        refine va_get (D := (dC, dI)) (ci := 12) (v := .int (σ.1 40)) (C := RX12) (T := TX12) (N := 59) hx hb hts hin12 hown hK hP 0 rfl rfl 40 (Nat.le_of_ble_eq_true rfl) (ho (.fieldLink RX12 252 "NearEnoughModel" "changes" "I") (List.mem_of_getElem? (i := 4) rfl)) (fun _ h9 => h9) rfl dX12_about_79 ?_
        have bσ_40 : 0 ≤ (σ.1 40).toInt ∧ (σ.1 40).toInt ≤ 12 := hI.1 40
        rw [hQ]
        exact W.iret (v := (σ.1 40)) hx hb hr (fun t ht hW => ⟨⟨(σ.1 40), σ, rfl, rfl, wEn_of hP (hK.sub [] rfl) hD ht hW⟩, hS.F ht⟩) hS.2.2 dX12_about_82
      · refine lv_tableIn (tgt := 83) (off := 82) hx hb dX12_about_1 (by rw [t_sw]; decide) (by rw [t_sw]; decide) (by rw [t_sw]; decide) (by decide) ?_
        refine lv_aload_n hx hb dX12_about_83 rfl (lv_at hl 0 rfl) ?_
        refine va_get (D := (dC, dI)) (ci := 12) (v := .int (σ.1 53)) (C := RX12) (T := TX12) (N := 59) hx hb hts hin12 hown hK hP 0 rfl rfl 53 (Nat.le_of_ble_eq_true rfl) (ho (.fieldLink RX12 255 "NearEnoughModel" "guards" "I") (List.mem_of_getElem? (i := 5) rfl)) (fun _ h9 => h9) rfl dX12_about_84 ?_
        have bσ_53 : 0 ≤ (σ.1 53).toInt ∧ (σ.1 53).toInt ≤ 4 := hI.1 53
        rw [hQ]
        exact W.iret (v := (σ.1 53)) hx hb hr (fun t ht hW => ⟨⟨(σ.1 53), σ, rfl, rfl, wEn_of hP (hK.sub [] rfl) hD ht hW⟩, hS.F ht⟩) hS.2.2 dX12_about_87
      · refine lv_tableIn (tgt := 88) (off := 87) hx hb dX12_about_1 (by rw [t_sw]; decide) (by rw [t_sw]; decide) (by rw [t_sw]; decide) (by decide) ?_
        refine lv_aload_n hx hb dX12_about_88 rfl (lv_at hl 0 rfl) ?_
        refine va_get (D := (dC, dI)) (ci := 12) (v := .int (σ.1 58)) (C := RX12) (T := TX12) (N := 59) hx hb hts hin12 hown hK hP 0 rfl rfl 58 (Nat.le_of_ble_eq_true rfl) (ho (.fieldLink RX12 258 "NearEnoughModel" "purse" "I") (List.mem_of_getElem? (i := 6) rfl)) (fun _ h9 => h9) rfl dX12_about_89 ?_
        have bσ_58 : 0 ≤ (σ.1 58).toInt ∧ (σ.1 58).toInt ≤ 99999 := hI.1 58
        rw [hQ]
        exact W.iret (v := (σ.1 58)) hx hb hr (fun t ht hW => ⟨⟨(σ.1 58), σ, rfl, rfl, wEn_of hP (hK.sub [] rfl) hD ht hW⟩, hS.F ht⟩) hS.2.2 dX12_about_92
      · refine lv_tableIn (tgt := 93) (off := 92) hx hb dX12_about_1 (by rw [t_sw]; decide) (by rw [t_sw]; decide) (by rw [t_sw]; decide) (by decide) ?_
        refine lv_aload_n hx hb dX12_about_93 rfl (lv_at hl 0 rfl) ?_
        refine va_get (D := (dC, dI)) (ci := 12) (v := .int (σ.1 2)) (C := RX12) (T := TX12) (N := 59) hx hb hts hin12 hown hK hP 0 rfl rfl 2 (Nat.le_of_ble_eq_true rfl) (ho (.fieldLink RX12 237 "NearEnoughModel" "taped" "I") (List.mem_of_getElem? (i := 7) rfl)) (fun _ h9 => h9) rfl dX12_about_94 ?_
        have bσ_2 : 0 ≤ (σ.1 2).toInt ∧ (σ.1 2).toInt ≤ 1000 := hI.1 2
        rw [hQ]
        exact W.iret (v := (σ.1 2)) hx hb hr (fun t ht hW => ⟨⟨(σ.1 2), σ, rfl, rfl, wEn_of hP (hK.sub [] rfl) hD ht hW⟩, hS.F ht⟩) hS.2.2 dX12_about_97
def ow_n_lesser : List Cond := []
def vs_n_lesser : List Cond := .code yX12_lesser cX12_lesser 4 (some .long) :: (ow_n_lesser)
theorem vg_n_lesser : vs_n_lesser.all goodWord = true := by decide +kernel
theorem dd_n_lesser : yX12_lesser.cls ≠ "java/lang/invoke/MethodHandle" ∧ yX12_lesser.cls ≠ "java/lang/invoke/VarHandle" ∧ (parseMethodDescriptor yX12_lesser.desc).map (fun d => d.parameters.length) = some 2 := by decide +kernel
def rm_n_lesser : Room := { frames := 0, cells := 0, slots := 0, locals := 0 }
set_option maxHeartbeats 4000000 in
set_option maxRecDepth 100000 in
theorem n_lesser (l : Launch) (dC : Nat → ClassId) (dI : Nat → Nat → Nat) (x : Int64) (y : Int64)  (sz : Nat) : Met l yX12_lesser vs_n_lesser rm_n_lesser (va_Pc [.long x, .long y] (wSt dC dI [] [] sz)) (va_Ql (fun (r : Int64) (_ : Unit) => True) (fun (_ : Unit) => wEn dC dI (va_A [] sz) [] []) (va_A ([]) sz)) 0 0 (va_A ([]) sz) := by
  refine Met.ofW (cc := cX12_lesser) (maxL := 4) (ret := (some .long)) (by decide) rfl ?_
  intro p e s m args below meth c s₁ B hml hv
  obtain ⟨rfl, hsz, hP, hK, hD0, hE⟩ := hv
  have hx := B.exec
  have hb := B.bytes
  have hr := B.returns
  have hts := atoms_spec (ws := vs_n_lesser) B.pre
  have hown : s.vm.findClass RX12 = some m.cls := findClass_of_methodNamed B.named
  have hlocks := B.notSynchronized
  subst hsz
  have hD := hD0.self (sz := s.heap.size)
  generalize hAe : va_A ([]) s.heap.size = A at hD ⊢
  have hA : ∀ q : Nat, s.heap.size ≤ q → A q := fun q h => by rw [← hAe]; exact Or.inr h
  have hl := lv_entry ([.long x, .long y]) (n := 4) (Nat.le_of_ble_eq_true rfl)
  rw [lg_entry_eq]
  generalize (lg_sl ([.long x, .long y]) ++ List.replicate (4 - (lg_sl ([.long x, .long y])).length) Slot.unset).toArray = ls at hl ⊢
  have hl : lv_has ls 4 [(0, .long x), (2, .long y)] := hl
  have ho := fun w (h : w ∈ ow_n_lesser) => hts w (List.mem_cons_of_mem _ h)
  refine zQ (fun Q hQ => ?_)
  refine zH (A := A) (ws := []) (fun H hP hS => ?_) hP
  refine lv_lload_n hx hb dX12_lesser_0 rfl (lv_at hl 0 rfl) ?_
  refine lv_lload_n hx hb dX12_lesser_1 rfl (lv_at hl 1 rfl) ?_
  refine W.lcmp hx hb dX12_lesser_2 ?_
  refine lv_topi (fun z1 ez1 => ?_)
  refine lv_if_ge (tgt := 10) hx hb dX12_lesser_3 rfl (fun c2 => ?_) (fun c2 => ?_)
  · have tc2 := (show 0 ≤ z1.toInt from ti_le rg_11 rfl c2)
    have lc2 : y ≤ x := (lg_cmp_ge x y).mp (by rw [← ez1]; exact c2)
    refine lv_lload_n hx hb dX12_lesser_10 rfl (lv_at hl 1 rfl) ?_
    rw [hQ]
    exact W.lret (v := y) hx hb hr (fun t ht hW => ⟨⟨y, (), rfl, trivial, wEn_of empP (hK.sub [] rfl) empD ht hW⟩, hS.F ht⟩) hS.2.2 dX12_lesser_11
  · have tc2 := (show z1.toInt < 0 from ti_nle rg_11 rfl c2)
    have lc2 : ¬ y ≤ x := fun h => c2 (by rw [ez1]; exact (lg_cmp_ge x y).mpr h)
    refine lv_lload_n hx hb dX12_lesser_6 rfl (lv_at hl 0 rfl) ?_
    refine lv_goto (tgt := 11) hx hb dX12_lesser_7 rfl ?_
    rw [hQ]
    exact W.lret (v := x) hx hb hr (fun t ht hW => ⟨⟨x, (), rfl, trivial, wEn_of empP (hK.sub [] rfl) empD ht hW⟩, hS.F ht⟩) hS.2.2 dX12_lesser_11
def ow_n_greater : List Cond := []
def vs_n_greater : List Cond := .code yX12_greater cX12_greater 4 (some .long) :: (ow_n_greater)
theorem vg_n_greater : vs_n_greater.all goodWord = true := by decide +kernel
theorem dd_n_greater : yX12_greater.cls ≠ "java/lang/invoke/MethodHandle" ∧ yX12_greater.cls ≠ "java/lang/invoke/VarHandle" ∧ (parseMethodDescriptor yX12_greater.desc).map (fun d => d.parameters.length) = some 2 := by decide +kernel
def rm_n_greater : Room := { frames := 0, cells := 0, slots := 0, locals := 0 }
set_option maxHeartbeats 4000000 in
set_option maxRecDepth 100000 in
theorem n_greater (l : Launch) (dC : Nat → ClassId) (dI : Nat → Nat → Nat) (x : Int64) (y : Int64)  (sz : Nat) : Met l yX12_greater vs_n_greater rm_n_greater (va_Pc [.long x, .long y] (wSt dC dI [] [] sz)) (va_Ql (fun (r : Int64) (_ : Unit) => True) (fun (_ : Unit) => wEn dC dI (va_A [] sz) [] []) (va_A ([]) sz)) 0 0 (va_A ([]) sz) := by
  refine Met.ofW (cc := cX12_greater) (maxL := 4) (ret := (some .long)) (by decide) rfl ?_
  intro p e s m args below meth c s₁ B hml hv
  obtain ⟨rfl, hsz, hP, hK, hD0, hE⟩ := hv
  have hx := B.exec
  have hb := B.bytes
  have hr := B.returns
  have hts := atoms_spec (ws := vs_n_greater) B.pre
  have hown : s.vm.findClass RX12 = some m.cls := findClass_of_methodNamed B.named
  have hlocks := B.notSynchronized
  subst hsz
  have hD := hD0.self (sz := s.heap.size)
  generalize hAe : va_A ([]) s.heap.size = A at hD ⊢
  have hA : ∀ q : Nat, s.heap.size ≤ q → A q := fun q h => by rw [← hAe]; exact Or.inr h
  have hl := lv_entry ([.long x, .long y]) (n := 4) (Nat.le_of_ble_eq_true rfl)
  rw [lg_entry_eq]
  generalize (lg_sl ([.long x, .long y]) ++ List.replicate (4 - (lg_sl ([.long x, .long y])).length) Slot.unset).toArray = ls at hl ⊢
  have hl : lv_has ls 4 [(0, .long x), (2, .long y)] := hl
  have ho := fun w (h : w ∈ ow_n_greater) => hts w (List.mem_cons_of_mem _ h)
  refine zQ (fun Q hQ => ?_)
  refine zH (A := A) (ws := []) (fun H hP hS => ?_) hP
  refine lv_lload_n hx hb dX12_greater_0 rfl (lv_at hl 0 rfl) ?_
  refine lv_lload_n hx hb dX12_greater_1 rfl (lv_at hl 1 rfl) ?_
  refine W.lcmp hx hb dX12_greater_2 ?_
  refine lv_topi (fun z1 ez1 => ?_)
  refine lv_if_le (tgt := 10) hx hb dX12_greater_3 rfl (fun c2 => ?_) (fun c2 => ?_)
  · have tc2 := (show z1.toInt ≤ 0 from ti_le rfl rg_11 c2)
    have lc2 : x ≤ y := (lg_cmp_le x y).mp (by rw [← ez1]; exact c2)
    refine lv_lload_n hx hb dX12_greater_10 rfl (lv_at hl 1 rfl) ?_
    rw [hQ]
    exact W.lret (v := y) hx hb hr (fun t ht hW => ⟨⟨y, (), rfl, trivial, wEn_of empP (hK.sub [] rfl) empD ht hW⟩, hS.F ht⟩) hS.2.2 dX12_greater_11
  · have tc2 := (show 0 < z1.toInt from ti_nle rfl rg_11 c2)
    have lc2 : ¬ x ≤ y := fun h => c2 (by rw [ez1]; exact (lg_cmp_le x y).mpr h)
    refine lv_lload_n hx hb dX12_greater_6 rfl (lv_at hl 0 rfl) ?_
    refine lv_goto (tgt := 11) hx hb dX12_greater_7 rfl ?_
    rw [hQ]
    exact W.lret (v := x) hx hb hr (fun t ht hW => ⟨⟨x, (), rfl, trivial, wEn_of empP (hK.sub [] rfl) empD ht hW⟩, hS.F ht⟩) hS.2.2 dX12_greater_11
def ow_n_leastOf : List Cond := []
def vs_n_leastOf : List Cond := .code yX12_leastOf cX12_leastOf 8 (some .long) :: (ow_n_leastOf ++ (([.methodLink RX12 314 yX12_lesser, .static yX12_lesser, .initialized yX12_lesser.cls] : List Cond) ++ (vs_n_lesser)))
theorem vg_n_leastOf : vs_n_leastOf.all goodWord = true := by decide +kernel
theorem dd_n_leastOf : yX12_leastOf.cls ≠ "java/lang/invoke/MethodHandle" ∧ yX12_leastOf.cls ≠ "java/lang/invoke/VarHandle" ∧ (parseMethodDescriptor yX12_leastOf.desc).map (fun d => d.parameters.length) = some 4 := by decide +kernel
def rm_n_leastOf : Room := { frames := 1, cells := 0, slots := 0, locals := 23 }
theorem gd_n_leastOf_314_n_lesser : GoodIn vs_n_leastOf (va_wsS RX12 314 yX12_lesser vs_n_lesser) := goodIn_app (goodIn_sub (fun w h => (List.mem_cons_of_mem _ (List.mem_append_right _ (List.mem_append_left _ h)))) (by decide +kernel)) (goodIn_sub (fun w h => (List.mem_cons_of_mem _ (List.mem_append_right _ (List.mem_append_right _ h)))) vg_n_lesser)
set_option maxHeartbeats 4000000 in
set_option maxRecDepth 100000 in
theorem n_leastOf (l : Launch) (dC : Nat → ClassId) (dI : Nat → Nat → Nat) (x0 : Int64) (x1 : Int64) (x2 : Int64) (x3 : Int64)  (sz : Nat) : Met l yX12_leastOf vs_n_leastOf rm_n_leastOf (va_Pc [.long x0, .long x1, .long x2, .long x3] (wSt dC dI [] [] sz)) (va_Ql (fun (r : Int64) (_ : Unit) => True) (fun (_ : Unit) => wEn dC dI (va_A [] sz) [] []) (va_A ([]) sz)) 0 0 (va_A ([]) sz) := by
  refine Met.ofW (cc := cX12_leastOf) (maxL := 8) (ret := (some .long)) (by decide) rfl ?_
  intro p e s m args below meth c s₁ B hml hv
  obtain ⟨rfl, hsz, hP, hK, hD0, hE⟩ := hv
  have hx := B.exec
  have hb := B.bytes
  have hr := B.returns
  have hts := atoms_spec (ws := vs_n_leastOf) B.pre
  have hown : s.vm.findClass RX12 = some m.cls := findClass_of_methodNamed B.named
  have hlocks := B.notSynchronized
  subst hsz
  have hD := hD0.self (sz := s.heap.size)
  generalize hAe : va_A ([]) s.heap.size = A at hD ⊢
  have hA : ∀ q : Nat, s.heap.size ≤ q → A q := fun q h => by rw [← hAe]; exact Or.inr h
  have hl := lv_entry ([.long x0, .long x1, .long x2, .long x3]) (n := 8) (Nat.le_of_ble_eq_true rfl)
  rw [lg_entry_eq]
  generalize (lg_sl ([.long x0, .long x1, .long x2, .long x3]) ++ List.replicate (8 - (lg_sl ([.long x0, .long x1, .long x2, .long x3])).length) Slot.unset).toArray = ls at hl ⊢
  have hl : lv_has ls 8 [(0, .long x0), (2, .long x1), (4, .long x2), (6, .long x3)] := hl
  have ho := fun w (h : w ∈ ow_n_leastOf) => hts w (List.mem_cons_of_mem _ (List.mem_append_left _ h))
  refine zQ (fun Q hQ => ?_)
  refine zH (A := A) (ws := []) (fun H hP hS => ?_) hP
  refine lv_lload_n hx hb dX12_leastOf_0 rfl (lv_at hl 0 rfl) ?_
  refine lv_lload_n hx hb dX12_leastOf_1 rfl (lv_at hl 1 rfl) ?_
  refine zs_l (va_runS (As := [.long x0, .long x1]) (rest := []) ⟨hx, hb, hml, hown, hts⟩ (n_lesser l dC dI x0 x1  H.size) (va_cwS 2 hts gd_n_leastOf_314_n_lesser rfl rfl rfl dd_n_lesser ⟨Nat.le_of_ble_eq_true rfl, Nat.le_of_ble_eq_true rfl⟩) (preS (A := A) empP (hK.sub (tys' := []) [] rfl) empD hE) rfl rfl hl.1 rfl (lv_room (Nat.le_of_ble_eq_true rfl)) dX12_leastOf_2 ⟨Nat.le_of_ble_eq_true rfl, Nat.le_of_ble_eq_true rfl⟩) hP hD hS hA (fun y1 H locs hq hP hD hS => ?_)
  obtain f2 := hq
  refine W.widen (k := 0) (n := 0) (Nat.le_of_ble_eq_true rfl) (Nat.le_of_ble_eq_true rfl) ?_
  refine lv_lload hx hb dX12_leastOf_5 (lv_at hl 2 rfl) ?_
  refine lv_lload hx hb dX12_leastOf_7 (lv_at hl 3 rfl) ?_
  refine zs_l (va_runS (As := [.long x2, .long x3]) (rest := [.long y1]) ⟨hx, hb, hml, hown, hts⟩ (n_lesser l dC dI x2 x3  H.size) (va_cwS 2 hts gd_n_leastOf_314_n_lesser rfl rfl rfl dd_n_lesser ⟨Nat.le_of_ble_eq_true rfl, Nat.le_of_ble_eq_true rfl⟩) (preS (A := A) empP (hK.sub (tys' := []) [] rfl) empD hE) rfl rfl hl.1 rfl (lv_room (Nat.le_of_ble_eq_true rfl)) dX12_leastOf_9 ⟨Nat.le_of_ble_eq_true rfl, Nat.le_of_ble_eq_true rfl⟩) hP hD hS hA (fun y3 H locs hq hP hD hS => ?_)
  obtain f4 := hq
  refine W.widen (k := 0) (n := 0) (Nat.le_of_ble_eq_true rfl) (Nat.le_of_ble_eq_true rfl) ?_
  refine zs_l (va_runS (As := [.long y1, .long y3]) (rest := []) ⟨hx, hb, hml, hown, hts⟩ (n_lesser l dC dI y1 y3  H.size) (va_cwS 2 hts gd_n_leastOf_314_n_lesser rfl rfl rfl dd_n_lesser ⟨Nat.le_of_ble_eq_true rfl, Nat.le_of_ble_eq_true rfl⟩) (preS (A := A) empP (hK.sub (tys' := []) [] rfl) empD hE) rfl rfl hl.1 rfl (lv_room (Nat.le_of_ble_eq_true rfl)) dX12_leastOf_12 ⟨Nat.le_of_ble_eq_true rfl, Nat.le_of_ble_eq_true rfl⟩) hP hD hS hA (fun y5 H locs hq hP hD hS => ?_)
  obtain f6 := hq
  refine W.widen (k := 0) (n := 0) (Nat.le_of_ble_eq_true rfl) (Nat.le_of_ble_eq_true rfl) ?_
  rw [hQ]
  exact W.lret (v := y5) hx hb hr (fun t ht hW => ⟨⟨y5, (), rfl, trivial, wEn_of empP (hK.sub [] rfl) empD ht hW⟩, hS.F ht⟩) hS.2.2 dX12_leastOf_15
def ow_n_mostOf : List Cond := []
def vs_n_mostOf : List Cond := .code yX12_mostOf cX12_mostOf 8 (some .long) :: (ow_n_mostOf ++ (([.methodLink RX12 318 yX12_greater, .static yX12_greater, .initialized yX12_greater.cls] : List Cond) ++ (vs_n_greater)))
theorem vg_n_mostOf : vs_n_mostOf.all goodWord = true := by decide +kernel
theorem dd_n_mostOf : yX12_mostOf.cls ≠ "java/lang/invoke/MethodHandle" ∧ yX12_mostOf.cls ≠ "java/lang/invoke/VarHandle" ∧ (parseMethodDescriptor yX12_mostOf.desc).map (fun d => d.parameters.length) = some 4 := by decide +kernel
def rm_n_mostOf : Room := { frames := 1, cells := 0, slots := 0, locals := 23 }
theorem gd_n_mostOf_318_n_greater : GoodIn vs_n_mostOf (va_wsS RX12 318 yX12_greater vs_n_greater) := goodIn_app (goodIn_sub (fun w h => (List.mem_cons_of_mem _ (List.mem_append_right _ (List.mem_append_left _ h)))) (by decide +kernel)) (goodIn_sub (fun w h => (List.mem_cons_of_mem _ (List.mem_append_right _ (List.mem_append_right _ h)))) vg_n_greater)
set_option maxHeartbeats 4000000 in
set_option maxRecDepth 100000 in
theorem n_mostOf (l : Launch) (dC : Nat → ClassId) (dI : Nat → Nat → Nat) (x0 : Int64) (x1 : Int64) (x2 : Int64) (x3 : Int64)  (sz : Nat) : Met l yX12_mostOf vs_n_mostOf rm_n_mostOf (va_Pc [.long x0, .long x1, .long x2, .long x3] (wSt dC dI [] [] sz)) (va_Ql (fun (r : Int64) (_ : Unit) => True) (fun (_ : Unit) => wEn dC dI (va_A [] sz) [] []) (va_A ([]) sz)) 0 0 (va_A ([]) sz) := by
  refine Met.ofW (cc := cX12_mostOf) (maxL := 8) (ret := (some .long)) (by decide) rfl ?_
  intro p e s m args below meth c s₁ B hml hv
  obtain ⟨rfl, hsz, hP, hK, hD0, hE⟩ := hv
  have hx := B.exec
  have hb := B.bytes
  have hr := B.returns
  have hts := atoms_spec (ws := vs_n_mostOf) B.pre
  have hown : s.vm.findClass RX12 = some m.cls := findClass_of_methodNamed B.named
  have hlocks := B.notSynchronized
  subst hsz
  have hD := hD0.self (sz := s.heap.size)
  generalize hAe : va_A ([]) s.heap.size = A at hD ⊢
  have hA : ∀ q : Nat, s.heap.size ≤ q → A q := fun q h => by rw [← hAe]; exact Or.inr h
  have hl := lv_entry ([.long x0, .long x1, .long x2, .long x3]) (n := 8) (Nat.le_of_ble_eq_true rfl)
  rw [lg_entry_eq]
  generalize (lg_sl ([.long x0, .long x1, .long x2, .long x3]) ++ List.replicate (8 - (lg_sl ([.long x0, .long x1, .long x2, .long x3])).length) Slot.unset).toArray = ls at hl ⊢
  have hl : lv_has ls 8 [(0, .long x0), (2, .long x1), (4, .long x2), (6, .long x3)] := hl
  have ho := fun w (h : w ∈ ow_n_mostOf) => hts w (List.mem_cons_of_mem _ (List.mem_append_left _ h))
  refine zQ (fun Q hQ => ?_)
  refine zH (A := A) (ws := []) (fun H hP hS => ?_) hP
  refine lv_lload_n hx hb dX12_mostOf_0 rfl (lv_at hl 0 rfl) ?_
  refine lv_lload_n hx hb dX12_mostOf_1 rfl (lv_at hl 1 rfl) ?_
  refine zs_l (va_runS (As := [.long x0, .long x1]) (rest := []) ⟨hx, hb, hml, hown, hts⟩ (n_greater l dC dI x0 x1  H.size) (va_cwS 2 hts gd_n_mostOf_318_n_greater rfl rfl rfl dd_n_greater ⟨Nat.le_of_ble_eq_true rfl, Nat.le_of_ble_eq_true rfl⟩) (preS (A := A) empP (hK.sub (tys' := []) [] rfl) empD hE) rfl rfl hl.1 rfl (lv_room (Nat.le_of_ble_eq_true rfl)) dX12_mostOf_2 ⟨Nat.le_of_ble_eq_true rfl, Nat.le_of_ble_eq_true rfl⟩) hP hD hS hA (fun y1 H locs hq hP hD hS => ?_)
  obtain f2 := hq
  refine W.widen (k := 0) (n := 0) (Nat.le_of_ble_eq_true rfl) (Nat.le_of_ble_eq_true rfl) ?_
  refine lv_lload hx hb dX12_mostOf_5 (lv_at hl 2 rfl) ?_
  refine lv_lload hx hb dX12_mostOf_7 (lv_at hl 3 rfl) ?_
  refine zs_l (va_runS (As := [.long x2, .long x3]) (rest := [.long y1]) ⟨hx, hb, hml, hown, hts⟩ (n_greater l dC dI x2 x3  H.size) (va_cwS 2 hts gd_n_mostOf_318_n_greater rfl rfl rfl dd_n_greater ⟨Nat.le_of_ble_eq_true rfl, Nat.le_of_ble_eq_true rfl⟩) (preS (A := A) empP (hK.sub (tys' := []) [] rfl) empD hE) rfl rfl hl.1 rfl (lv_room (Nat.le_of_ble_eq_true rfl)) dX12_mostOf_9 ⟨Nat.le_of_ble_eq_true rfl, Nat.le_of_ble_eq_true rfl⟩) hP hD hS hA (fun y3 H locs hq hP hD hS => ?_)
  obtain f4 := hq
  refine W.widen (k := 0) (n := 0) (Nat.le_of_ble_eq_true rfl) (Nat.le_of_ble_eq_true rfl) ?_
  refine zs_l (va_runS (As := [.long y1, .long y3]) (rest := []) ⟨hx, hb, hml, hown, hts⟩ (n_greater l dC dI y1 y3  H.size) (va_cwS 2 hts gd_n_mostOf_318_n_greater rfl rfl rfl dd_n_greater ⟨Nat.le_of_ble_eq_true rfl, Nat.le_of_ble_eq_true rfl⟩) (preS (A := A) empP (hK.sub (tys' := []) [] rfl) empD hE) rfl rfl hl.1 rfl (lv_room (Nat.le_of_ble_eq_true rfl)) dX12_mostOf_12 ⟨Nat.le_of_ble_eq_true rfl, Nat.le_of_ble_eq_true rfl⟩) hP hD hS hA (fun y5 H locs hq hP hD hS => ?_)
  obtain f6 := hq
  refine W.widen (k := 0) (n := 0) (Nat.le_of_ble_eq_true rfl) (Nat.le_of_ble_eq_true rfl) ?_
  rw [hQ]
  exact W.lret (v := y5) hx hb hr (fun t ht hW => ⟨⟨y5, (), rfl, trivial, wEn_of empP (hK.sub [] rfl) empD ht hW⟩, hS.F ht⟩) hS.2.2 dX12_mostOf_15
def ow_n_errs : List Cond := []
def vs_n_errs : List Cond := .code yX12_errs cX12_errs 4 (some .boolean) :: (ow_n_errs)
theorem vg_n_errs : vs_n_errs.all goodWord = true := by decide +kernel
theorem dd_n_errs : yX12_errs.cls ≠ "java/lang/invoke/MethodHandle" ∧ yX12_errs.cls ≠ "java/lang/invoke/VarHandle" ∧ (parseMethodDescriptor yX12_errs.desc).map (fun d => d.parameters.length) = some 2 := by decide +kernel
def rm_n_errs : Room := { frames := 0, cells := 0, slots := 0, locals := 0 }
set_option maxHeartbeats 4000000 in
set_option maxRecDepth 100000 in
theorem n_errs (l : Launch) (dC : Nat → ClassId) (dI : Nat → Nat → Nat) (x : Int64) (y : Int64)  (sz : Nat) : Met l yX12_errs vs_n_errs rm_n_errs (va_Pc [.long x, .long y] (wSt dC dI [] [] sz)) (va_Qi (fun (r : Int32) (_ : Unit) => (r.toInt = 0 ∨ r.toInt = 1)) (fun (_ : Unit) => wEn dC dI (va_A [] sz) [] []) (va_A ([]) sz)) 0 0 (va_A ([]) sz) := by
  refine Met.ofW (cc := cX12_errs) (maxL := 4) (ret := (some .boolean)) (by decide) rfl ?_
  intro p e s m args below meth c s₁ B hml hv
  obtain ⟨rfl, hsz, hP, hK, hD0, hE⟩ := hv
  have hx := B.exec
  have hb := B.bytes
  have hr := B.returns
  have hts := atoms_spec (ws := vs_n_errs) B.pre
  have hown : s.vm.findClass RX12 = some m.cls := findClass_of_methodNamed B.named
  have hlocks := B.notSynchronized
  subst hsz
  have hD := hD0.self (sz := s.heap.size)
  generalize hAe : va_A ([]) s.heap.size = A at hD ⊢
  have hA : ∀ q : Nat, s.heap.size ≤ q → A q := fun q h => by rw [← hAe]; exact Or.inr h
  have hl := lv_entry ([.long x, .long y]) (n := 4) (Nat.le_of_ble_eq_true rfl)
  rw [lg_entry_eq]
  generalize (lg_sl ([.long x, .long y]) ++ List.replicate (4 - (lg_sl ([.long x, .long y])).length) Slot.unset).toArray = ls at hl ⊢
  have hl : lv_has ls 4 [(0, .long x), (2, .long y)] := hl
  have ho := fun w (h : w ∈ ow_n_errs) => hts w (List.mem_cons_of_mem _ h)
  refine zQ (fun Q hQ => ?_)
  refine zH (A := A) (ws := []) (fun H hP hS => ?_) hP
  refine lv_lload_n hx hb dX12_errs_0 rfl (lv_at hl 0 rfl) ?_
  refine lv_lconst (v := 0) hx hb dX12_errs_1 (by decide) ?_
  refine W.lcmp hx hb dX12_errs_2 ?_
  refine lv_topi (fun z1 ez1 => ?_)
  refine lv_if_ne (tgt := 12) hx hb dX12_errs_3 rfl (fun c2 => ?_) (fun c2 => ?_)
  · have tc2 := (show z1.toInt ≠ 0 from ti_ne rfl rg_11 c2)
    have lc2 : ¬ x = 0 := fun h => c2 (by rw [ez1]; exact (lg_cmp_eq x 0).mpr h)
    refine lv_iconst (v := 1) hx hb dX12_errs_12 rg_6 ?_
    refine lv_goto (tgt := 17) hx hb dX12_errs_13 rfl ?_
    rw [hQ]
    exact W.zret (v := 1) hx hb hr rfl (fun t ht hW => ⟨⟨1, (), rfl, (by have k9 : (1 : Int32).toInt = 1 := (by decide); omega), wEn_of empP (hK.sub [] rfl) empD ht hW⟩, hS.F ht⟩) hS.2.2 dX12_errs_17
  · have tc2 := (show z1.toInt = 0 from ti_eq rfl rg_11 c2)
    have lc2 : x = 0 := (lg_cmp_eq x 0).mp (by rw [← ez1]; exact c2)
    refine lv_lload_n hx hb dX12_errs_6 rfl (lv_at hl 1 rfl) ?_
    refine lv_lconst (v := 0) hx hb dX12_errs_7 (by decide) ?_
    refine W.lcmp hx hb dX12_errs_8 ?_
    refine lv_topi (fun z3 ez3 => ?_)
    refine lv_if_eq (tgt := 16) hx hb dX12_errs_9 rfl (fun c4 => ?_) (fun c4 => ?_)
    · have tc4 := (show z3.toInt = 0 from ti_eq rfl rg_11 c4)
      have lc4 : y = 0 := (lg_cmp_eq y 0).mp (by rw [← ez3]; exact c4)
      refine lv_iconst (v := 0) hx hb dX12_errs_16 rg_0 ?_
      rw [hQ]
      exact W.zret (v := 0) hx hb hr rfl (fun t ht hW => ⟨⟨0, (), rfl, (by have k9 : (0 : Int32).toInt = 0 := (by decide); omega), wEn_of empP (hK.sub [] rfl) empD ht hW⟩, hS.F ht⟩) hS.2.2 dX12_errs_17
    · have tc4 := (show z3.toInt ≠ 0 from ti_ne rfl rg_11 c4)
      have lc4 : ¬ y = 0 := fun h => c4 (by rw [ez3]; exact (lg_cmp_eq y 0).mpr h)
      refine lv_iconst (v := 1) hx hb dX12_errs_12 rg_6 ?_
      refine lv_goto (tgt := 17) hx hb dX12_errs_13 rfl ?_
      rw [hQ]
      exact W.zret (v := 1) hx hb hr rfl (fun t ht hW => ⟨⟨1, (), rfl, (by have k9 : (1 : Int32).toInt = 1 := (by decide); omega), wEn_of empP (hK.sub [] rfl) empD ht hW⟩, hS.F ht⟩) hS.2.2 dX12_errs_17
def ow_n_least2 : List Cond := []
def vs_n_least2 : List Cond := .code yX12_least2 cX12_least2 2 (some .int) :: (ow_n_least2)
theorem vg_n_least2 : vs_n_least2.all goodWord = true := by decide +kernel
theorem dd_n_least2 : yX12_least2.cls ≠ "java/lang/invoke/MethodHandle" ∧ yX12_least2.cls ≠ "java/lang/invoke/VarHandle" ∧ (parseMethodDescriptor yX12_least2.desc).map (fun d => d.parameters.length) = some 2 := by decide +kernel
def rm_n_least2 : Room := { frames := 0, cells := 0, slots := 0, locals := 0 }
set_option maxHeartbeats 4000000 in
set_option maxRecDepth 100000 in
theorem n_least2 (l : Launch) (dC : Nat → ClassId) (dI : Nat → Nat → Nat) (x : Int32) (y : Int32)  (sz : Nat) : Met l yX12_least2 vs_n_least2 rm_n_least2 (va_Pc [.int x, .int y] (wSt dC dI [] [] sz)) (va_Qi (fun (r : Int32) (_ : Unit) => (r.toInt = x.toInt ∨ r.toInt = y.toInt) ∧ r.toInt ≤ x.toInt ∧ r.toInt ≤ y.toInt) (fun (_ : Unit) => wEn dC dI (va_A [] sz) [] []) (va_A ([]) sz)) 0 0 (va_A ([]) sz) := by
  refine Met.ofW (cc := cX12_least2) (maxL := 2) (ret := (some .int)) (by decide) rfl ?_
  intro p e s m args below meth c s₁ B hml hv
  obtain ⟨rfl, hsz, hP, hK, hD0, hE⟩ := hv
  have hx := B.exec
  have hb := B.bytes
  have hr := B.returns
  have hts := atoms_spec (ws := vs_n_least2) B.pre
  have hown : s.vm.findClass RX12 = some m.cls := findClass_of_methodNamed B.named
  have hlocks := B.notSynchronized
  subst hsz
  have hD := hD0.self (sz := s.heap.size)
  generalize hAe : va_A ([]) s.heap.size = A at hD ⊢
  have hA : ∀ q : Nat, s.heap.size ≤ q → A q := fun q h => by rw [← hAe]; exact Or.inr h
  have hl := lv_entry ([.int x, .int y]) (n := 2) (Nat.le_of_ble_eq_true rfl)
  rw [lg_entry_eq]
  generalize (lg_sl ([.int x, .int y]) ++ List.replicate (2 - (lg_sl ([.int x, .int y])).length) Slot.unset).toArray = ls at hl ⊢
  have hl : lv_has ls 2 [(0, .int x), (1, .int y)] := hl
  have ho := fun w (h : w ∈ ow_n_least2) => hts w (List.mem_cons_of_mem _ h)
  refine zQ (fun Q hQ => ?_)
  refine zH (A := A) (ws := []) (fun H hP hS => ?_) hP
  refine lv_iload_n hx hb dX12_least2_0 rfl (lv_at hl 0 rfl) ?_
  refine lv_iload_n hx hb dX12_least2_1 rfl (lv_at hl 1 rfl) ?_
  refine lv_icmp_ge (tgt := 9) hx hb dX12_least2_2 rfl (fun c1 => ?_) (fun c1 => ?_)
  · have tc1 := (show y.toInt ≤ x.toInt from ti_le rfl rfl c1)
    refine lv_iload_n hx hb dX12_least2_9 rfl (lv_at hl 1 rfl) ?_
    rw [hQ]
    exact W.iret (v := y) hx hb hr (fun t ht hW => ⟨⟨y, (), rfl, ⟨(by omega), (by omega), (by omega)⟩, wEn_of empP (hK.sub [] rfl) empD ht hW⟩, hS.F ht⟩) hS.2.2 dX12_least2_10
  · have tc1 := (show x.toInt < y.toInt from ti_nle rfl rfl c1)
    refine lv_iload_n hx hb dX12_least2_5 rfl (lv_at hl 0 rfl) ?_
    refine lv_goto (tgt := 10) hx hb dX12_least2_6 rfl ?_
    rw [hQ]
    exact W.iret (v := x) hx hb hr (fun t ht hW => ⟨⟨x, (), rfl, ⟨(by omega), (by omega), (by omega)⟩, wEn_of empP (hK.sub [] rfl) empD ht hW⟩, hS.F ht⟩) hS.2.2 dX12_least2_10
