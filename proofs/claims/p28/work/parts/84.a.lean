theorem dX8_set_0 : decode cX8_set 0 = .ok (.aload_n 0, 1) := by decide +kernel
theorem dX8_set_1 : decode cX8_set 1 = .ok (.lload_n 1, 1) := by decide +kernel
theorem dX8_set_2 : decode cX8_set 2 = .ok (.putfield 18, 3) := by decide +kernel
theorem dX8_set_5 : decode cX8_set 5 = .ok (.aload_n 0, 1) := by decide +kernel
theorem dX8_set_6 : decode cX8_set 6 = .ok (.lload_n 3, 1) := by decide +kernel
theorem dX8_set_7 : decode cX8_set 7 = .ok (.putfield 22, 3) := by decide +kernel
theorem dX8_set_10 : decode cX8_set 10 = .ok (.return_, 1) := by decide +kernel
theorem dX8_errs_0 : decode cX8_errs 0 = .ok (.aload_n 0, 1) := by decide +kernel
theorem dX8_errs_1 : decode cX8_errs 1 = .ok (.getfield 9, 3) := by decide +kernel
theorem dX8_errs_4 : decode cX8_errs 4 = .ok (.iload_n 1, 1) := by decide +kernel
theorem dX8_errs_5 : decode cX8_errs 5 = .ok (.laload, 1) := by decide +kernel
theorem dX8_errs_6 : decode cX8_errs 6 = .ok (.lconst 0, 1) := by decide +kernel
theorem dX8_errs_7 : decode cX8_errs 7 = .ok (.lcmp, 1) := by decide +kernel
theorem dX8_errs_8 : decode cX8_errs 8 = .ok (.ifCond .ne 14, 3) := by decide +kernel
theorem dX8_errs_22 : decode cX8_errs 22 = .ok (.iconst 1, 1) := by decide +kernel
theorem dX8_errs_23 : decode cX8_errs 23 = .ok (.goto 4, 3) := by decide +kernel
theorem dX8_errs_27 : decode cX8_errs 27 = .ok (.ireturn, 1) := by decide +kernel
theorem dX8_errs_11 : decode cX8_errs 11 = .ok (.aload_n 0, 1) := by decide +kernel
theorem dX8_errs_12 : decode cX8_errs 12 = .ok (.getfield 15, 3) := by decide +kernel
theorem dX8_errs_15 : decode cX8_errs 15 = .ok (.iload_n 1, 1) := by decide +kernel
theorem dX8_errs_16 : decode cX8_errs 16 = .ok (.laload, 1) := by decide +kernel
theorem dX8_errs_17 : decode cX8_errs 17 = .ok (.lconst 0, 1) := by decide +kernel
theorem dX8_errs_18 : decode cX8_errs 18 = .ok (.lcmp, 1) := by decide +kernel
theorem dX8_errs_19 : decode cX8_errs 19 = .ok (.ifCond .eq 7, 3) := by decide +kernel
theorem dX8_errs_26 : decode cX8_errs 26 = .ok (.iconst 0, 1) := by decide +kernel
theorem dX8_farOff_0 : decode cX8_farOff 0 = .ok (.aload_n 0, 1) := by decide +kernel
theorem dX8_farOff_1 : decode cX8_farOff 1 = .ok (.getfield 9, 3) := by decide +kernel
theorem dX8_farOff_4 : decode cX8_farOff 4 = .ok (.iload_n 1, 1) := by decide +kernel
theorem dX8_farOff_5 : decode cX8_farOff 5 = .ok (.laload, 1) := by decide +kernel
theorem dX8_farOff_6 : decode cX8_farOff 6 = .ok (.lneg, 1) := by decide +kernel
theorem dX8_farOff_7 : decode cX8_farOff 7 = .ok (.aload_n 0, 1) := by decide +kernel
theorem dX8_farOff_8 : decode cX8_farOff 8 = .ok (.getfield 15, 3) := by decide +kernel
theorem dX8_farOff_11 : decode cX8_farOff 11 = .ok (.iload_n 1, 1) := by decide +kernel
theorem dX8_farOff_12 : decode cX8_farOff 12 = .ok (.laload, 1) := by decide +kernel
theorem dX8_farOff_13 : decode cX8_farOff 13 = .ok (.invokestatic 109, 3) := by decide +kernel
theorem dX8_farOff_16 : decode cX8_farOff 16 = .ok (.lreturn, 1) := by decide +kernel
theorem dX8_showTimes_0 : decode cX8_showTimes 0 = .ok (.aload_n 0, 1) := by decide +kernel
theorem dX8_showTimes_1 : decode cX8_showTimes 1 = .ok (.getfield 36, 3) := by decide +kernel
theorem dX8_showTimes_4 : decode cX8_showTimes 4 = .ok (.getfield 68, 3) := by decide +kernel
theorem dX8_showTimes_7 : decode cX8_showTimes 7 = .ok (.iload_n 1, 1) := by decide +kernel
theorem dX8_showTimes_8 : decode cX8_showTimes 8 = .ok (.aaload, 1) := by decide +kernel
theorem dX8_showTimes_9 : decode cX8_showTimes 9 = .ok (.astore_n 3, 1) := by decide +kernel
theorem dX8_showTimes_10 : decode cX8_showTimes 10 = .ok (.aload_n 0, 1) := by decide +kernel
theorem dX8_showTimes_11 : decode cX8_showTimes 11 = .ok (.getfield 36, 3) := by decide +kernel
theorem dX8_showTimes_14 : decode cX8_showTimes 14 = .ok (.getfield 68, 3) := by decide +kernel
theorem dX8_showTimes_17 : decode cX8_showTimes 17 = .ok (.iload_n 2, 1) := by decide +kernel
theorem dX8_showTimes_18 : decode cX8_showTimes 18 = .ok (.aaload, 1) := by decide +kernel
theorem dX8_showTimes_19 : decode cX8_showTimes 19 = .ok (.astore 4, 2) := by decide +kernel
theorem dX8_showTimes_21 : decode cX8_showTimes 21 = .ok (.aload_n 0, 1) := by decide +kernel
theorem dX8_showTimes_22 : decode cX8_showTimes 22 = .ok (.aload_n 3, 1) := by decide +kernel
theorem dX8_showTimes_23 : decode cX8_showTimes 23 = .ok (.getfield 130, 3) := by decide +kernel
theorem dX8_showTimes_26 : decode cX8_showTimes 26 = .ok (.aload_n 3, 1) := by decide +kernel
theorem dX8_showTimes_27 : decode cX8_showTimes 27 = .ok (.getfield 132, 3) := by decide +kernel
theorem dX8_showTimes_30 : decode cX8_showTimes 30 = .ok (.aload_n 0, 1) := by decide +kernel
theorem dX8_showTimes_31 : decode cX8_showTimes 31 = .ok (.getfield 9, 3) := by decide +kernel
theorem dX8_showTimes_34 : decode cX8_showTimes 34 = .ok (.iload_n 2, 1) := by decide +kernel
theorem dX8_showTimes_35 : decode cX8_showTimes 35 = .ok (.laload, 1) := by decide +kernel
theorem dX8_showTimes_36 : decode cX8_showTimes 36 = .ok (.aload_n 0, 1) := by decide +kernel
theorem dX8_showTimes_37 : decode cX8_showTimes 37 = .ok (.getfield 15, 3) := by decide +kernel
theorem dX8_showTimes_40 : decode cX8_showTimes 40 = .ok (.iload_n 2, 1) := by decide +kernel
theorem dX8_showTimes_41 : decode cX8_showTimes 41 = .ok (.laload, 1) := by decide +kernel
theorem dX8_showTimes_42 : decode cX8_showTimes 42 = .ok (.invokestatic 134, 3) := by decide +kernel
theorem dX8_showTimes_45 : decode cX8_showTimes 45 = .ok (.aload 4, 2) := by decide +kernel
theorem dX8_showTimes_47 : decode cX8_showTimes 47 = .ok (.getfield 130, 3) := by decide +kernel
theorem dX8_showTimes_50 : decode cX8_showTimes 50 = .ok (.aload 4, 2) := by decide +kernel
theorem dX8_showTimes_52 : decode cX8_showTimes 52 = .ok (.getfield 132, 3) := by decide +kernel
theorem dX8_showTimes_55 : decode cX8_showTimes 55 = .ok (.aload_n 0, 1) := by decide +kernel
theorem dX8_showTimes_56 : decode cX8_showTimes 56 = .ok (.getfield 9, 3) := by decide +kernel
theorem dX8_showTimes_59 : decode cX8_showTimes 59 = .ok (.iload_n 1, 1) := by decide +kernel
theorem dX8_showTimes_60 : decode cX8_showTimes 60 = .ok (.laload, 1) := by decide +kernel
theorem dX8_showTimes_61 : decode cX8_showTimes 61 = .ok (.aload_n 0, 1) := by decide +kernel
theorem dX8_showTimes_62 : decode cX8_showTimes 62 = .ok (.getfield 15, 3) := by decide +kernel
theorem dX8_showTimes_65 : decode cX8_showTimes 65 = .ok (.iload_n 1, 1) := by decide +kernel
theorem dX8_showTimes_66 : decode cX8_showTimes 66 = .ok (.laload, 1) := by decide +kernel
theorem dX8_showTimes_67 : decode cX8_showTimes 67 = .ok (.invokestatic 134, 3) := by decide +kernel
theorem dX8_showTimes_70 : decode cX8_showTimes 70 = .ok (.ladd, 1) := by decide +kernel
theorem dX8_showTimes_71 : decode cX8_showTimes 71 = .ok (.aload_n 0, 1) := by decide +kernel
theorem dX8_showTimes_72 : decode cX8_showTimes 72 = .ok (.getfield 9, 3) := by decide +kernel
theorem dX8_showTimes_75 : decode cX8_showTimes 75 = .ok (.iload_n 1, 1) := by decide +kernel
theorem dX8_showTimes_76 : decode cX8_showTimes 76 = .ok (.laload, 1) := by decide +kernel
theorem dX8_showTimes_77 : decode cX8_showTimes 77 = .ok (.aload_n 0, 1) := by decide +kernel
theorem dX8_showTimes_78 : decode cX8_showTimes 78 = .ok (.getfield 15, 3) := by decide +kernel
theorem dX8_showTimes_81 : decode cX8_showTimes 81 = .ok (.iload_n 1, 1) := by decide +kernel
theorem dX8_showTimes_82 : decode cX8_showTimes 82 = .ok (.laload, 1) := by decide +kernel
theorem dX8_showTimes_83 : decode cX8_showTimes 83 = .ok (.aload_n 0, 1) := by decide +kernel
theorem dX8_showTimes_84 : decode cX8_showTimes 84 = .ok (.getfield 9, 3) := by decide +kernel
theorem dX8_showTimes_87 : decode cX8_showTimes 87 = .ok (.iload_n 2, 1) := by decide +kernel
theorem dX8_showTimes_88 : decode cX8_showTimes 88 = .ok (.laload, 1) := by decide +kernel
theorem dX8_showTimes_89 : decode cX8_showTimes 89 = .ok (.aload_n 0, 1) := by decide +kernel
theorem dX8_showTimes_90 : decode cX8_showTimes 90 = .ok (.getfield 15, 3) := by decide +kernel
theorem dX8_showTimes_93 : decode cX8_showTimes 93 = .ok (.iload_n 2, 1) := by decide +kernel
theorem dX8_showTimes_94 : decode cX8_showTimes 94 = .ok (.laload, 1) := by decide +kernel
theorem dX8_showTimes_95 : decode cX8_showTimes 95 = .ok (.invokestatic 134, 3) := by decide +kernel
theorem dX8_showTimes_98 : decode cX8_showTimes 98 = .ok (.ladd, 1) := by decide +kernel
theorem dX8_showTimes_99 : decode cX8_showTimes 99 = .ok (.aload_n 3, 1) := by decide +kernel
theorem dX8_showTimes_100 : decode cX8_showTimes 100 = .ok (.getfield 130, 3) := by decide +kernel
theorem dX8_showTimes_103 : decode cX8_showTimes 103 = .ok (.aload_n 3, 1) := by decide +kernel
theorem dX8_showTimes_104 : decode cX8_showTimes 104 = .ok (.getfield 132, 3) := by decide +kernel
theorem dX8_showTimes_107 : decode cX8_showTimes 107 = .ok (.aload_n 0, 1) := by decide +kernel
theorem dX8_showTimes_108 : decode cX8_showTimes 108 = .ok (.getfield 9, 3) := by decide +kernel
theorem dX8_showTimes_111 : decode cX8_showTimes 111 = .ok (.iload_n 2, 1) := by decide +kernel
theorem dX8_showTimes_112 : decode cX8_showTimes 112 = .ok (.laload, 1) := by decide +kernel
theorem dX8_showTimes_113 : decode cX8_showTimes 113 = .ok (.aload_n 0, 1) := by decide +kernel
theorem dX8_showTimes_114 : decode cX8_showTimes 114 = .ok (.getfield 15, 3) := by decide +kernel
theorem dX8_showTimes_117 : decode cX8_showTimes 117 = .ok (.iload_n 2, 1) := by decide +kernel
theorem dX8_showTimes_118 : decode cX8_showTimes 118 = .ok (.laload, 1) := by decide +kernel
theorem dX8_showTimes_119 : decode cX8_showTimes 119 = .ok (.invokestatic 138, 3) := by decide +kernel
theorem dX8_showTimes_122 : decode cX8_showTimes 122 = .ok (.aload 4, 2) := by decide +kernel
theorem dX8_showTimes_124 : decode cX8_showTimes 124 = .ok (.getfield 130, 3) := by decide +kernel
theorem dX8_showTimes_127 : decode cX8_showTimes 127 = .ok (.aload 4, 2) := by decide +kernel
theorem dX8_showTimes_129 : decode cX8_showTimes 129 = .ok (.getfield 132, 3) := by decide +kernel
theorem dX8_showTimes_132 : decode cX8_showTimes 132 = .ok (.aload_n 0, 1) := by decide +kernel
theorem dX8_showTimes_133 : decode cX8_showTimes 133 = .ok (.getfield 9, 3) := by decide +kernel
theorem dX8_showTimes_136 : decode cX8_showTimes 136 = .ok (.iload_n 1, 1) := by decide +kernel
theorem dX8_showTimes_137 : decode cX8_showTimes 137 = .ok (.laload, 1) := by decide +kernel
theorem dX8_showTimes_138 : decode cX8_showTimes 138 = .ok (.aload_n 0, 1) := by decide +kernel
theorem dX8_showTimes_139 : decode cX8_showTimes 139 = .ok (.getfield 15, 3) := by decide +kernel
theorem dX8_showTimes_142 : decode cX8_showTimes 142 = .ok (.iload_n 1, 1) := by decide +kernel
theorem dX8_showTimes_143 : decode cX8_showTimes 143 = .ok (.laload, 1) := by decide +kernel
theorem dX8_showTimes_144 : decode cX8_showTimes 144 = .ok (.invokestatic 138, 3) := by decide +kernel
theorem dX8_showTimes_147 : decode cX8_showTimes 147 = .ok (.ladd, 1) := by decide +kernel
theorem dX8_showTimes_148 : decode cX8_showTimes 148 = .ok (.aload_n 0, 1) := by decide +kernel
theorem dX8_showTimes_149 : decode cX8_showTimes 149 = .ok (.getfield 9, 3) := by decide +kernel
theorem dX8_showTimes_152 : decode cX8_showTimes 152 = .ok (.iload_n 1, 1) := by decide +kernel
theorem dX8_showTimes_153 : decode cX8_showTimes 153 = .ok (.laload, 1) := by decide +kernel
theorem dX8_showTimes_154 : decode cX8_showTimes 154 = .ok (.aload_n 0, 1) := by decide +kernel
theorem dX8_showTimes_155 : decode cX8_showTimes 155 = .ok (.getfield 15, 3) := by decide +kernel
theorem dX8_showTimes_158 : decode cX8_showTimes 158 = .ok (.iload_n 1, 1) := by decide +kernel
theorem dX8_showTimes_159 : decode cX8_showTimes 159 = .ok (.laload, 1) := by decide +kernel
theorem dX8_showTimes_160 : decode cX8_showTimes 160 = .ok (.aload_n 0, 1) := by decide +kernel
theorem dX8_showTimes_161 : decode cX8_showTimes 161 = .ok (.getfield 9, 3) := by decide +kernel
theorem dX8_showTimes_164 : decode cX8_showTimes 164 = .ok (.iload_n 2, 1) := by decide +kernel
theorem dX8_showTimes_165 : decode cX8_showTimes 165 = .ok (.laload, 1) := by decide +kernel
theorem dX8_showTimes_166 : decode cX8_showTimes 166 = .ok (.aload_n 0, 1) := by decide +kernel
theorem dX8_showTimes_167 : decode cX8_showTimes 167 = .ok (.getfield 15, 3) := by decide +kernel
theorem dX8_showTimes_170 : decode cX8_showTimes 170 = .ok (.iload_n 2, 1) := by decide +kernel
theorem dX8_showTimes_171 : decode cX8_showTimes 171 = .ok (.laload, 1) := by decide +kernel
theorem dX8_showTimes_172 : decode cX8_showTimes 172 = .ok (.invokestatic 138, 3) := by decide +kernel
theorem dX8_showTimes_175 : decode cX8_showTimes 175 = .ok (.ladd, 1) := by decide +kernel
theorem dX8_showTimes_176 : decode cX8_showTimes 176 = .ok (.invokevirtual 116, 3) := by decide +kernel
theorem dX8_showTimes_179 : decode cX8_showTimes 179 = .ok (.return_, 1) := by decide +kernel
theorem dX8_widenByTaking_0 : decode cX8_widenByTaking 0 = .ok (.aload_n 0, 1) := by decide +kernel
theorem dX8_widenByTaking_1 : decode cX8_widenByTaking 1 = .ok (.getfield 36, 3) := by decide +kernel
theorem dX8_widenByTaking_4 : decode cX8_widenByTaking 4 = .ok (.getfield 68, 3) := by decide +kernel
theorem dX8_widenByTaking_7 : decode cX8_widenByTaking 7 = .ok (.iload_n 1, 1) := by decide +kernel
theorem dX8_widenByTaking_8 : decode cX8_widenByTaking 8 = .ok (.aaload, 1) := by decide +kernel
theorem dX8_widenByTaking_9 : decode cX8_widenByTaking 9 = .ok (.astore_n 3, 1) := by decide +kernel
theorem dX8_widenByTaking_10 : decode cX8_widenByTaking 10 = .ok (.aload_n 0, 1) := by decide +kernel
theorem dX8_widenByTaking_11 : decode cX8_widenByTaking 11 = .ok (.getfield 36, 3) := by decide +kernel
theorem dX8_widenByTaking_14 : decode cX8_widenByTaking 14 = .ok (.getfield 68, 3) := by decide +kernel
theorem dX8_widenByTaking_17 : decode cX8_widenByTaking 17 = .ok (.iload_n 2, 1) := by decide +kernel
theorem dX8_widenByTaking_18 : decode cX8_widenByTaking 18 = .ok (.aaload, 1) := by decide +kernel
theorem dX8_widenByTaking_19 : decode cX8_widenByTaking 19 = .ok (.astore 4, 2) := by decide +kernel
theorem dX8_widenByTaking_21 : decode cX8_widenByTaking 21 = .ok (.aload_n 0, 1) := by decide +kernel
theorem dX8_widenByTaking_22 : decode cX8_widenByTaking 22 = .ok (.aload_n 0, 1) := by decide +kernel
theorem dX8_widenByTaking_23 : decode cX8_widenByTaking 23 = .ok (.getfield 18, 3) := by decide +kernel
theorem dX8_widenByTaking_26 : decode cX8_widenByTaking 26 = .ok (.aload_n 3, 1) := by decide +kernel
theorem dX8_widenByTaking_27 : decode cX8_widenByTaking 27 = .ok (.getfield 130, 3) := by decide +kernel
theorem dX8_widenByTaking_30 : decode cX8_widenByTaking 30 = .ok (.aload 4, 2) := by decide +kernel
theorem dX8_widenByTaking_32 : decode cX8_widenByTaking 32 = .ok (.getfield 132, 3) := by decide +kernel
theorem dX8_widenByTaking_35 : decode cX8_widenByTaking 35 = .ok (.lsub, 1) := by decide +kernel
theorem dX8_widenByTaking_36 : decode cX8_widenByTaking 36 = .ok (.aload_n 0, 1) := by decide +kernel
theorem dX8_widenByTaking_37 : decode cX8_widenByTaking 37 = .ok (.getfield 9, 3) := by decide +kernel
theorem dX8_widenByTaking_40 : decode cX8_widenByTaking 40 = .ok (.iload_n 1, 1) := by decide +kernel
theorem dX8_widenByTaking_41 : decode cX8_widenByTaking 41 = .ok (.laload, 1) := by decide +kernel
theorem dX8_widenByTaking_42 : decode cX8_widenByTaking 42 = .ok (.ladd, 1) := by decide +kernel
theorem dX8_widenByTaking_43 : decode cX8_widenByTaking 43 = .ok (.invokestatic 147, 3) := by decide +kernel
theorem dX8_widenByTaking_46 : decode cX8_widenByTaking 46 = .ok (.putfield 18, 3) := by decide +kernel
theorem dX8_widenByTaking_49 : decode cX8_widenByTaking 49 = .ok (.aload_n 0, 1) := by decide +kernel
theorem dX8_widenByTaking_50 : decode cX8_widenByTaking 50 = .ok (.aload_n 0, 1) := by decide +kernel
theorem dX8_widenByTaking_51 : decode cX8_widenByTaking 51 = .ok (.getfield 22, 3) := by decide +kernel
theorem dX8_widenByTaking_54 : decode cX8_widenByTaking 54 = .ok (.aload_n 3, 1) := by decide +kernel
theorem dX8_widenByTaking_55 : decode cX8_widenByTaking 55 = .ok (.getfield 132, 3) := by decide +kernel
theorem dX8_widenByTaking_58 : decode cX8_widenByTaking 58 = .ok (.aload 4, 2) := by decide +kernel
theorem dX8_widenByTaking_60 : decode cX8_widenByTaking 60 = .ok (.getfield 130, 3) := by decide +kernel
theorem dX8_widenByTaking_63 : decode cX8_widenByTaking 63 = .ok (.lsub, 1) := by decide +kernel
theorem dX8_widenByTaking_64 : decode cX8_widenByTaking 64 = .ok (.aload_n 0, 1) := by decide +kernel
theorem dX8_widenByTaking_65 : decode cX8_widenByTaking 65 = .ok (.getfield 15, 3) := by decide +kernel
theorem dX8_widenByTaking_68 : decode cX8_widenByTaking 68 = .ok (.iload_n 1, 1) := by decide +kernel
theorem dX8_widenByTaking_69 : decode cX8_widenByTaking 69 = .ok (.laload, 1) := by decide +kernel
theorem dX8_widenByTaking_70 : decode cX8_widenByTaking 70 = .ok (.ladd, 1) := by decide +kernel
theorem dX8_widenByTaking_71 : decode cX8_widenByTaking 71 = .ok (.invokestatic 109, 3) := by decide +kernel
theorem dX8_widenByTaking_74 : decode cX8_widenByTaking 74 = .ok (.putfield 22, 3) := by decide +kernel
theorem dX8_widenByTaking_77 : decode cX8_widenByTaking 77 = .ok (.return_, 1) := by decide +kernel
theorem dX8_showScale_0 : decode cX8_showScale 0 = .ok (.aload_n 0, 1) := by decide +kernel
theorem dX8_showScale_1 : decode cX8_showScale 1 = .ok (.aload_n 1, 1) := by decide +kernel
theorem dX8_showScale_2 : decode cX8_showScale 2 = .ok (.getfield 80, 3) := by decide +kernel
theorem dX8_showScale_5 : decode cX8_showScale 5 = .ok (.invokevirtual 83, 3) := by decide +kernel
theorem dX8_showScale_8 : decode cX8_showScale 8 = .ok (.ifCond .eq 10, 3) := by decide +kernel
theorem dX8_showScale_18 : decode cX8_showScale 18 = .ok (.return_, 1) := by decide +kernel
theorem dX8_showScale_11 : decode cX8_showScale 11 = .ok (.aload_n 1, 1) := by decide +kernel
theorem dX8_showScale_12 : decode cX8_showScale 12 = .ok (.getfield 141, 3) := by decide +kernel
theorem dX8_showScale_15 : decode cX8_showScale 15 = .ok (.ifCond .ne 4, 3) := by decide +kernel
theorem dX8_showScale_19 : decode cX8_showScale 19 = .ok (.aload_n 0, 1) := by decide +kernel
theorem dX8_showScale_20 : decode cX8_showScale 20 = .ok (.getfield 9, 3) := by decide +kernel
theorem dX8_showScale_23 : decode cX8_showScale 23 = .ok (.aload_n 1, 1) := by decide +kernel
theorem dX8_showScale_24 : decode cX8_showScale 24 = .ok (.getfield 80, 3) := by decide +kernel
theorem dX8_showScale_27 : decode cX8_showScale 27 = .ok (.laload, 1) := by decide +kernel
theorem dX8_showScale_28 : decode cX8_showScale 28 = .ok (.aload_n 1, 1) := by decide +kernel
theorem dX8_showScale_29 : decode cX8_showScale 29 = .ok (.getfield 144, 3) := by decide +kernel
theorem dX8_showScale_32 : decode cX8_showScale 32 = .ok (.i2l, 1) := by decide +kernel
theorem dX8_showScale_33 : decode cX8_showScale 33 = .ok (.lmul, 1) := by decide +kernel
theorem dX8_showScale_34 : decode cX8_showScale 34 = .ok (.lstore_n 2, 1) := by decide +kernel
theorem dX8_showScale_35 : decode cX8_showScale 35 = .ok (.aload_n 0, 1) := by decide +kernel
theorem dX8_showScale_36 : decode cX8_showScale 36 = .ok (.getfield 15, 3) := by decide +kernel
theorem dX8_showScale_39 : decode cX8_showScale 39 = .ok (.aload_n 1, 1) := by decide +kernel
theorem dX8_showScale_40 : decode cX8_showScale 40 = .ok (.getfield 80, 3) := by decide +kernel
theorem dX8_showScale_43 : decode cX8_showScale 43 = .ok (.laload, 1) := by decide +kernel
theorem dX8_showScale_44 : decode cX8_showScale 44 = .ok (.aload_n 1, 1) := by decide +kernel
theorem dX8_showScale_45 : decode cX8_showScale 45 = .ok (.getfield 144, 3) := by decide +kernel
theorem dX8_showScale_48 : decode cX8_showScale 48 = .ok (.i2l, 1) := by decide +kernel
theorem dX8_showScale_49 : decode cX8_showScale 49 = .ok (.lmul, 1) := by decide +kernel
theorem dX8_showScale_50 : decode cX8_showScale 50 = .ok (.lstore 4, 2) := by decide +kernel
theorem dX8_showScale_52 : decode cX8_showScale 52 = .ok (.aload_n 1, 1) := by decide +kernel
theorem dX8_showScale_53 : decode cX8_showScale 53 = .ok (.getfield 141, 3) := by decide +kernel
theorem dX8_showScale_56 : decode cX8_showScale 56 = .ok (.i2l, 1) := by decide +kernel
theorem dX8_showScale_57 : decode cX8_showScale 57 = .ok (.lstore 6, 2) := by decide +kernel
theorem dX8_showScale_59 : decode cX8_showScale 59 = .ok (.aload_n 0, 1) := by decide +kernel
theorem dX8_showScale_60 : decode cX8_showScale 60 = .ok (.lload_n 2, 1) := by decide +kernel
theorem dX8_showScale_61 : decode cX8_showScale 61 = .ok (.lload 4, 2) := by decide +kernel
theorem dX8_showScale_63 : decode cX8_showScale 63 = .ok (.invokestatic 147, 3) := by decide +kernel
theorem dX8_showScale_66 : decode cX8_showScale 66 = .ok (.lload 6, 2) := by decide +kernel
theorem dX8_showScale_68 : decode cX8_showScale 68 = .ok (.invokestatic 149, 3) := by decide +kernel
theorem dX8_showScale_71 : decode cX8_showScale 71 = .ok (.lconst 1, 1) := by decide +kernel
theorem dX8_showScale_72 : decode cX8_showScale 72 = .ok (.lsub, 1) := by decide +kernel
theorem dX8_showScale_73 : decode cX8_showScale 73 = .ok (.lload_n 2, 1) := by decide +kernel
theorem dX8_showScale_74 : decode cX8_showScale 74 = .ok (.lload 4, 2) := by decide +kernel
theorem dX8_showScale_76 : decode cX8_showScale 76 = .ok (.invokestatic 109, 3) := by decide +kernel
theorem dX8_showScale_79 : decode cX8_showScale 79 = .ok (.lneg, 1) := by decide +kernel
theorem dX8_showScale_80 : decode cX8_showScale 80 = .ok (.lload 6, 2) := by decide +kernel
theorem dX8_showScale_82 : decode cX8_showScale 82 = .ok (.invokestatic 149, 3) := by decide +kernel
theorem dX8_showScale_85 : decode cX8_showScale 85 = .ok (.lneg, 1) := by decide +kernel
theorem dX8_showScale_86 : decode cX8_showScale 86 = .ok (.lconst 1, 1) := by decide +kernel
theorem dX8_showScale_87 : decode cX8_showScale 87 = .ok (.ladd, 1) := by decide +kernel
theorem dX8_showScale_88 : decode cX8_showScale 88 = .ok (.invokevirtual 116, 3) := by decide +kernel
theorem dX8_showScale_91 : decode cX8_showScale 91 = .ok (.return_, 1) := by decide +kernel
theorem dX8_showPick_0 : decode cX8_showPick 0 = .ok (.aload_n 0, 1) := by decide +kernel
theorem dX8_showPick_1 : decode cX8_showPick 1 = .ok (.aload_n 0, 1) := by decide +kernel
theorem dX8_showPick_2 : decode cX8_showPick 2 = .ok (.getfield 9, 3) := by decide +kernel
theorem dX8_showPick_5 : decode cX8_showPick 5 = .ok (.aload_n 1, 1) := by decide +kernel
theorem dX8_showPick_6 : decode cX8_showPick 6 = .ok (.getfield 80, 3) := by decide +kernel
theorem dX8_showPick_9 : decode cX8_showPick 9 = .ok (.laload, 1) := by decide +kernel
theorem dX8_showPick_10 : decode cX8_showPick 10 = .ok (.aload_n 0, 1) := by decide +kernel
theorem dX8_showPick_11 : decode cX8_showPick 11 = .ok (.getfield 9, 3) := by decide +kernel
theorem dX8_showPick_14 : decode cX8_showPick 14 = .ok (.aload_n 1, 1) := by decide +kernel
theorem dX8_showPick_15 : decode cX8_showPick 15 = .ok (.getfield 113, 3) := by decide +kernel
theorem dX8_showPick_18 : decode cX8_showPick 18 = .ok (.laload, 1) := by decide +kernel
theorem dX8_showPick_19 : decode cX8_showPick 19 = .ok (.invokestatic 147, 3) := by decide +kernel
theorem dX8_showPick_22 : decode cX8_showPick 22 = .ok (.aload_n 0, 1) := by decide +kernel
theorem dX8_showPick_23 : decode cX8_showPick 23 = .ok (.getfield 15, 3) := by decide +kernel
theorem dX8_showPick_26 : decode cX8_showPick 26 = .ok (.aload_n 1, 1) := by decide +kernel
theorem dX8_showPick_27 : decode cX8_showPick 27 = .ok (.getfield 80, 3) := by decide +kernel
theorem dX8_showPick_30 : decode cX8_showPick 30 = .ok (.laload, 1) := by decide +kernel
theorem dX8_showPick_31 : decode cX8_showPick 31 = .ok (.aload_n 0, 1) := by decide +kernel
theorem dX8_showPick_32 : decode cX8_showPick 32 = .ok (.getfield 15, 3) := by decide +kernel
theorem dX8_showPick_35 : decode cX8_showPick 35 = .ok (.aload_n 1, 1) := by decide +kernel
theorem dX8_showPick_36 : decode cX8_showPick 36 = .ok (.getfield 113, 3) := by decide +kernel
theorem dX8_showPick_39 : decode cX8_showPick 39 = .ok (.laload, 1) := by decide +kernel
theorem dX8_showPick_40 : decode cX8_showPick 40 = .ok (.invokestatic 109, 3) := by decide +kernel
theorem dX8_showPick_43 : decode cX8_showPick 43 = .ok (.invokevirtual 116, 3) := by decide +kernel
theorem dX8_showPick_46 : decode cX8_showPick 46 = .ok (.aload_n 0, 1) := by decide +kernel
theorem dX8_showPick_47 : decode cX8_showPick 47 = .ok (.aload_n 1, 1) := by decide +kernel
theorem dX8_showPick_48 : decode cX8_showPick 48 = .ok (.getfield 152, 3) := by decide +kernel
theorem dX8_showPick_51 : decode cX8_showPick 51 = .ok (.invokevirtual 83, 3) := by decide +kernel
theorem dX8_showPick_54 : decode cX8_showPick 54 = .ok (.ifCond .ne 14, 3) := by decide +kernel
theorem dX8_showPick_68 : decode cX8_showPick 68 = .ok (.aload_n 0, 1) := by decide +kernel
theorem dX8_showPick_69 : decode cX8_showPick 69 = .ok (.aload_n 1, 1) := by decide +kernel
theorem dX8_showPick_70 : decode cX8_showPick 70 = .ok (.getfield 80, 3) := by decide +kernel
theorem dX8_showPick_73 : decode cX8_showPick 73 = .ok (.aload_n 1, 1) := by decide +kernel
theorem dX8_showPick_74 : decode cX8_showPick 74 = .ok (.getfield 113, 3) := by decide +kernel
theorem dX8_showPick_77 : decode cX8_showPick 77 = .ok (.invokevirtual 158, 3) := by decide +kernel
theorem dX8_showPick_80 : decode cX8_showPick 80 = .ok (.aload_n 0, 1) := by decide +kernel
theorem dX8_showPick_81 : decode cX8_showPick 81 = .ok (.aload_n 1, 1) := by decide +kernel
theorem dX8_showPick_82 : decode cX8_showPick 82 = .ok (.getfield 113, 3) := by decide +kernel
theorem dX8_showPick_85 : decode cX8_showPick 85 = .ok (.aload_n 1, 1) := by decide +kernel
theorem dX8_showPick_86 : decode cX8_showPick 86 = .ok (.getfield 80, 3) := by decide +kernel
theorem dX8_showPick_89 : decode cX8_showPick 89 = .ok (.invokevirtual 158, 3) := by decide +kernel
theorem dX8_showPick_92 : decode cX8_showPick 92 = .ok (.return_, 1) := by decide +kernel
theorem dX8_showPick_57 : decode cX8_showPick 57 = .ok (.aload_n 0, 1) := by decide +kernel
theorem dX8_showPick_58 : decode cX8_showPick 58 = .ok (.aload_n 1, 1) := by decide +kernel
theorem dX8_showPick_59 : decode cX8_showPick 59 = .ok (.getfield 155, 3) := by decide +kernel
theorem dX8_showPick_62 : decode cX8_showPick 62 = .ok (.invokevirtual 83, 3) := by decide +kernel
theorem dX8_showPick_65 : decode cX8_showPick 65 = .ok (.ifCond .eq 27, 3) := by decide +kernel
theorem dX8_showFromSteps_0 : decode cX8_showFromSteps 0 = .ok (.aload_n 1, 1) := by decide +kernel
theorem dX8_showFromSteps_1 : decode cX8_showFromSteps 1 = .ok (.getfield 80, 3) := by decide +kernel
theorem dX8_showFromSteps_4 : decode cX8_showFromSteps 4 = .ok (.istore_n 2, 1) := by decide +kernel
theorem dX8_showFromSteps_5 : decode cX8_showFromSteps 5 = .ok (.aload_n 1, 1) := by decide +kernel
theorem dX8_showFromSteps_6 : decode cX8_showFromSteps 6 = .ok (.getfield 113, 3) := by decide +kernel
theorem dX8_showFromSteps_9 : decode cX8_showFromSteps 9 = .ok (.istore_n 3, 1) := by decide +kernel
theorem dX8_showFromSteps_10 : decode cX8_showFromSteps 10 = .ok (.aload_n 1, 1) := by decide +kernel
theorem dX8_showFromSteps_11 : decode cX8_showFromSteps 11 = .ok (.getfield 75, 3) := by decide +kernel
theorem dX8_showFromSteps_14 : decode cX8_showFromSteps 14 = .ok (.tableswitch 113 2 5 #[30, 63, 96, 105], 30) := by decide +kernel
theorem dX8_showFromSteps_127 : decode cX8_showFromSteps 127 = .ok (.aload_n 0, 1) := by decide +kernel
theorem dX8_showFromSteps_128 : decode cX8_showFromSteps 128 = .ok (.aload_n 1, 1) := by decide +kernel
theorem dX8_showFromSteps_129 : decode cX8_showFromSteps 129 = .ok (.invokevirtual 127, 3) := by decide +kernel
theorem dX8_showFromSteps_132 : decode cX8_showFromSteps 132 = .ok (.return_, 1) := by decide +kernel
theorem dX8_showFromSteps_44 : decode cX8_showFromSteps 44 = .ok (.aload_n 0, 1) := by decide +kernel
theorem dX8_showFromSteps_45 : decode cX8_showFromSteps 45 = .ok (.aload_n 0, 1) := by decide +kernel
theorem dX8_showFromSteps_46 : decode cX8_showFromSteps 46 = .ok (.getfield 9, 3) := by decide +kernel
theorem dX8_showFromSteps_49 : decode cX8_showFromSteps 49 = .ok (.iload_n 2, 1) := by decide +kernel
theorem dX8_showFromSteps_50 : decode cX8_showFromSteps 50 = .ok (.laload, 1) := by decide +kernel
theorem dX8_showFromSteps_51 : decode cX8_showFromSteps 51 = .ok (.aload_n 0, 1) := by decide +kernel
theorem dX8_showFromSteps_52 : decode cX8_showFromSteps 52 = .ok (.getfield 9, 3) := by decide +kernel
theorem dX8_showFromSteps_55 : decode cX8_showFromSteps 55 = .ok (.iload_n 3, 1) := by decide +kernel
theorem dX8_showFromSteps_56 : decode cX8_showFromSteps 56 = .ok (.laload, 1) := by decide +kernel
theorem dX8_showFromSteps_57 : decode cX8_showFromSteps 57 = .ok (.ladd, 1) := by decide +kernel
theorem dX8_showFromSteps_58 : decode cX8_showFromSteps 58 = .ok (.aload_n 0, 1) := by decide +kernel
theorem dX8_showFromSteps_59 : decode cX8_showFromSteps 59 = .ok (.getfield 15, 3) := by decide +kernel
theorem dX8_showFromSteps_62 : decode cX8_showFromSteps 62 = .ok (.iload_n 2, 1) := by decide +kernel
theorem dX8_showFromSteps_63 : decode cX8_showFromSteps 63 = .ok (.laload, 1) := by decide +kernel
theorem dX8_showFromSteps_64 : decode cX8_showFromSteps 64 = .ok (.aload_n 0, 1) := by decide +kernel
theorem dX8_showFromSteps_65 : decode cX8_showFromSteps 65 = .ok (.getfield 15, 3) := by decide +kernel
theorem dX8_showFromSteps_68 : decode cX8_showFromSteps 68 = .ok (.iload_n 3, 1) := by decide +kernel
theorem dX8_showFromSteps_69 : decode cX8_showFromSteps 69 = .ok (.laload, 1) := by decide +kernel
theorem dX8_showFromSteps_70 : decode cX8_showFromSteps 70 = .ok (.ladd, 1) := by decide +kernel
theorem dX8_showFromSteps_71 : decode cX8_showFromSteps 71 = .ok (.invokevirtual 116, 3) := by decide +kernel
theorem dX8_showFromSteps_74 : decode cX8_showFromSteps 74 = .ok (.goto 58, 3) := by decide +kernel
theorem dX8_showFromSteps_77 : decode cX8_showFromSteps 77 = .ok (.aload_n 0, 1) := by decide +kernel
theorem dX8_showFromSteps_78 : decode cX8_showFromSteps 78 = .ok (.aload_n 0, 1) := by decide +kernel
theorem dX8_showFromSteps_79 : decode cX8_showFromSteps 79 = .ok (.getfield 9, 3) := by decide +kernel
theorem dX8_showFromSteps_82 : decode cX8_showFromSteps 82 = .ok (.iload_n 2, 1) := by decide +kernel
theorem dX8_showFromSteps_83 : decode cX8_showFromSteps 83 = .ok (.laload, 1) := by decide +kernel
theorem dX8_showFromSteps_84 : decode cX8_showFromSteps 84 = .ok (.aload_n 0, 1) := by decide +kernel
theorem dX8_showFromSteps_85 : decode cX8_showFromSteps 85 = .ok (.getfield 15, 3) := by decide +kernel
theorem dX8_showFromSteps_88 : decode cX8_showFromSteps 88 = .ok (.iload_n 3, 1) := by decide +kernel
theorem dX8_showFromSteps_89 : decode cX8_showFromSteps 89 = .ok (.laload, 1) := by decide +kernel
theorem dX8_showFromSteps_90 : decode cX8_showFromSteps 90 = .ok (.lsub, 1) := by decide +kernel
theorem dX8_showFromSteps_91 : decode cX8_showFromSteps 91 = .ok (.aload_n 0, 1) := by decide +kernel
theorem dX8_showFromSteps_92 : decode cX8_showFromSteps 92 = .ok (.getfield 15, 3) := by decide +kernel
theorem dX8_showFromSteps_95 : decode cX8_showFromSteps 95 = .ok (.iload_n 2, 1) := by decide +kernel
theorem dX8_showFromSteps_96 : decode cX8_showFromSteps 96 = .ok (.laload, 1) := by decide +kernel
theorem dX8_showFromSteps_97 : decode cX8_showFromSteps 97 = .ok (.aload_n 0, 1) := by decide +kernel
theorem dX8_showFromSteps_98 : decode cX8_showFromSteps 98 = .ok (.getfield 9, 3) := by decide +kernel
theorem dX8_showFromSteps_101 : decode cX8_showFromSteps 101 = .ok (.iload_n 3, 1) := by decide +kernel
theorem dX8_showFromSteps_102 : decode cX8_showFromSteps 102 = .ok (.laload, 1) := by decide +kernel
theorem dX8_showFromSteps_103 : decode cX8_showFromSteps 103 = .ok (.lsub, 1) := by decide +kernel
theorem dX8_showFromSteps_104 : decode cX8_showFromSteps 104 = .ok (.invokevirtual 116, 3) := by decide +kernel
theorem dX8_showFromSteps_107 : decode cX8_showFromSteps 107 = .ok (.goto 25, 3) := by decide +kernel
theorem dX8_showFromSteps_110 : decode cX8_showFromSteps 110 = .ok (.aload_n 0, 1) := by decide +kernel
theorem dX8_showFromSteps_111 : decode cX8_showFromSteps 111 = .ok (.iload_n 2, 1) := by decide +kernel
theorem dX8_showFromSteps_112 : decode cX8_showFromSteps 112 = .ok (.iload_n 3, 1) := by decide +kernel
theorem dX8_showFromSteps_113 : decode cX8_showFromSteps 113 = .ok (.invokevirtual 120, 3) := by decide +kernel
theorem dX8_showFromSteps_116 : decode cX8_showFromSteps 116 = .ok (.goto 16, 3) := by decide +kernel
theorem dX8_showFromSteps_119 : decode cX8_showFromSteps 119 = .ok (.aload_n 0, 1) := by decide +kernel
theorem dX8_showFromSteps_120 : decode cX8_showFromSteps 120 = .ok (.aload_n 1, 1) := by decide +kernel
theorem dX8_showFromSteps_121 : decode cX8_showFromSteps 121 = .ok (.invokevirtual 124, 3) := by decide +kernel
theorem dX8_showFromSteps_124 : decode cX8_showFromSteps 124 = .ok (.goto 8, 3) := by decide +kernel
theorem rx_cd17d5a19c : 1 ≤ 1 := by decide
theorem rx_be9bb8ec2b : 1 ≤ 4 := by decide
theorem rx_c20517e8ed : 1 ≤ 2 := by decide
theorem rx_16813831c6 : 2 ≤ 4 := by decide
theorem rx_0bd1d6dfed : 1 ≤ 3 := by decide
theorem rx_7960e1f0c9 : 3 ≤ 4 := by decide
theorem rx_e6c5051dfc : 4 ≤ 4 := by decide
def ow_k_set : List Cond := [.fieldLink RX8 18 "NearEnough$Shown" "least" "J", .fieldLink RX8 22 "NearEnough$Shown" "greatest" "J"]
def vs_k_set : List Cond := .code yX8_set cX8_set 5 none :: (ow_k_set ++ (wsX80))
theorem vg_k_set : vs_k_set.all goodWord = true := by decide +kernel
theorem dd_k_set : yX8_set.cls = RX8 ∧ yX8_set.cls ≠ "java/lang/invoke/MethodHandle" ∧ yX8_set.cls ≠ "java/lang/invoke/VarHandle" ∧ (parseMethodDescriptor yX8_set.desc).map (fun d => d.parameters.length) = some 2 := by decide +kernel
def rm_k_set : Room := { frames := 0, cells := 0, slots := 0, locals := 0 }
set_option maxHeartbeats 4000000 in
set_option maxRecDepth 100000 in
theorem k_set (l : Launch) (dC : Nat → ClassId) (dI : Nat → Nat → Nat) (κ : CE) (sz : Nat) (σ : MS) (x : Int64) (y : Int64) (hk : PInv κ) (hI : CInv σ)  : Met l yX8_set vs_k_set rm_k_set (va_Pc [.ref (kA κ 21), .long x, .long y] (wSy dC dI (cW κ σ) (cT κ) sz)) (va_Qv (fun (τ : MS) => CInv τ ∧ True) (fun (τ : MS) => wEn dC dI (va_A (cW κ σ) sz) (cW κ τ) []) (va_A (cW κ σ) sz)) 0 0 (va_A (cW κ σ) sz) := by
  refine Met.ofW (cc := cX8_set) (maxL := 5) (ret := none) (by decide +kernel) rfl ?_
  intro p e s m args below meth c s₁ B hml hv
  obtain ⟨rfl, hsz, hP, hK, hD0, hE⟩ := hv
  have hx := B.exec
  have hb := B.bytes
  have hr := B.returns
  have hts := atoms_spec (ws := vs_k_set) B.pre
  have hown : s.vm.findClass RX8 = some m.cls := findClass_of_methodNamed B.named
  have hlocks := B.notSynchronized
  subst hsz
  have hD := hD0.self (sz := s.heap.size)
  generalize hAe : va_A (cW κ σ) s.heap.size = A at hD ⊢
  have hA : ∀ q : Nat, s.heap.size ≤ q → A q := fun q h => by rw [← hAe]; exact Or.inr h
  have hl := lv_entry ([.ref (kA κ 21), .long x, .long y]) (n := 5) (Nat.le_of_ble_eq_true rfl)
  rw [lg_entry_eq]
  generalize (lg_sl ([.ref (kA κ 21), .long x, .long y]) ++ List.replicate (5 - (lg_sl ([.ref (kA κ 21), .long x, .long y])).length) Slot.unset).toArray = ls at hl ⊢
  have hl : lv_has ls 5 [(0, .ref (kA κ 21)), (1, .long x), (3, .long y)] := hl
  have ho := fun w (h : w ∈ ow_k_set) => hts w (List.mem_cons_of_mem _ (List.mem_append_left _ h))
  have hin8 : ∀ w ∈ u_ws RX8 TX8 9, w ∈ vs_k_set := fun w h => (List.mem_cons_of_mem _ (List.mem_append_right _ h))
  refine zQ (fun Q hQ => ?_)
  refine zH (A := A) (ws := (cW κ σ)) (fun H hP hS => ?_) hP
  have hk0 := hk.1
  have hk1 := hk.2.1
  have hk2 := hk.2.2.1
  refine lv_aload_n hx hb dX8_set_0 rfl (lv_at hl 0 rfl) ?_
  refine lv_lload_n hx hb dX8_set_1 rfl (lv_at hl 1 rfl) ?_
  refine va_put (D := (dC, dI)) (ci := 8) (v := .long x) (ty := tyX8 4) (C := RX8) (T := TX8) (N := 9) hx hb hts hin8 tyX8 tyX8_ok nmX8 hown hK hP hD hS 21 rfl rfl 4 (Nat.le_of_ble_eq_true rfl) (ho (.fieldLink RX8 18 "NearEnough$Shown" "least" "J") (List.mem_of_getElem? (i := 0) rfl)) (fun _ h9 => h9) rfl (tyX8_ok 4 (Nat.le_of_ble_eq_true rfl)) rfl rfl (Nat.le_of_ble_eq_true rfl) dX8_set_2 (fun H locs hP hD hS => ?_)
  have hP : va_P (dC, dI) vwCl (cW κ (sL σ 22 x)) H := hP
  have hD : va_D A (cW κ (sL σ 22 x)) := hD
  refine lv_aload_n hx hb dX8_set_5 rfl (lv_at hl 0 rfl) ?_
  refine lv_lload_n hx hb dX8_set_6 rfl (lv_at hl 2 rfl) ?_
  refine va_put (D := (dC, dI)) (ci := 8) (v := .long y) (ty := tyX8 5) (C := RX8) (T := TX8) (N := 9) hx hb hts hin8 tyX8 tyX8_ok nmX8 hown hK hP hD hS 21 rfl rfl 5 (Nat.le_of_ble_eq_true rfl) (ho (.fieldLink RX8 22 "NearEnough$Shown" "greatest" "J") (List.mem_of_getElem? (i := 1) rfl)) (fun _ h9 => h9) rfl (tyX8_ok 5 (Nat.le_of_ble_eq_true rfl)) rfl rfl (Nat.le_of_ble_eq_true rfl) dX8_set_7 (fun H locs hP hD hS => ?_)
  have hP : va_P (dC, dI) vwCl (cW κ (sL (sL σ 22 x) 23 y)) H := hP
  have hD : va_D A (cW κ (sL (sL σ 22 x) 23 y)) := hD
  rw [hQ]
  exact W.vret hx hb hr (fun t ht hW => ⟨⟨(sL (sL σ 22 x) 23 y), rfl, ⟨(CInv.sL (CInv.sL hI)), trivial⟩, wEn_of hP (hK.sub [] rfl) hD ht hW⟩, hS.F ht⟩) hS.2.2 dX8_set_10
def ow_k_errs : List Cond := [.fieldLink RX8 9 "NearEnough$Shown" "low" "[J", .fieldLink RX8 15 "NearEnough$Shown" "high" "[J"]
def vs_k_errs : List Cond := .code yX8_errs cX8_errs 2 (some .boolean) :: (ow_k_errs ++ (wsX80))
theorem vg_k_errs : vs_k_errs.all goodWord = true := by decide +kernel
theorem dd_k_errs : yX8_errs.cls = RX8 ∧ yX8_errs.cls ≠ "java/lang/invoke/MethodHandle" ∧ yX8_errs.cls ≠ "java/lang/invoke/VarHandle" ∧ (parseMethodDescriptor yX8_errs.desc).map (fun d => d.parameters.length) = some 1 := by decide +kernel
def rm_k_errs : Room := { frames := 0, cells := 0, slots := 0, locals := 0 }
set_option maxHeartbeats 4000000 in
set_option maxRecDepth 100000 in
theorem k_errs (l : Launch) (dC : Nat → ClassId) (dI : Nat → Nat → Nat) (κ : CE) (sz : Nat) (σ : MS) (x : Int32) (hk : PInv κ) (hI : CInv σ) (hx0 : 0 ≤ x.toInt ∧ x.toInt ≤ 11) : Met l yX8_errs vs_k_errs rm_k_errs (va_Pc [.ref (kA κ 21), .int x] (wSy dC dI (cW κ σ) (cT κ) sz)) (va_Qi (fun (r : Int32) (τ : MS) => τ = σ ∧ (r.toInt = 0 ∨ r.toInt = 1)) (fun (τ : MS) => wEn dC dI (va_A (cW κ σ) sz) (cW κ τ) []) (va_A (cW κ σ) sz)) 0 0 (va_A (cW κ σ) sz) := by
  refine Met.ofW (cc := cX8_errs) (maxL := 2) (ret := (some .boolean)) (by decide +kernel) rfl ?_
  intro p e s m args below meth c s₁ B hml hv
  obtain ⟨rfl, hsz, hP, hK, hD0, hE⟩ := hv
  have hx := B.exec
  have hb := B.bytes
  have hr := B.returns
  have hts := atoms_spec (ws := vs_k_errs) B.pre
  have hown : s.vm.findClass RX8 = some m.cls := findClass_of_methodNamed B.named
  have hlocks := B.notSynchronized
  subst hsz
  have hD := hD0.self (sz := s.heap.size)
  generalize hAe : va_A (cW κ σ) s.heap.size = A at hD ⊢
  have hA : ∀ q : Nat, s.heap.size ≤ q → A q := fun q h => by rw [← hAe]; exact Or.inr h
  have hl := lv_entry ([.ref (kA κ 21), .int x]) (n := 2) (Nat.le_of_ble_eq_true rfl)
  rw [lg_entry_eq]
  generalize (lg_sl ([.ref (kA κ 21), .int x]) ++ List.replicate (2 - (lg_sl ([.ref (kA κ 21), .int x])).length) Slot.unset).toArray = ls at hl ⊢
  have hl : lv_has ls 2 [(0, .ref (kA κ 21)), (1, .int x)] := hl
  have ho := fun w (h : w ∈ ow_k_errs) => hts w (List.mem_cons_of_mem _ (List.mem_append_left _ h))
  have hin8 : ∀ w ∈ u_ws RX8 TX8 9, w ∈ vs_k_errs := fun w h => (List.mem_cons_of_mem _ (List.mem_append_right _ h))
  refine zQ (fun Q hQ => ?_)
  refine zH (A := A) (ws := (cW κ σ)) (fun H hP hS => ?_) hP
  have hk0 := hk.1
  have hk1 := hk.2.1
  have hk2 := hk.2.2.1
  refine lv_aload_n hx hb dX8_errs_0 rfl (lv_at hl 0 rfl) ?_
  refine va_get (D := (dC, dI)) (ci := 8) (v := .ref (kA κ 22)) (C := RX8) (T := TX8) (N := 9) hx hb hts hin8 hown hK hP 21 rfl rfl 2 (Nat.le_of_ble_eq_true rfl) (ho (.fieldLink RX8 9 "NearEnough$Shown" "low" "[J") (List.mem_of_getElem? (i := 0) rfl)) (fun _ h9 => h9) rfl dX8_errs_1 ?_
  refine lv_iload_n hx hb dX8_errs_4 rfl (lv_at hl 1 rfl) ?_
  have o1 : 0 ≤ x.toInt := by omega
  have o2 : x.toInt < ((12 : Nat) : Int) := by omega
  refine va_lald hx hb hK hP 22 17 rfl rfl (ti_inx o1 o2) dX8_errs_5 ?_
  refine lv_topl (fun y1_ ey1_ => ?_)
  refine lv_lconst (v := 0) hx hb dX8_errs_6 (by decide) ?_
  refine W.lcmp hx hb dX8_errs_7 ?_
  refine lv_topi (fun z2_ ez2_ => ?_)
  refine lv_if_ne (tgt := 22) hx hb dX8_errs_8 rfl (fun c3_ => ?_) (fun c3_ => ?_)
  · have tc3_ := (show z2_.toInt ≠ 0 from ti_ne rfl rg_11 c3_)
    have lc3_ : ¬ y1_ = 0 := fun h => c3_ (by rw [ez2_]; exact (lg_cmp_eq y1_ 0).mpr h)
    refine lv_iconst (v := 1) hx hb dX8_errs_22 rg_6 ?_
    refine lv_goto (tgt := 27) hx hb dX8_errs_23 rfl ?_
    have kk4_ : (1 : Int32).toInt = 1 := rg_18
    have o3 : (1 : Int32).toInt = 0 ∨ (1 : Int32).toInt = 1 := by omega
    rw [hQ]
    exact W.zret (v := 1) hx hb hr rfl (fun t ht hW => ⟨⟨1, σ, rfl, ⟨rfl, o3⟩, wEn_of hP (hK.sub [] rfl) hD ht hW⟩, hS.F ht⟩) hS.2.2 dX8_errs_27
  · have tc3_ := (show z2_.toInt = 0 from ti_eq rfl rg_11 c3_)
    have lc3_ : y1_ = 0 := (lg_cmp_eq y1_ 0).mp (by rw [← ez2_]; exact c3_)
    refine lv_aload_n hx hb dX8_errs_11 rfl (lv_at hl 0 rfl) ?_
    refine va_get (D := (dC, dI)) (ci := 8) (v := .ref (kA κ 23)) (C := RX8) (T := TX8) (N := 9) hx hb hts hin8 hown hK hP 21 rfl rfl 3 (Nat.le_of_ble_eq_true rfl) (ho (.fieldLink RX8 15 "NearEnough$Shown" "high" "[J") (List.mem_of_getElem? (i := 1) rfl)) (fun _ h9 => h9) rfl dX8_errs_12 ?_
    refine lv_iload_n hx hb dX8_errs_15 rfl (lv_at hl 1 rfl) ?_
    refine va_lald hx hb hK hP 23 18 rfl rfl (ti_inx o1 o2) dX8_errs_16 ?_
    refine lv_topl (fun y5_ ey5_ => ?_)
    refine lv_lconst (v := 0) hx hb dX8_errs_17 (by decide) ?_
    refine W.lcmp hx hb dX8_errs_18 ?_
    refine lv_topi (fun z6_ ez6_ => ?_)
    refine lv_if_eq (tgt := 26) hx hb dX8_errs_19 rfl (fun c7_ => ?_) (fun c7_ => ?_)
    · have tc7_ := (show z6_.toInt = 0 from ti_eq rfl rg_11 c7_)
      have lc7_ : y5_ = 0 := (lg_cmp_eq y5_ 0).mp (by rw [← ez6_]; exact c7_)
      refine lv_iconst (v := 0) hx hb dX8_errs_26 rg_0 ?_
      have kk8_ : (0 : Int32).toInt = 0 := rg_11
      have o4 : (0 : Int32).toInt = 0 ∨ (0 : Int32).toInt = 1 := by omega
      rw [hQ]
      exact W.zret (v := 0) hx hb hr rfl (fun t ht hW => ⟨⟨0, σ, rfl, ⟨rfl, o4⟩, wEn_of hP (hK.sub [] rfl) hD ht hW⟩, hS.F ht⟩) hS.2.2 dX8_errs_27
    · have tc7_ := (show z6_.toInt ≠ 0 from ti_ne rfl rg_11 c7_)
      have lc7_ : ¬ y5_ = 0 := fun h => c7_ (by rw [ez6_]; exact (lg_cmp_eq y5_ 0).mpr h)
      refine lv_iconst (v := 1) hx hb dX8_errs_22 rg_6 ?_
      refine lv_goto (tgt := 27) hx hb dX8_errs_23 rfl ?_
      have kk9_ : (1 : Int32).toInt = 1 := rg_18
      have o5 : (1 : Int32).toInt = 0 ∨ (1 : Int32).toInt = 1 := by omega
      rw [hQ]
      exact W.zret (v := 1) hx hb hr rfl (fun t ht hW => ⟨⟨1, σ, rfl, ⟨rfl, o5⟩, wEn_of hP (hK.sub [] rfl) hD ht hW⟩, hS.F ht⟩) hS.2.2 dX8_errs_27
def ow_k_farOff : List Cond := [.fieldLink RX8 9 "NearEnough$Shown" "low" "[J", .fieldLink RX8 15 "NearEnough$Shown" "high" "[J", .methodLink RX8 109 Lib.MathLoose.max_long.x, .static Lib.MathLoose.max_long.x, .initialized "java/lang/Math", .code Lib.MathLoose.max_long.x Lib.MathLoose.max_long.code 4 (some .long)]
def vs_k_farOff : List Cond := .code yX8_farOff cX8_farOff 2 (some .long) :: (ow_k_farOff ++ (wsX80))
theorem vg_k_farOff : vs_k_farOff.all goodWord = true := by decide +kernel
theorem dd_k_farOff : yX8_farOff.cls = RX8 ∧ yX8_farOff.cls ≠ "java/lang/invoke/MethodHandle" ∧ yX8_farOff.cls ≠ "java/lang/invoke/VarHandle" ∧ (parseMethodDescriptor yX8_farOff.desc).map (fun d => d.parameters.length) = some 1 := by decide +kernel
def rm_k_farOff : Room := { frames := 1, cells := 0, slots := 0, locals := 24 }
set_option maxHeartbeats 4000000 in
set_option maxRecDepth 100000 in
theorem k_farOff (l : Launch) (dC : Nat → ClassId) (dI : Nat → Nat → Nat) (κ : CE) (sz : Nat) (σ : MS) (x : Int32) (hk : PInv κ) (hI : CInv σ) (hx0 : 0 ≤ x.toInt ∧ x.toInt ≤ 11) : Met l yX8_farOff vs_k_farOff rm_k_farOff (va_Pc [.ref (kA κ 21), .int x] (wSy dC dI (cW κ σ) (cT κ) sz)) (va_Ql (fun (r : Int64) (τ : MS) => τ = σ ∧ True) (fun (τ : MS) => wEn dC dI (va_A (cW κ σ) sz) (cW κ τ) []) (va_A (cW κ σ) sz)) 0 0 (va_A (cW κ σ) sz) := by
  refine Met.ofW (cc := cX8_farOff) (maxL := 2) (ret := (some .long)) (by decide +kernel) rfl ?_
  intro p e s m args below meth c s₁ B hml hv
  obtain ⟨rfl, hsz, hP, hK, hD0, hE⟩ := hv
  have hx := B.exec
  have hb := B.bytes
  have hr := B.returns
  have hts := atoms_spec (ws := vs_k_farOff) B.pre
  have hown : s.vm.findClass RX8 = some m.cls := findClass_of_methodNamed B.named
  have hlocks := B.notSynchronized
  subst hsz
  have hD := hD0.self (sz := s.heap.size)
  generalize hAe : va_A (cW κ σ) s.heap.size = A at hD ⊢
  have hA : ∀ q : Nat, s.heap.size ≤ q → A q := fun q h => by rw [← hAe]; exact Or.inr h
  have hl := lv_entry ([.ref (kA κ 21), .int x]) (n := 2) (Nat.le_of_ble_eq_true rfl)
  rw [lg_entry_eq]
  generalize (lg_sl ([.ref (kA κ 21), .int x]) ++ List.replicate (2 - (lg_sl ([.ref (kA κ 21), .int x])).length) Slot.unset).toArray = ls at hl ⊢
  have hl : lv_has ls 2 [(0, .ref (kA κ 21)), (1, .int x)] := hl
  have ho := fun w (h : w ∈ ow_k_farOff) => hts w (List.mem_cons_of_mem _ (List.mem_append_left _ h))
  have hin8 : ∀ w ∈ u_ws RX8 TX8 9, w ∈ vs_k_farOff := fun w h => (List.mem_cons_of_mem _ (List.mem_append_right _ h))
  refine zQ (fun Q hQ => ?_)
  refine zH (A := A) (ws := (cW κ σ)) (fun H hP hS => ?_) hP
  have hk0 := hk.1
  have hk1 := hk.2.1
  have hk2 := hk.2.2.1
  refine lv_aload_n hx hb dX8_farOff_0 rfl (lv_at hl 0 rfl) ?_
  refine va_get (D := (dC, dI)) (ci := 8) (v := .ref (kA κ 22)) (C := RX8) (T := TX8) (N := 9) hx hb hts hin8 hown hK hP 21 rfl rfl 2 (Nat.le_of_ble_eq_true rfl) (ho (.fieldLink RX8 9 "NearEnough$Shown" "low" "[J") (List.mem_of_getElem? (i := 0) rfl)) (fun _ h9 => h9) rfl dX8_farOff_1 ?_
  refine lv_iload_n hx hb dX8_farOff_4 rfl (lv_at hl 1 rfl) ?_
  have o1 : 0 ≤ x.toInt := by omega
  have o2 : x.toInt < ((12 : Nat) : Int) := by omega
  refine va_lald hx hb hK hP 22 17 rfl rfl (ti_inx o1 o2) dX8_farOff_5 ?_
  refine lv_topl (fun y1_ ey1_ => ?_)
  refine lv_lneg hx hb dX8_farOff_6 ?_
  refine lv_topl (fun y2_ ey2_ => ?_)
  refine lv_aload_n hx hb dX8_farOff_7 rfl (lv_at hl 0 rfl) ?_
  refine va_get (D := (dC, dI)) (ci := 8) (v := .ref (kA κ 23)) (C := RX8) (T := TX8) (N := 9) hx hb hts hin8 hown hK hP 21 rfl rfl 3 (Nat.le_of_ble_eq_true rfl) (ho (.fieldLink RX8 15 "NearEnough$Shown" "high" "[J") (List.mem_of_getElem? (i := 1) rfl)) (fun _ h9 => h9) rfl dX8_farOff_8 ?_
  refine lv_iload_n hx hb dX8_farOff_11 rfl (lv_at hl 1 rfl) ?_
  refine va_lald hx hb hK hP 23 18 rfl rfl (ti_inx o1 o2) dX8_farOff_12 ?_
  refine lv_topl (fun y3_ ey3_ => ?_)
  refine va_mmax_long hx hb (hml.trans hl.1.symm) hown (ho (.methodLink RX8 109 Lib.MathLoose.max_long.x) (List.mem_of_getElem? (i := 2) rfl)) (ho (.static Lib.MathLoose.max_long.x) (List.mem_of_getElem? (i := 3) rfl)) (ho (.initialized "java/lang/Math") (List.mem_of_getElem? (i := 4) rfl)) (ho (.code Lib.MathLoose.max_long.x Lib.MathLoose.max_long.code 4 (some .long)) (List.mem_of_getElem? (i := 5) rfl)) (Nat.le_of_ble_eq_true rfl) (Nat.le_of_ble_eq_true rfl) (Nat.le_of_ble_eq_true rfl) (Nat.le_of_ble_eq_true rfl) dX8_farOff_13 ?_
  refine lv_topl (fun y4_ ey4_ => ?_)
  rw [hQ]
  exact W.lret (v := y4_) hx hb hr (fun t ht hW => ⟨⟨y4_, σ, rfl, ⟨rfl, trivial⟩, wEn_of hP (hK.sub [] rfl) hD ht hW⟩, hS.F ht⟩) hS.2.2 dX8_farOff_16
def ow_k_showTimes : List Cond := [.fieldLink RX8 36 "NearEnough$Shown" "told" "LNearEnough$Program;", .fieldLink RX8 68 "NearEnough$Program" "steps" "[LNearEnough$Step;", .fieldLink RX8 130 "NearEnough$Step" "low" "J", .fieldLink RX8 132 "NearEnough$Step" "high" "J", .fieldLink RX8 9 "NearEnough$Shown" "low" "[J", .fieldLink RX8 15 "NearEnough$Shown" "high" "[J"]
def vs_k_showTimes : List Cond := .code yX8_showTimes cX8_showTimes 5 none :: (ow_k_showTimes ++ (([.methodLink RX8 134 yX8_leastProduct, .static yX8_leastProduct, .initialized yX8_leastProduct.cls] : List Cond) ++ (vs_k_leastP ++ (([.methodLink RX8 138 yX8_greatestProduct, .static yX8_greatestProduct, .initialized yX8_greatestProduct.cls] : List Cond) ++ (vs_k_greatP ++ (([.methodLink RX8 116 yX8_set, .instanceMethod yX8_set, .selects RX8 yX8_set yX8_set, .initialized RX8] : List Cond) ++ (vs_k_set ++ (wsX30 ++ (wsX80 ++ (wsX90))))))))))
theorem vg_k_showTimes : vs_k_showTimes.all goodWord = true := by decide +kernel
theorem dd_k_showTimes : yX8_showTimes.cls = RX8 ∧ yX8_showTimes.cls ≠ "java/lang/invoke/MethodHandle" ∧ yX8_showTimes.cls ≠ "java/lang/invoke/VarHandle" ∧ (parseMethodDescriptor yX8_showTimes.desc).map (fun d => d.parameters.length) = some 2 := by decide +kernel
def rm_k_showTimes : Room := { frames := 2, cells := 0, slots := 0, locals := 51 }
theorem gd_k_showTimes_134_k_leastP : GoodIn vs_k_showTimes (va_wsS RX8 134 yX8_leastProduct vs_k_leastP) := goodIn_app (goodIn_sub (fun w h => (List.mem_cons_of_mem _ (List.mem_append_right _ (List.mem_append_left _ h)))) (by decide +kernel)) (goodIn_sub (fun w h => (List.mem_cons_of_mem _ (List.mem_append_right _ (List.mem_append_right _ (List.mem_append_left _ h))))) vg_k_leastP)
theorem gd_k_showTimes_138_k_greatP : GoodIn vs_k_showTimes (va_wsS RX8 138 yX8_greatestProduct vs_k_greatP) := goodIn_app (goodIn_sub (fun w h => (List.mem_cons_of_mem _ (List.mem_append_right _ (List.mem_append_right _ (List.mem_append_right _ (List.mem_append_left _ h)))))) (by decide +kernel)) (goodIn_sub (fun w h => (List.mem_cons_of_mem _ (List.mem_append_right _ (List.mem_append_right _ (List.mem_append_right _ (List.mem_append_right _ (List.mem_append_left _ h))))))) vg_k_greatP)
theorem gd_k_showTimes_116_k_set : GoodIn vs_k_showTimes (wsV RX8 116 RX8 yX8_set vs_k_set) := goodIn_app (goodIn_sub (fun w h => (List.mem_cons_of_mem _ (List.mem_append_right _ (List.mem_append_right _ (List.mem_append_right _ (List.mem_append_right _ (List.mem_append_right _ (List.mem_append_left _ h)))))))) (by decide +kernel)) (goodIn_sub (fun w h => (List.mem_cons_of_mem _ (List.mem_append_right _ (List.mem_append_right _ (List.mem_append_right _ (List.mem_append_right _ (List.mem_append_right _ (List.mem_append_right _ (List.mem_append_left _ h))))))))) vg_k_set)
set_option maxHeartbeats 4000000 in
set_option maxRecDepth 100000 in
theorem k_showTimes (l : Launch) (dC : Nat → ClassId) (dI : Nat → Nat → Nat) (κ : CE) (sz : Nat) (σ : MS) (x : Int32) (y : Int32) (hk : PInv κ) (hI : CInv σ) (hx0 : 0 ≤ x.toInt ∧ x.toInt < (pI κ 1).toInt) (hy0 : 0 ≤ y.toInt ∧ y.toInt < (pI κ 1).toInt) : Met l yX8_showTimes vs_k_showTimes rm_k_showTimes (va_Pc [.ref (kA κ 21), .int x, .int y] (wSy dC dI (cW κ σ) (cT κ) sz)) (va_Qv (fun (τ : MS) => CInv τ ∧ True) (fun (τ : MS) => wEn dC dI (va_A (cW κ σ) sz) (cW κ τ) []) (va_A (cW κ σ) sz)) 0 0 (va_A (cW κ σ) sz) := by
  refine Met.ofW (cc := cX8_showTimes) (maxL := 5) (ret := none) (by decide +kernel) rfl ?_
  intro p e s m args below meth c s₁ B hml hv
  obtain ⟨rfl, hsz, hP, hK, hD0, hE⟩ := hv
  have hx := B.exec
  have hb := B.bytes
  have hr := B.returns
  have hts := atoms_spec (ws := vs_k_showTimes) B.pre
  have hown : s.vm.findClass RX8 = some m.cls := findClass_of_methodNamed B.named
  have hlocks := B.notSynchronized
  subst hsz
  have hD := hD0.self (sz := s.heap.size)
  generalize hAe : va_A (cW κ σ) s.heap.size = A at hD ⊢
  have hA : ∀ q : Nat, s.heap.size ≤ q → A q := fun q h => by rw [← hAe]; exact Or.inr h
  have hl := lv_entry ([.ref (kA κ 21), .int x, .int y]) (n := 5) (Nat.le_of_ble_eq_true rfl)
  rw [lg_entry_eq]
  generalize (lg_sl ([.ref (kA κ 21), .int x, .int y]) ++ List.replicate (5 - (lg_sl ([.ref (kA κ 21), .int x, .int y])).length) Slot.unset).toArray = ls at hl ⊢
  have hl : lv_has ls 5 [(0, .ref (kA κ 21)), (1, .int x), (2, .int y)] := hl
  have ho := fun w (h : w ∈ ow_k_showTimes) => hts w (List.mem_cons_of_mem _ (List.mem_append_left _ h))
  have hin3 : ∀ w ∈ u_ws RX3 TX3 8, w ∈ vs_k_showTimes := fun w h => (List.mem_cons_of_mem _ (List.mem_append_right _ (List.mem_append_right _ (List.mem_append_right _ (List.mem_append_right _ (List.mem_append_right _ (List.mem_append_right _ (List.mem_append_right _ (List.mem_append_left _ h)))))))))
  have hin8 : ∀ w ∈ u_ws RX8 TX8 9, w ∈ vs_k_showTimes := fun w h => (List.mem_cons_of_mem _ (List.mem_append_right _ (List.mem_append_right _ (List.mem_append_right _ (List.mem_append_right _ (List.mem_append_right _ (List.mem_append_right _ (List.mem_append_right _ (List.mem_append_right _ (List.mem_append_left _ h))))))))))
  have hin9 : ∀ w ∈ u_ws RX9 TX9 11, w ∈ vs_k_showTimes := fun w h => (List.mem_cons_of_mem _ (List.mem_append_right _ (List.mem_append_right _ (List.mem_append_right _ (List.mem_append_right _ (List.mem_append_right _ (List.mem_append_right _ (List.mem_append_right _ (List.mem_append_right _ (List.mem_append_right _ h))))))))))
  refine zQ (fun Q hQ => ?_)
  refine zH (A := A) (ws := (cW κ σ)) (fun H hP hS => ?_) hP
  have hk0 := hk.1
  have hk1 := hk.2.1
  have hk2 := hk.2.2.1
  refine lv_aload_n hx hb dX8_showTimes_0 rfl (lv_at hl 0 rfl) ?_
  refine va_get (D := (dC, dI)) (ci := 8) (v := .ref (kA κ 6)) (C := RX8) (T := TX8) (N := 9) hx hb hts hin8 hown hK hP 21 rfl rfl 0 (Nat.le_of_ble_eq_true rfl) (ho (.fieldLink RX8 36 "NearEnough$Shown" "told" "LNearEnough$Program;") (List.mem_of_getElem? (i := 0) rfl)) (fun _ h9 => h9) rfl dX8_showTimes_1 ?_
  refine va_get (D := (dC, dI)) (ci := 3) (v := .ref (kA κ 8)) (C := RX3) (T := TX3) (N := 8) hx hb hts hin3 hown hK hP 6 rfl rfl 1 (Nat.le_of_ble_eq_true rfl) (ho (.fieldLink RX8 68 "NearEnough$Program" "steps" "[LNearEnough$Step;") (List.mem_of_getElem? (i := 1) rfl)) (fun _ h9 => h9) rfl dX8_showTimes_4 ?_
  refine lv_iload_n hx hb dX8_showTimes_7 rfl (lv_at hl 1 rfl) ?_
  have o1 : 0 ≤ x.toInt := by omega
  have o2 : x.toInt < ((12 : Nat) : Int) := by omega
  refine va_aldq hx hb hK hP 8 6 rfl rfl (ti_inx o1 o2) dX8_showTimes_8 ?_
  have o3 : x.toInt < (pI κ 1).toInt := by omega
  obtain ⟨a1_, t2_, ea3_, ga4_⟩ := hk.st (x := x) o1 o3
  refine zv (v := .ref a1_) (by rw [ea3_]; rfl) ?_
  refine lv_astore_n (lv' := [(3, .ref a1_), (0, .ref (kA κ 21)), (1, .int x), (2, .int y)]) hx hb dX8_showTimes_9 rfl hl (Nat.le_of_ble_eq_true rfl) rfl (fun ls hl => ?_)
  refine lv_aload_n hx hb dX8_showTimes_10 rfl (lv_at hl 1 rfl) ?_
  refine va_get (D := (dC, dI)) (ci := 8) (v := .ref (kA κ 6)) (C := RX8) (T := TX8) (N := 9) hx hb hts hin8 hown hK hP 21 rfl rfl 0 (Nat.le_of_ble_eq_true rfl) (ho (.fieldLink RX8 36 "NearEnough$Shown" "told" "LNearEnough$Program;") (List.mem_of_getElem? (i := 0) rfl)) (fun _ h9 => h9) rfl dX8_showTimes_11 ?_
  refine va_get (D := (dC, dI)) (ci := 3) (v := .ref (kA κ 8)) (C := RX3) (T := TX3) (N := 8) hx hb hts hin3 hown hK hP 6 rfl rfl 1 (Nat.le_of_ble_eq_true rfl) (ho (.fieldLink RX8 68 "NearEnough$Program" "steps" "[LNearEnough$Step;") (List.mem_of_getElem? (i := 1) rfl)) (fun _ h9 => h9) rfl dX8_showTimes_14 ?_
  refine lv_iload_n hx hb dX8_showTimes_17 rfl (lv_at hl 3 rfl) ?_
  have o4 : 0 ≤ y.toInt := by omega
  have o5 : y.toInt < ((12 : Nat) : Int) := by omega
  refine va_aldq hx hb hK hP 8 6 rfl rfl (ti_inx o4 o5) dX8_showTimes_18 ?_
  have o6 : y.toInt < (pI κ 1).toInt := by omega
  obtain ⟨a5_, t6_, ea7_, ga8_⟩ := hk.st (x := y) o4 o6
  refine zv (v := .ref a5_) (by rw [ea7_]; rfl) ?_
  refine lv_astore (lv' := [(4, .ref a5_), (3, .ref a1_), (0, .ref (kA κ 21)), (1, .int x), (2, .int y)]) hx hb dX8_showTimes_19 hl (Nat.le_of_ble_eq_true rfl) rfl (fun ls hl => ?_)
  refine lv_aload_n hx hb dX8_showTimes_21 rfl (lv_at hl 2 rfl) ?_
  refine lv_aload_n hx hb dX8_showTimes_22 rfl (lv_at hl 1 rfl) ?_
  obtain ⟨kp9_, hkp9_⟩ := cpl (κ := κ) (σ := σ) ga4_.1 ga4_.2.1
  refine va_get (D := (dC, dI)) (ci := 9) (v := .long (t2_.2.1 1)) (C := RX9) (T := TX9) (N := 11) hx hb hts hin9 hown hK hP kp9_ hkp9_ rfl 9 (Nat.le_of_ble_eq_true rfl) (ho (.fieldLink RX8 130 "NearEnough$Step" "low" "J") (List.mem_of_getElem? (i := 2) rfl)) (fun _ h9 => h9) rfl dX8_showTimes_23 ?_
  refine lv_aload_n hx hb dX8_showTimes_26 rfl (lv_at hl 1 rfl) ?_
  obtain ⟨kp10_, hkp10_⟩ := cpl (κ := κ) (σ := σ) ga4_.1 ga4_.2.1
  refine va_get (D := (dC, dI)) (ci := 9) (v := .long (t2_.2.1 2)) (C := RX9) (T := TX9) (N := 11) hx hb hts hin9 hown hK hP kp10_ hkp10_ rfl 10 (Nat.le_of_ble_eq_true rfl) (ho (.fieldLink RX8 132 "NearEnough$Step" "high" "J") (List.mem_of_getElem? (i := 3) rfl)) (fun _ h9 => h9) rfl dX8_showTimes_27 ?_
  refine lv_aload_n hx hb dX8_showTimes_30 rfl (lv_at hl 2 rfl) ?_
  refine va_get (D := (dC, dI)) (ci := 8) (v := .ref (kA κ 22)) (C := RX8) (T := TX8) (N := 9) hx hb hts hin8 hown hK hP 21 rfl rfl 2 (Nat.le_of_ble_eq_true rfl) (ho (.fieldLink RX8 9 "NearEnough$Shown" "low" "[J") (List.mem_of_getElem? (i := 4) rfl)) (fun _ h9 => h9) rfl dX8_showTimes_31 ?_
  refine lv_iload_n hx hb dX8_showTimes_34 rfl (lv_at hl 4 rfl) ?_
  refine va_lald hx hb hK hP 22 17 rfl rfl (ti_inx o4 o5) dX8_showTimes_35 ?_
  refine lv_topl (fun y11_ ey11_ => ?_)
  refine lv_aload_n hx hb dX8_showTimes_36 rfl (lv_at hl 2 rfl) ?_
  refine va_get (D := (dC, dI)) (ci := 8) (v := .ref (kA κ 23)) (C := RX8) (T := TX8) (N := 9) hx hb hts hin8 hown hK hP 21 rfl rfl 3 (Nat.le_of_ble_eq_true rfl) (ho (.fieldLink RX8 15 "NearEnough$Shown" "high" "[J") (List.mem_of_getElem? (i := 5) rfl)) (fun _ h9 => h9) rfl dX8_showTimes_37 ?_
  refine lv_iload_n hx hb dX8_showTimes_40 rfl (lv_at hl 4 rfl) ?_
  refine va_lald hx hb hK hP 23 18 rfl rfl (ti_inx o4 o5) dX8_showTimes_41 ?_
  refine lv_topl (fun y12_ ey12_ => ?_)
  refine zs_l (va_runS (As := [.long (t2_.2.1 1), .long (t2_.2.1 2), .long y11_, .long y12_]) (rest := [.ref (kA κ 21)]) ⟨hx, hb, hml, hown, hts⟩ (k_leastP l dC dI (t2_.2.1 1) (t2_.2.1 2) y11_ y12_  H.size) (va_cwS 4 hts gd_k_showTimes_134_k_leastP rfl rfl rfl dd_k_leastP ⟨Nat.le_of_ble_eq_true rfl, Nat.le_of_ble_eq_true rfl⟩) (preS (A := A) empP (hK.sub (tys' := []) [] rfl) empD hE.x) rfl rfl hl.1 rfl (lv_room (Nat.le_of_ble_eq_true rfl)) dX8_showTimes_42 ⟨Nat.le_of_ble_eq_true rfl, Nat.le_of_ble_eq_true rfl⟩) hP hD hS hA (fun y13_ H locs hq hP hD hS => ?_)
  have q14_ : True := hq
  refine W.widen (k := 0) (n := 0) (Nat.le_of_ble_eq_true rfl) (Nat.le_of_ble_eq_true rfl) ?_
  refine lv_aload hx hb dX8_showTimes_45 (lv_at hl 0 rfl) ?_
  obtain ⟨kp15_, hkp15_⟩ := cpl (κ := κ) (σ := σ) ga8_.1 ga8_.2.1
  refine va_get (D := (dC, dI)) (ci := 9) (v := .long (t6_.2.1 1)) (C := RX9) (T := TX9) (N := 11) hx hb hts hin9 hown hK hP kp15_ hkp15_ rfl 9 (Nat.le_of_ble_eq_true rfl) (ho (.fieldLink RX8 130 "NearEnough$Step" "low" "J") (List.mem_of_getElem? (i := 2) rfl)) (fun _ h9 => h9) rfl dX8_showTimes_47 ?_
  refine lv_aload hx hb dX8_showTimes_50 (lv_at hl 0 rfl) ?_
  obtain ⟨kp16_, hkp16_⟩ := cpl (κ := κ) (σ := σ) ga8_.1 ga8_.2.1
  refine va_get (D := (dC, dI)) (ci := 9) (v := .long (t6_.2.1 2)) (C := RX9) (T := TX9) (N := 11) hx hb hts hin9 hown hK hP kp16_ hkp16_ rfl 10 (Nat.le_of_ble_eq_true rfl) (ho (.fieldLink RX8 132 "NearEnough$Step" "high" "J") (List.mem_of_getElem? (i := 3) rfl)) (fun _ h9 => h9) rfl dX8_showTimes_52 ?_
  refine lv_aload_n hx hb dX8_showTimes_55 rfl (lv_at hl 2 rfl) ?_
  refine va_get (D := (dC, dI)) (ci := 8) (v := .ref (kA κ 22)) (C := RX8) (T := TX8) (N := 9) hx hb hts hin8 hown hK hP 21 rfl rfl 2 (Nat.le_of_ble_eq_true rfl) (ho (.fieldLink RX8 9 "NearEnough$Shown" "low" "[J") (List.mem_of_getElem? (i := 4) rfl)) (fun _ h9 => h9) rfl dX8_showTimes_56 ?_
  refine lv_iload_n hx hb dX8_showTimes_59 rfl (lv_at hl 3 rfl) ?_
  refine va_lald hx hb hK hP 22 17 rfl rfl (ti_inx o1 o2) dX8_showTimes_60 ?_
  refine lv_topl (fun y17_ ey17_ => ?_)
  refine lv_aload_n hx hb dX8_showTimes_61 rfl (lv_at hl 2 rfl) ?_
  refine va_get (D := (dC, dI)) (ci := 8) (v := .ref (kA κ 23)) (C := RX8) (T := TX8) (N := 9) hx hb hts hin8 hown hK hP 21 rfl rfl 3 (Nat.le_of_ble_eq_true rfl) (ho (.fieldLink RX8 15 "NearEnough$Shown" "high" "[J") (List.mem_of_getElem? (i := 5) rfl)) (fun _ h9 => h9) rfl dX8_showTimes_62 ?_
  refine lv_iload_n hx hb dX8_showTimes_65 rfl (lv_at hl 3 rfl) ?_
  refine va_lald hx hb hK hP 23 18 rfl rfl (ti_inx o1 o2) dX8_showTimes_66 ?_
  refine lv_topl (fun y18_ ey18_ => ?_)
  refine zs_l (va_runS (As := [.long (t6_.2.1 1), .long (t6_.2.1 2), .long y17_, .long y18_]) (rest := [.long y13_, .ref (kA κ 21)]) ⟨hx, hb, hml, hown, hts⟩ (k_leastP l dC dI (t6_.2.1 1) (t6_.2.1 2) y17_ y18_  H.size) (va_cwS 4 hts gd_k_showTimes_134_k_leastP rfl rfl rfl dd_k_leastP ⟨Nat.le_of_ble_eq_true rfl, Nat.le_of_ble_eq_true rfl⟩) (preS (A := A) empP (hK.sub (tys' := []) [] rfl) empD hE.x) rfl rfl hl.1 rfl (lv_room (Nat.le_of_ble_eq_true rfl)) dX8_showTimes_67 ⟨Nat.le_of_ble_eq_true rfl, Nat.le_of_ble_eq_true rfl⟩) hP hD hS hA (fun y19_ H locs hq hP hD hS => ?_)
  have q20_ : True := hq
  refine W.widen (k := 0) (n := 0) (Nat.le_of_ble_eq_true rfl) (Nat.le_of_ble_eq_true rfl) ?_
  refine lv_ladd hx hb dX8_showTimes_70 ?_
  refine lv_topl (fun y21_ ey21_ => ?_)
  refine lv_aload_n hx hb dX8_showTimes_71 rfl (lv_at hl 2 rfl) ?_
  refine va_get (D := (dC, dI)) (ci := 8) (v := .ref (kA κ 22)) (C := RX8) (T := TX8) (N := 9) hx hb hts hin8 hown hK hP 21 rfl rfl 2 (Nat.le_of_ble_eq_true rfl) (ho (.fieldLink RX8 9 "NearEnough$Shown" "low" "[J") (List.mem_of_getElem? (i := 4) rfl)) (fun _ h9 => h9) rfl dX8_showTimes_72 ?_
  refine lv_iload_n hx hb dX8_showTimes_75 rfl (lv_at hl 3 rfl) ?_
  refine va_lald hx hb hK hP 22 17 rfl rfl (ti_inx o1 o2) dX8_showTimes_76 ?_
  refine lv_topl (fun y22_ ey22_ => ?_)
  refine lv_aload_n hx hb dX8_showTimes_77 rfl (lv_at hl 2 rfl) ?_
  refine va_get (D := (dC, dI)) (ci := 8) (v := .ref (kA κ 23)) (C := RX8) (T := TX8) (N := 9) hx hb hts hin8 hown hK hP 21 rfl rfl 3 (Nat.le_of_ble_eq_true rfl) (ho (.fieldLink RX8 15 "NearEnough$Shown" "high" "[J") (List.mem_of_getElem? (i := 5) rfl)) (fun _ h9 => h9) rfl dX8_showTimes_78 ?_
  refine lv_iload_n hx hb dX8_showTimes_81 rfl (lv_at hl 3 rfl) ?_
  refine va_lald hx hb hK hP 23 18 rfl rfl (ti_inx o1 o2) dX8_showTimes_82 ?_
  refine lv_topl (fun y23_ ey23_ => ?_)
  refine lv_aload_n hx hb dX8_showTimes_83 rfl (lv_at hl 2 rfl) ?_
  refine va_get (D := (dC, dI)) (ci := 8) (v := .ref (kA κ 22)) (C := RX8) (T := TX8) (N := 9) hx hb hts hin8 hown hK hP 21 rfl rfl 2 (Nat.le_of_ble_eq_true rfl) (ho (.fieldLink RX8 9 "NearEnough$Shown" "low" "[J") (List.mem_of_getElem? (i := 4) rfl)) (fun _ h9 => h9) rfl dX8_showTimes_84 ?_
  refine lv_iload_n hx hb dX8_showTimes_87 rfl (lv_at hl 4 rfl) ?_
  refine va_lald hx hb hK hP 22 17 rfl rfl (ti_inx o4 o5) dX8_showTimes_88 ?_
  refine lv_topl (fun y24_ ey24_ => ?_)
  refine lv_aload_n hx hb dX8_showTimes_89 rfl (lv_at hl 2 rfl) ?_
  refine va_get (D := (dC, dI)) (ci := 8) (v := .ref (kA κ 23)) (C := RX8) (T := TX8) (N := 9) hx hb hts hin8 hown hK hP 21 rfl rfl 3 (Nat.le_of_ble_eq_true rfl) (ho (.fieldLink RX8 15 "NearEnough$Shown" "high" "[J") (List.mem_of_getElem? (i := 5) rfl)) (fun _ h9 => h9) rfl dX8_showTimes_90 ?_
  refine lv_iload_n hx hb dX8_showTimes_93 rfl (lv_at hl 4 rfl) ?_
  refine va_lald hx hb hK hP 23 18 rfl rfl (ti_inx o4 o5) dX8_showTimes_94 ?_
  refine lv_topl (fun y25_ ey25_ => ?_)
  refine zs_l (va_runS (As := [.long y22_, .long y23_, .long y24_, .long y25_]) (rest := [.long y21_, .ref (kA κ 21)]) ⟨hx, hb, hml, hown, hts⟩ (k_leastP l dC dI y22_ y23_ y24_ y25_  H.size) (va_cwS 4 hts gd_k_showTimes_134_k_leastP rfl rfl rfl dd_k_leastP ⟨Nat.le_of_ble_eq_true rfl, Nat.le_of_ble_eq_true rfl⟩) (preS (A := A) empP (hK.sub (tys' := []) [] rfl) empD hE.x) rfl rfl hl.1 rfl (lv_room (Nat.le_of_ble_eq_true rfl)) dX8_showTimes_95 ⟨Nat.le_of_ble_eq_true rfl, Nat.le_of_ble_eq_true rfl⟩) hP hD hS hA (fun y26_ H locs hq hP hD hS => ?_)
  have q27_ : True := hq
  refine W.widen (k := 0) (n := 0) (Nat.le_of_ble_eq_true rfl) (Nat.le_of_ble_eq_true rfl) ?_
  refine lv_ladd hx hb dX8_showTimes_98 ?_
  refine lv_topl (fun y28_ ey28_ => ?_)
  refine lv_aload_n hx hb dX8_showTimes_99 rfl (lv_at hl 1 rfl) ?_
  obtain ⟨kp29_, hkp29_⟩ := cpl (κ := κ) (σ := σ) ga4_.1 ga4_.2.1
  refine va_get (D := (dC, dI)) (ci := 9) (v := .long (t2_.2.1 1)) (C := RX9) (T := TX9) (N := 11) hx hb hts hin9 hown hK hP kp29_ hkp29_ rfl 9 (Nat.le_of_ble_eq_true rfl) (ho (.fieldLink RX8 130 "NearEnough$Step" "low" "J") (List.mem_of_getElem? (i := 2) rfl)) (fun _ h9 => h9) rfl dX8_showTimes_100 ?_
  refine lv_aload_n hx hb dX8_showTimes_103 rfl (lv_at hl 1 rfl) ?_
  obtain ⟨kp30_, hkp30_⟩ := cpl (κ := κ) (σ := σ) ga4_.1 ga4_.2.1
  refine va_get (D := (dC, dI)) (ci := 9) (v := .long (t2_.2.1 2)) (C := RX9) (T := TX9) (N := 11) hx hb hts hin9 hown hK hP kp30_ hkp30_ rfl 10 (Nat.le_of_ble_eq_true rfl) (ho (.fieldLink RX8 132 "NearEnough$Step" "high" "J") (List.mem_of_getElem? (i := 3) rfl)) (fun _ h9 => h9) rfl dX8_showTimes_104 ?_
  refine lv_aload_n hx hb dX8_showTimes_107 rfl (lv_at hl 2 rfl) ?_
  refine va_get (D := (dC, dI)) (ci := 8) (v := .ref (kA κ 22)) (C := RX8) (T := TX8) (N := 9) hx hb hts hin8 hown hK hP 21 rfl rfl 2 (Nat.le_of_ble_eq_true rfl) (ho (.fieldLink RX8 9 "NearEnough$Shown" "low" "[J") (List.mem_of_getElem? (i := 4) rfl)) (fun _ h9 => h9) rfl dX8_showTimes_108 ?_
  refine lv_iload_n hx hb dX8_showTimes_111 rfl (lv_at hl 4 rfl) ?_
  refine va_lald hx hb hK hP 22 17 rfl rfl (ti_inx o4 o5) dX8_showTimes_112 ?_
  refine lv_topl (fun y31_ ey31_ => ?_)
  refine lv_aload_n hx hb dX8_showTimes_113 rfl (lv_at hl 2 rfl) ?_
  refine va_get (D := (dC, dI)) (ci := 8) (v := .ref (kA κ 23)) (C := RX8) (T := TX8) (N := 9) hx hb hts hin8 hown hK hP 21 rfl rfl 3 (Nat.le_of_ble_eq_true rfl) (ho (.fieldLink RX8 15 "NearEnough$Shown" "high" "[J") (List.mem_of_getElem? (i := 5) rfl)) (fun _ h9 => h9) rfl dX8_showTimes_114 ?_
  refine lv_iload_n hx hb dX8_showTimes_117 rfl (lv_at hl 4 rfl) ?_
  refine va_lald hx hb hK hP 23 18 rfl rfl (ti_inx o4 o5) dX8_showTimes_118 ?_
  refine lv_topl (fun y32_ ey32_ => ?_)
  refine zs_l (va_runS (As := [.long (t2_.2.1 1), .long (t2_.2.1 2), .long y31_, .long y32_]) (rest := [.long y28_, .ref (kA κ 21)]) ⟨hx, hb, hml, hown, hts⟩ (k_greatP l dC dI (t2_.2.1 1) (t2_.2.1 2) y31_ y32_  H.size) (va_cwS 4 hts gd_k_showTimes_138_k_greatP rfl rfl rfl dd_k_greatP ⟨Nat.le_of_ble_eq_true rfl, Nat.le_of_ble_eq_true rfl⟩) (preS (A := A) empP (hK.sub (tys' := []) [] rfl) empD hE.x) rfl rfl hl.1 rfl (lv_room (Nat.le_of_ble_eq_true rfl)) dX8_showTimes_119 ⟨Nat.le_of_ble_eq_true rfl, Nat.le_of_ble_eq_true rfl⟩) hP hD hS hA (fun y33_ H locs hq hP hD hS => ?_)
  have q34_ : True := hq
  refine W.widen (k := 0) (n := 0) (Nat.le_of_ble_eq_true rfl) (Nat.le_of_ble_eq_true rfl) ?_
  refine lv_aload hx hb dX8_showTimes_122 (lv_at hl 0 rfl) ?_
  obtain ⟨kp35_, hkp35_⟩ := cpl (κ := κ) (σ := σ) ga8_.1 ga8_.2.1
  refine va_get (D := (dC, dI)) (ci := 9) (v := .long (t6_.2.1 1)) (C := RX9) (T := TX9) (N := 11) hx hb hts hin9 hown hK hP kp35_ hkp35_ rfl 9 (Nat.le_of_ble_eq_true rfl) (ho (.fieldLink RX8 130 "NearEnough$Step" "low" "J") (List.mem_of_getElem? (i := 2) rfl)) (fun _ h9 => h9) rfl dX8_showTimes_124 ?_
  refine lv_aload hx hb dX8_showTimes_127 (lv_at hl 0 rfl) ?_
  obtain ⟨kp36_, hkp36_⟩ := cpl (κ := κ) (σ := σ) ga8_.1 ga8_.2.1
  refine va_get (D := (dC, dI)) (ci := 9) (v := .long (t6_.2.1 2)) (C := RX9) (T := TX9) (N := 11) hx hb hts hin9 hown hK hP kp36_ hkp36_ rfl 10 (Nat.le_of_ble_eq_true rfl) (ho (.fieldLink RX8 132 "NearEnough$Step" "high" "J") (List.mem_of_getElem? (i := 3) rfl)) (fun _ h9 => h9) rfl dX8_showTimes_129 ?_
  refine lv_aload_n hx hb dX8_showTimes_132 rfl (lv_at hl 2 rfl) ?_
  refine va_get (D := (dC, dI)) (ci := 8) (v := .ref (kA κ 22)) (C := RX8) (T := TX8) (N := 9) hx hb hts hin8 hown hK hP 21 rfl rfl 2 (Nat.le_of_ble_eq_true rfl) (ho (.fieldLink RX8 9 "NearEnough$Shown" "low" "[J") (List.mem_of_getElem? (i := 4) rfl)) (fun _ h9 => h9) rfl dX8_showTimes_133 ?_
  refine lv_iload_n hx hb dX8_showTimes_136 rfl (lv_at hl 3 rfl) ?_
  refine va_lald hx hb hK hP 22 17 rfl rfl (ti_inx o1 o2) dX8_showTimes_137 ?_
  refine lv_topl (fun y37_ ey37_ => ?_)
  refine lv_aload_n hx hb dX8_showTimes_138 rfl (lv_at hl 2 rfl) ?_
  refine va_get (D := (dC, dI)) (ci := 8) (v := .ref (kA κ 23)) (C := RX8) (T := TX8) (N := 9) hx hb hts hin8 hown hK hP 21 rfl rfl 3 (Nat.le_of_ble_eq_true rfl) (ho (.fieldLink RX8 15 "NearEnough$Shown" "high" "[J") (List.mem_of_getElem? (i := 5) rfl)) (fun _ h9 => h9) rfl dX8_showTimes_139 ?_
  refine lv_iload_n hx hb dX8_showTimes_142 rfl (lv_at hl 3 rfl) ?_
  refine va_lald hx hb hK hP 23 18 rfl rfl (ti_inx o1 o2) dX8_showTimes_143 ?_
  refine lv_topl (fun y38_ ey38_ => ?_)
  refine zs_l (va_runS (As := [.long (t6_.2.1 1), .long (t6_.2.1 2), .long y37_, .long y38_]) (rest := [.long y33_, .long y28_, .ref (kA κ 21)]) ⟨hx, hb, hml, hown, hts⟩ (k_greatP l dC dI (t6_.2.1 1) (t6_.2.1 2) y37_ y38_  H.size) (va_cwS 4 hts gd_k_showTimes_138_k_greatP rfl rfl rfl dd_k_greatP ⟨Nat.le_of_ble_eq_true rfl, Nat.le_of_ble_eq_true rfl⟩) (preS (A := A) empP (hK.sub (tys' := []) [] rfl) empD hE.x) rfl rfl hl.1 rfl (lv_room (Nat.le_of_ble_eq_true rfl)) dX8_showTimes_144 ⟨Nat.le_of_ble_eq_true rfl, Nat.le_of_ble_eq_true rfl⟩) hP hD hS hA (fun y39_ H locs hq hP hD hS => ?_)
  have q40_ : True := hq
  refine W.widen (k := 0) (n := 0) (Nat.le_of_ble_eq_true rfl) (Nat.le_of_ble_eq_true rfl) ?_
  refine lv_ladd hx hb dX8_showTimes_147 ?_
  refine lv_topl (fun y41_ ey41_ => ?_)
  refine lv_aload_n hx hb dX8_showTimes_148 rfl (lv_at hl 2 rfl) ?_
  refine va_get (D := (dC, dI)) (ci := 8) (v := .ref (kA κ 22)) (C := RX8) (T := TX8) (N := 9) hx hb hts hin8 hown hK hP 21 rfl rfl 2 (Nat.le_of_ble_eq_true rfl) (ho (.fieldLink RX8 9 "NearEnough$Shown" "low" "[J") (List.mem_of_getElem? (i := 4) rfl)) (fun _ h9 => h9) rfl dX8_showTimes_149 ?_
  refine lv_iload_n hx hb dX8_showTimes_152 rfl (lv_at hl 3 rfl) ?_
  refine va_lald hx hb hK hP 22 17 rfl rfl (ti_inx o1 o2) dX8_showTimes_153 ?_
  refine lv_topl (fun y42_ ey42_ => ?_)
  refine lv_aload_n hx hb dX8_showTimes_154 rfl (lv_at hl 2 rfl) ?_
  refine va_get (D := (dC, dI)) (ci := 8) (v := .ref (kA κ 23)) (C := RX8) (T := TX8) (N := 9) hx hb hts hin8 hown hK hP 21 rfl rfl 3 (Nat.le_of_ble_eq_true rfl) (ho (.fieldLink RX8 15 "NearEnough$Shown" "high" "[J") (List.mem_of_getElem? (i := 5) rfl)) (fun _ h9 => h9) rfl dX8_showTimes_155 ?_
  refine lv_iload_n hx hb dX8_showTimes_158 rfl (lv_at hl 3 rfl) ?_
  refine va_lald hx hb hK hP 23 18 rfl rfl (ti_inx o1 o2) dX8_showTimes_159 ?_
  refine lv_topl (fun y43_ ey43_ => ?_)
  refine lv_aload_n hx hb dX8_showTimes_160 rfl (lv_at hl 2 rfl) ?_
  refine va_get (D := (dC, dI)) (ci := 8) (v := .ref (kA κ 22)) (C := RX8) (T := TX8) (N := 9) hx hb hts hin8 hown hK hP 21 rfl rfl 2 (Nat.le_of_ble_eq_true rfl) (ho (.fieldLink RX8 9 "NearEnough$Shown" "low" "[J") (List.mem_of_getElem? (i := 4) rfl)) (fun _ h9 => h9) rfl dX8_showTimes_161 ?_
  refine lv_iload_n hx hb dX8_showTimes_164 rfl (lv_at hl 4 rfl) ?_
  refine va_lald hx hb hK hP 22 17 rfl rfl (ti_inx o4 o5) dX8_showTimes_165 ?_
  refine lv_topl (fun y44_ ey44_ => ?_)
  refine lv_aload_n hx hb dX8_showTimes_166 rfl (lv_at hl 2 rfl) ?_
  refine va_get (D := (dC, dI)) (ci := 8) (v := .ref (kA κ 23)) (C := RX8) (T := TX8) (N := 9) hx hb hts hin8 hown hK hP 21 rfl rfl 3 (Nat.le_of_ble_eq_true rfl) (ho (.fieldLink RX8 15 "NearEnough$Shown" "high" "[J") (List.mem_of_getElem? (i := 5) rfl)) (fun _ h9 => h9) rfl dX8_showTimes_167 ?_
  refine lv_iload_n hx hb dX8_showTimes_170 rfl (lv_at hl 4 rfl) ?_
  refine va_lald hx hb hK hP 23 18 rfl rfl (ti_inx o4 o5) dX8_showTimes_171 ?_
  refine lv_topl (fun y45_ ey45_ => ?_)
  refine zs_l (va_runS (As := [.long y42_, .long y43_, .long y44_, .long y45_]) (rest := [.long y41_, .long y28_, .ref (kA κ 21)]) ⟨hx, hb, hml, hown, hts⟩ (k_greatP l dC dI y42_ y43_ y44_ y45_  H.size) (va_cwS 4 hts gd_k_showTimes_138_k_greatP rfl rfl rfl dd_k_greatP ⟨Nat.le_of_ble_eq_true rfl, Nat.le_of_ble_eq_true rfl⟩) (preS (A := A) empP (hK.sub (tys' := []) [] rfl) empD hE.x) rfl rfl hl.1 rfl (lv_room (Nat.le_of_ble_eq_true rfl)) dX8_showTimes_172 ⟨Nat.le_of_ble_eq_true rfl, Nat.le_of_ble_eq_true rfl⟩) hP hD hS hA (fun y46_ H locs hq hP hD hS => ?_)
  have q47_ : True := hq
  refine W.widen (k := 0) (n := 0) (Nat.le_of_ble_eq_true rfl) (Nat.le_of_ble_eq_true rfl) ?_
  refine lv_ladd hx hb dX8_showTimes_175 ?_
  refine lv_topl (fun y48_ ey48_ => ?_)
  refine zy_v (va_runV (As := [.long y28_, .long y48_]) (rest := []) ⟨hx, hb, hml, hown, hts⟩ (k_set l dC dI κ H.size σ y28_ y48_ hk hI ) (cwV 2 hts gd_k_showTimes_116_k_set rfl rfl rfl dd_k_set ⟨Nat.le_of_ble_eq_true rfl, Nat.le_of_ble_eq_true rfl⟩) (preVy hP hK hD hE (ci := 8) (q0 := 21) rfl rfl) rfl rfl hl.1 rfl (lv_room (Nat.le_of_ble_eq_true rfl)) dX8_showTimes_176 ⟨Nat.le_of_ble_eq_true rfl, Nat.le_of_ble_eq_true rfl⟩) hD hS hA (fun τ50_ H locs hq hP hD hS => ?_)
  obtain ⟨hτ50_, q51_⟩ := hq
  refine W.widen (k := 0) (n := 0) (Nat.le_of_ble_eq_true rfl) (Nat.le_of_ble_eq_true rfl) ?_
  rw [hQ]
  exact W.vret hx hb hr (fun t ht hW => ⟨⟨τ50_, rfl, ⟨hτ50_, trivial⟩, wEn_of hP (hK.sub [] rfl) hD ht hW⟩, hS.F ht⟩) hS.2.2 dX8_showTimes_179
def ow_k_widen : List Cond := [.fieldLink RX8 36 "NearEnough$Shown" "told" "LNearEnough$Program;", .fieldLink RX8 68 "NearEnough$Program" "steps" "[LNearEnough$Step;", .fieldLink RX8 18 "NearEnough$Shown" "least" "J", .fieldLink RX8 130 "NearEnough$Step" "low" "J", .fieldLink RX8 132 "NearEnough$Step" "high" "J", .fieldLink RX8 9 "NearEnough$Shown" "low" "[J", .methodLink RX8 147 Lib.MathLoose.min_long.x, .static Lib.MathLoose.min_long.x, .initialized "java/lang/Math", .code Lib.MathLoose.min_long.x Lib.MathLoose.min_long.code 4 (some .long), .fieldLink RX8 22 "NearEnough$Shown" "greatest" "J", .fieldLink RX8 15 "NearEnough$Shown" "high" "[J", .methodLink RX8 109 Lib.MathLoose.max_long.x, .static Lib.MathLoose.max_long.x, .code Lib.MathLoose.max_long.x Lib.MathLoose.max_long.code 4 (some .long)]
def vs_k_widen : List Cond := .code yX8_widenByTaking cX8_widenByTaking 5 none :: (ow_k_widen ++ (wsX30 ++ (wsX80 ++ (wsX90))))
theorem vg_k_widen : vs_k_widen.all goodWord = true := by decide +kernel
theorem dd_k_widen : yX8_widenByTaking.cls = RX8 ∧ yX8_widenByTaking.cls ≠ "java/lang/invoke/MethodHandle" ∧ yX8_widenByTaking.cls ≠ "java/lang/invoke/VarHandle" ∧ (parseMethodDescriptor yX8_widenByTaking.desc).map (fun d => d.parameters.length) = some 2 := by decide +kernel
def rm_k_widen : Room := { frames := 1, cells := 0, slots := 0, locals := 24 }
set_option maxHeartbeats 4000000 in
set_option maxRecDepth 100000 in
theorem k_widen (l : Launch) (dC : Nat → ClassId) (dI : Nat → Nat → Nat) (κ : CE) (sz : Nat) (σ : MS) (x : Int32) (y : Int32) (hk : PInv κ) (hI : CInv σ) (hx0 : 0 ≤ x.toInt ∧ x.toInt < (pI κ 1).toInt) (hy0 : 0 ≤ y.toInt ∧ y.toInt < (pI κ 1).toInt) : Met l yX8_widenByTaking vs_k_widen rm_k_widen (va_Pc [.ref (kA κ 21), .int x, .int y] (wSy dC dI (cW κ σ) (cT κ) sz)) (va_Qv (fun (τ : MS) => CInv τ ∧ True) (fun (τ : MS) => wEn dC dI (va_A (cW κ σ) sz) (cW κ τ) []) (va_A (cW κ σ) sz)) 0 0 (va_A (cW κ σ) sz) := by
  refine Met.ofW (cc := cX8_widenByTaking) (maxL := 5) (ret := none) (by decide +kernel) rfl ?_
  intro p e s m args below meth c s₁ B hml hv
  obtain ⟨rfl, hsz, hP, hK, hD0, hE⟩ := hv
  have hx := B.exec
  have hb := B.bytes
  have hr := B.returns
  have hts := atoms_spec (ws := vs_k_widen) B.pre
  have hown : s.vm.findClass RX8 = some m.cls := findClass_of_methodNamed B.named
  have hlocks := B.notSynchronized
  subst hsz
  have hD := hD0.self (sz := s.heap.size)
  generalize hAe : va_A (cW κ σ) s.heap.size = A at hD ⊢
  have hA : ∀ q : Nat, s.heap.size ≤ q → A q := fun q h => by rw [← hAe]; exact Or.inr h
  have hl := lv_entry ([.ref (kA κ 21), .int x, .int y]) (n := 5) (Nat.le_of_ble_eq_true rfl)
  rw [lg_entry_eq]
  generalize (lg_sl ([.ref (kA κ 21), .int x, .int y]) ++ List.replicate (5 - (lg_sl ([.ref (kA κ 21), .int x, .int y])).length) Slot.unset).toArray = ls at hl ⊢
  have hl : lv_has ls 5 [(0, .ref (kA κ 21)), (1, .int x), (2, .int y)] := hl
  have ho := fun w (h : w ∈ ow_k_widen) => hts w (List.mem_cons_of_mem _ (List.mem_append_left _ h))
  have hin3 : ∀ w ∈ u_ws RX3 TX3 8, w ∈ vs_k_widen := fun w h => (List.mem_cons_of_mem _ (List.mem_append_right _ (List.mem_append_left _ h)))
  have hin8 : ∀ w ∈ u_ws RX8 TX8 9, w ∈ vs_k_widen := fun w h => (List.mem_cons_of_mem _ (List.mem_append_right _ (List.mem_append_right _ (List.mem_append_left _ h))))
  have hin9 : ∀ w ∈ u_ws RX9 TX9 11, w ∈ vs_k_widen := fun w h => (List.mem_cons_of_mem _ (List.mem_append_right _ (List.mem_append_right _ (List.mem_append_right _ h))))
  refine zQ (fun Q hQ => ?_)
  refine zH (A := A) (ws := (cW κ σ)) (fun H hP hS => ?_) hP
  have hk0 := hk.1
  have hk1 := hk.2.1
  have hk2 := hk.2.2.1
  refine lv_aload_n hx hb dX8_widenByTaking_0 rfl (lv_at hl 0 rfl) ?_
  refine va_get (D := (dC, dI)) (ci := 8) (v := .ref (kA κ 6)) (C := RX8) (T := TX8) (N := 9) hx hb hts hin8 hown hK hP 21 rfl rfl 0 (Nat.le_of_ble_eq_true rfl) (ho (.fieldLink RX8 36 "NearEnough$Shown" "told" "LNearEnough$Program;") (List.mem_of_getElem? (i := 0) rfl)) (fun _ h9 => h9) rfl dX8_widenByTaking_1 ?_
  refine va_get (D := (dC, dI)) (ci := 3) (v := .ref (kA κ 8)) (C := RX3) (T := TX3) (N := 8) hx hb hts hin3 hown hK hP 6 rfl rfl 1 (Nat.le_of_ble_eq_true rfl) (ho (.fieldLink RX8 68 "NearEnough$Program" "steps" "[LNearEnough$Step;") (List.mem_of_getElem? (i := 1) rfl)) (fun _ h9 => h9) rfl dX8_widenByTaking_4 ?_
  refine lv_iload_n hx hb dX8_widenByTaking_7 rfl (lv_at hl 1 rfl) ?_
  have o1 : 0 ≤ x.toInt := by omega
  have o2 : x.toInt < ((12 : Nat) : Int) := by omega
  refine va_aldq hx hb hK hP 8 6 rfl rfl (ti_inx o1 o2) dX8_widenByTaking_8 ?_
  have o3 : x.toInt < (pI κ 1).toInt := by omega
  obtain ⟨a1_, t2_, ea3_, ga4_⟩ := hk.st (x := x) o1 o3
  refine zv (v := .ref a1_) (by rw [ea3_]; rfl) ?_
  refine lv_astore_n (lv' := [(3, .ref a1_), (0, .ref (kA κ 21)), (1, .int x), (2, .int y)]) hx hb dX8_widenByTaking_9 rfl hl (Nat.le_of_ble_eq_true rfl) rfl (fun ls hl => ?_)
  refine lv_aload_n hx hb dX8_widenByTaking_10 rfl (lv_at hl 1 rfl) ?_
  refine va_get (D := (dC, dI)) (ci := 8) (v := .ref (kA κ 6)) (C := RX8) (T := TX8) (N := 9) hx hb hts hin8 hown hK hP 21 rfl rfl 0 (Nat.le_of_ble_eq_true rfl) (ho (.fieldLink RX8 36 "NearEnough$Shown" "told" "LNearEnough$Program;") (List.mem_of_getElem? (i := 0) rfl)) (fun _ h9 => h9) rfl dX8_widenByTaking_11 ?_
  refine va_get (D := (dC, dI)) (ci := 3) (v := .ref (kA κ 8)) (C := RX3) (T := TX3) (N := 8) hx hb hts hin3 hown hK hP 6 rfl rfl 1 (Nat.le_of_ble_eq_true rfl) (ho (.fieldLink RX8 68 "NearEnough$Program" "steps" "[LNearEnough$Step;") (List.mem_of_getElem? (i := 1) rfl)) (fun _ h9 => h9) rfl dX8_widenByTaking_14 ?_
  refine lv_iload_n hx hb dX8_widenByTaking_17 rfl (lv_at hl 3 rfl) ?_
  have o4 : 0 ≤ y.toInt := by omega
  have o5 : y.toInt < ((12 : Nat) : Int) := by omega
  refine va_aldq hx hb hK hP 8 6 rfl rfl (ti_inx o4 o5) dX8_widenByTaking_18 ?_
  have o6 : y.toInt < (pI κ 1).toInt := by omega
  obtain ⟨a5_, t6_, ea7_, ga8_⟩ := hk.st (x := y) o4 o6
  refine zv (v := .ref a5_) (by rw [ea7_]; rfl) ?_
  refine lv_astore (lv' := [(4, .ref a5_), (3, .ref a1_), (0, .ref (kA κ 21)), (1, .int x), (2, .int y)]) hx hb dX8_widenByTaking_19 hl (Nat.le_of_ble_eq_true rfl) rfl (fun ls hl => ?_)
  refine lv_aload_n hx hb dX8_widenByTaking_21 rfl (lv_at hl 2 rfl) ?_
  refine lv_aload_n hx hb dX8_widenByTaking_22 rfl (lv_at hl 2 rfl) ?_
  refine va_get (D := (dC, dI)) (ci := 8) (v := .long (σ.2.2.2 22)) (C := RX8) (T := TX8) (N := 9) hx hb hts hin8 hown hK hP 21 rfl rfl 4 (Nat.le_of_ble_eq_true rfl) (ho (.fieldLink RX8 18 "NearEnough$Shown" "least" "J") (List.mem_of_getElem? (i := 2) rfl)) (fun _ h9 => h9) rfl dX8_widenByTaking_23 ?_
  refine lv_aload_n hx hb dX8_widenByTaking_26 rfl (lv_at hl 1 rfl) ?_
  obtain ⟨kp9_, hkp9_⟩ := cpl (κ := κ) (σ := σ) ga4_.1 ga4_.2.1
  refine va_get (D := (dC, dI)) (ci := 9) (v := .long (t2_.2.1 1)) (C := RX9) (T := TX9) (N := 11) hx hb hts hin9 hown hK hP kp9_ hkp9_ rfl 9 (Nat.le_of_ble_eq_true rfl) (ho (.fieldLink RX8 130 "NearEnough$Step" "low" "J") (List.mem_of_getElem? (i := 3) rfl)) (fun _ h9 => h9) rfl dX8_widenByTaking_27 ?_
  refine lv_aload hx hb dX8_widenByTaking_30 (lv_at hl 0 rfl) ?_
  obtain ⟨kp10_, hkp10_⟩ := cpl (κ := κ) (σ := σ) ga8_.1 ga8_.2.1
  refine va_get (D := (dC, dI)) (ci := 9) (v := .long (t6_.2.1 2)) (C := RX9) (T := TX9) (N := 11) hx hb hts hin9 hown hK hP kp10_ hkp10_ rfl 10 (Nat.le_of_ble_eq_true rfl) (ho (.fieldLink RX8 132 "NearEnough$Step" "high" "J") (List.mem_of_getElem? (i := 4) rfl)) (fun _ h9 => h9) rfl dX8_widenByTaking_32 ?_
  refine lv_lsub hx hb dX8_widenByTaking_35 ?_
  refine lv_topl (fun y11_ ey11_ => ?_)
  refine lv_aload_n hx hb dX8_widenByTaking_36 rfl (lv_at hl 2 rfl) ?_
  refine va_get (D := (dC, dI)) (ci := 8) (v := .ref (kA κ 22)) (C := RX8) (T := TX8) (N := 9) hx hb hts hin8 hown hK hP 21 rfl rfl 2 (Nat.le_of_ble_eq_true rfl) (ho (.fieldLink RX8 9 "NearEnough$Shown" "low" "[J") (List.mem_of_getElem? (i := 5) rfl)) (fun _ h9 => h9) rfl dX8_widenByTaking_37 ?_
  refine lv_iload_n hx hb dX8_widenByTaking_40 rfl (lv_at hl 3 rfl) ?_
  refine va_lald hx hb hK hP 22 17 rfl rfl (ti_inx o1 o2) dX8_widenByTaking_41 ?_
  refine lv_topl (fun y12_ ey12_ => ?_)
  refine lv_ladd hx hb dX8_widenByTaking_42 ?_
  refine lv_topl (fun y13_ ey13_ => ?_)
  refine va_mmin_long hx hb (hml.trans hl.1.symm) hown (ho (.methodLink RX8 147 Lib.MathLoose.min_long.x) (List.mem_of_getElem? (i := 6) rfl)) (ho (.static Lib.MathLoose.min_long.x) (List.mem_of_getElem? (i := 7) rfl)) (ho (.initialized "java/lang/Math") (List.mem_of_getElem? (i := 8) rfl)) (ho (.code Lib.MathLoose.min_long.x Lib.MathLoose.min_long.code 4 (some .long)) (List.mem_of_getElem? (i := 9) rfl)) (Nat.le_of_ble_eq_true rfl) (Nat.le_of_ble_eq_true rfl) (Nat.le_of_ble_eq_true rfl) (Nat.le_of_ble_eq_true rfl) dX8_widenByTaking_43 ?_
  refine lv_topl (fun y14_ ey14_ => ?_)
  refine va_put (D := (dC, dI)) (ci := 8) (v := .long y14_) (ty := tyX8 4) (C := RX8) (T := TX8) (N := 9) hx hb hts hin8 tyX8 tyX8_ok nmX8 hown hK hP hD hS 21 rfl rfl 4 (Nat.le_of_ble_eq_true rfl) (ho (.fieldLink RX8 18 "NearEnough$Shown" "least" "J") (List.mem_of_getElem? (i := 2) rfl)) (fun _ h9 => h9) rfl (tyX8_ok 4 (Nat.le_of_ble_eq_true rfl)) rfl rfl (Nat.le_of_ble_eq_true rfl) dX8_widenByTaking_46 (fun H locs hP hD hS => ?_)
  have hP : va_P (dC, dI) vwCl (cW κ (sL σ 22 y14_)) H := hP
  have hD : va_D A (cW κ (sL σ 22 y14_)) := hD
  refine lv_aload_n hx hb dX8_widenByTaking_49 rfl (lv_at hl 2 rfl) ?_
  refine lv_aload_n hx hb dX8_widenByTaking_50 rfl (lv_at hl 2 rfl) ?_
  refine va_get (D := (dC, dI)) (ci := 8) (v := .long (σ.2.2.2 23)) (C := RX8) (T := TX8) (N := 9) hx hb hts hin8 hown hK hP 21 rfl rfl 5 (Nat.le_of_ble_eq_true rfl) (ho (.fieldLink RX8 22 "NearEnough$Shown" "greatest" "J") (List.mem_of_getElem? (i := 10) rfl)) (fun _ h9 => h9) rfl dX8_widenByTaking_51 ?_
  refine lv_aload_n hx hb dX8_widenByTaking_54 rfl (lv_at hl 1 rfl) ?_
  obtain ⟨kp15_, hkp15_⟩ := cpl (κ := κ) (σ := (sL σ 22 y14_)) ga4_.1 ga4_.2.1
  refine va_get (D := (dC, dI)) (ci := 9) (v := .long (t2_.2.1 2)) (C := RX9) (T := TX9) (N := 11) hx hb hts hin9 hown hK hP kp15_ hkp15_ rfl 10 (Nat.le_of_ble_eq_true rfl) (ho (.fieldLink RX8 132 "NearEnough$Step" "high" "J") (List.mem_of_getElem? (i := 4) rfl)) (fun _ h9 => h9) rfl dX8_widenByTaking_55 ?_
  refine lv_aload hx hb dX8_widenByTaking_58 (lv_at hl 0 rfl) ?_
  obtain ⟨kp16_, hkp16_⟩ := cpl (κ := κ) (σ := (sL σ 22 y14_)) ga8_.1 ga8_.2.1
  refine va_get (D := (dC, dI)) (ci := 9) (v := .long (t6_.2.1 1)) (C := RX9) (T := TX9) (N := 11) hx hb hts hin9 hown hK hP kp16_ hkp16_ rfl 9 (Nat.le_of_ble_eq_true rfl) (ho (.fieldLink RX8 130 "NearEnough$Step" "low" "J") (List.mem_of_getElem? (i := 3) rfl)) (fun _ h9 => h9) rfl dX8_widenByTaking_60 ?_
  refine lv_lsub hx hb dX8_widenByTaking_63 ?_
  refine lv_topl (fun y17_ ey17_ => ?_)
  refine lv_aload_n hx hb dX8_widenByTaking_64 rfl (lv_at hl 2 rfl) ?_
  refine va_get (D := (dC, dI)) (ci := 8) (v := .ref (kA κ 23)) (C := RX8) (T := TX8) (N := 9) hx hb hts hin8 hown hK hP 21 rfl rfl 3 (Nat.le_of_ble_eq_true rfl) (ho (.fieldLink RX8 15 "NearEnough$Shown" "high" "[J") (List.mem_of_getElem? (i := 11) rfl)) (fun _ h9 => h9) rfl dX8_widenByTaking_65 ?_
  refine lv_iload_n hx hb dX8_widenByTaking_68 rfl (lv_at hl 3 rfl) ?_
  refine va_lald hx hb hK hP 23 18 rfl rfl (ti_inx o1 o2) dX8_widenByTaking_69 ?_
  refine lv_topl (fun y18_ ey18_ => ?_)
  refine lv_ladd hx hb dX8_widenByTaking_70 ?_
  refine lv_topl (fun y19_ ey19_ => ?_)
  refine va_mmax_long hx hb (hml.trans hl.1.symm) hown (ho (.methodLink RX8 109 Lib.MathLoose.max_long.x) (List.mem_of_getElem? (i := 12) rfl)) (ho (.static Lib.MathLoose.max_long.x) (List.mem_of_getElem? (i := 13) rfl)) (ho (.initialized "java/lang/Math") (List.mem_of_getElem? (i := 8) rfl)) (ho (.code Lib.MathLoose.max_long.x Lib.MathLoose.max_long.code 4 (some .long)) (List.mem_of_getElem? (i := 14) rfl)) (Nat.le_of_ble_eq_true rfl) (Nat.le_of_ble_eq_true rfl) (Nat.le_of_ble_eq_true rfl) (Nat.le_of_ble_eq_true rfl) dX8_widenByTaking_71 ?_
  refine lv_topl (fun y20_ ey20_ => ?_)
  refine va_put (D := (dC, dI)) (ci := 8) (v := .long y20_) (ty := tyX8 5) (C := RX8) (T := TX8) (N := 9) hx hb hts hin8 tyX8 tyX8_ok nmX8 hown hK hP hD hS 21 rfl rfl 5 (Nat.le_of_ble_eq_true rfl) (ho (.fieldLink RX8 22 "NearEnough$Shown" "greatest" "J") (List.mem_of_getElem? (i := 10) rfl)) (fun _ h9 => h9) rfl (tyX8_ok 5 (Nat.le_of_ble_eq_true rfl)) rfl rfl (Nat.le_of_ble_eq_true rfl) dX8_widenByTaking_74 (fun H locs hP hD hS => ?_)
  have hP : va_P (dC, dI) vwCl (cW κ (sL (sL σ 22 y14_) 23 y20_)) H := hP
  have hD : va_D A (cW κ (sL (sL σ 22 y14_) 23 y20_)) := hD
  rw [hQ]
  exact W.vret hx hb hr (fun t ht hW => ⟨⟨(sL (sL σ 22 y14_) 23 y20_), rfl, ⟨(CInv.sL (CInv.sL hI)), trivial⟩, wEn_of hP (hK.sub [] rfl) hD ht hW⟩, hS.F ht⟩) hS.2.2 dX8_widenByTaking_77
def ow_k_showScale : List Cond := [.fieldLink RX8 80 "NearEnough$Step" "a" "I", .fieldLink RX8 141 "NearEnough$Step" "over" "I", .fieldLink RX8 9 "NearEnough$Shown" "low" "[J", .fieldLink RX8 144 "NearEnough$Step" "by" "I", .fieldLink RX8 15 "NearEnough$Shown" "high" "[J", .methodLink RX8 147 Lib.MathLoose.min_long.x, .static Lib.MathLoose.min_long.x, .initialized "java/lang/Math", .code Lib.MathLoose.min_long.x Lib.MathLoose.min_long.code 4 (some .long), .methodLink RX8 109 Lib.MathLoose.max_long.x, .static Lib.MathLoose.max_long.x, .code Lib.MathLoose.max_long.x Lib.MathLoose.max_long.code 4 (some .long)]
def vs_k_showScale : List Cond := .code yX8_showScale cX8_showScale 8 none :: (ow_k_showScale ++ (([.methodLink RX8 83 yX8_errs, .instanceMethod yX8_errs, .selects RX8 yX8_errs yX8_errs, .initialized RX8] : List Cond) ++ (vs_k_errs ++ (([.methodLink RX8 149 yJ9_floorDiv_f86c9, .static yJ9_floorDiv_f86c9, .initialized yJ9_floorDiv_f86c9.cls] : List Cond) ++ (vs_k_floorDiv ++ (([.methodLink RX8 116 yX8_set, .instanceMethod yX8_set, .selects RX8 yX8_set yX8_set, .initialized RX8] : List Cond) ++ (vs_k_set ++ (wsX80 ++ (wsX90)))))))))
theorem vg_k_showScale : vs_k_showScale.all goodWord = true := by decide +kernel
theorem dd_k_showScale : yX8_showScale.cls = RX8 ∧ yX8_showScale.cls ≠ "java/lang/invoke/MethodHandle" ∧ yX8_showScale.cls ≠ "java/lang/invoke/VarHandle" ∧ (parseMethodDescriptor yX8_showScale.desc).map (fun d => d.parameters.length) = some 1 := by decide +kernel
def rm_k_showScale : Room := { frames := 1, cells := 0, slots := 0, locals := 25 }
theorem gd_k_showScale_83_k_errs : GoodIn vs_k_showScale (wsV RX8 83 RX8 yX8_errs vs_k_errs) := goodIn_app (goodIn_sub (fun w h => (List.mem_cons_of_mem _ (List.mem_append_right _ (List.mem_append_left _ h)))) (by decide +kernel)) (goodIn_sub (fun w h => (List.mem_cons_of_mem _ (List.mem_append_right _ (List.mem_append_right _ (List.mem_append_left _ h))))) vg_k_errs)
theorem gd_k_showScale_149_k_floorDiv : GoodIn vs_k_showScale (va_wsS RX8 149 yJ9_floorDiv_f86c9 vs_k_floorDiv) := goodIn_app (goodIn_sub (fun w h => (List.mem_cons_of_mem _ (List.mem_append_right _ (List.mem_append_right _ (List.mem_append_right _ (List.mem_append_left _ h)))))) (by decide +kernel)) (goodIn_sub (fun w h => (List.mem_cons_of_mem _ (List.mem_append_right _ (List.mem_append_right _ (List.mem_append_right _ (List.mem_append_right _ (List.mem_append_left _ h))))))) vg_k_floorDiv)
theorem gd_k_showScale_116_k_set : GoodIn vs_k_showScale (wsV RX8 116 RX8 yX8_set vs_k_set) := goodIn_app (goodIn_sub (fun w h => (List.mem_cons_of_mem _ (List.mem_append_right _ (List.mem_append_right _ (List.mem_append_right _ (List.mem_append_right _ (List.mem_append_right _ (List.mem_append_left _ h)))))))) (by decide +kernel)) (goodIn_sub (fun w h => (List.mem_cons_of_mem _ (List.mem_append_right _ (List.mem_append_right _ (List.mem_append_right _ (List.mem_append_right _ (List.mem_append_right _ (List.mem_append_right _ (List.mem_append_left _ h))))))))) vg_k_set)
set_option maxHeartbeats 4000000 in
set_option maxRecDepth 100000 in
theorem k_showScale (l : Launch) (dC : Nat → ClassId) (dI : Nat → Nat → Nat) (κ : CE) (sz : Nat) (σ : MS) (a : Nat) (t_a : TT) (g_a : IsStep κ a t_a) (hk : PInv κ) (hI : CInv σ)  : Met l yX8_showScale vs_k_showScale rm_k_showScale (va_Pc [.ref (kA κ 21), .ref a] (wSy dC dI (cW κ σ) (cT κ) sz)) (va_Qv (fun (τ : MS) => CInv τ ∧ True) (fun (τ : MS) => wEn dC dI (va_A (cW κ σ) sz) (cW κ τ) []) (va_A (cW κ σ) sz)) 0 0 (va_A (cW κ σ) sz) := by
  refine Met.ofW (cc := cX8_showScale) (maxL := 8) (ret := none) (by decide +kernel) rfl ?_
  intro p e s m args below meth c s₁ B hml hv
  obtain ⟨rfl, hsz, hP, hK, hD0, hE⟩ := hv
  have hx := B.exec
  have hb := B.bytes
  have hr := B.returns
  have hts := atoms_spec (ws := vs_k_showScale) B.pre
  have hown : s.vm.findClass RX8 = some m.cls := findClass_of_methodNamed B.named
  have hlocks := B.notSynchronized
  subst hsz
  have hD := hD0.self (sz := s.heap.size)
  generalize hAe : va_A (cW κ σ) s.heap.size = A at hD ⊢
  have hA : ∀ q : Nat, s.heap.size ≤ q → A q := fun q h => by rw [← hAe]; exact Or.inr h
  have hl := lv_entry ([.ref (kA κ 21), .ref a]) (n := 8) (Nat.le_of_ble_eq_true rfl)
  rw [lg_entry_eq]
  generalize (lg_sl ([.ref (kA κ 21), .ref a]) ++ List.replicate (8 - (lg_sl ([.ref (kA κ 21), .ref a])).length) Slot.unset).toArray = ls at hl ⊢
  have hl : lv_has ls 8 [(0, .ref (kA κ 21)), (1, .ref a)] := hl
  have ho := fun w (h : w ∈ ow_k_showScale) => hts w (List.mem_cons_of_mem _ (List.mem_append_left _ h))
  have hin8 : ∀ w ∈ u_ws RX8 TX8 9, w ∈ vs_k_showScale := fun w h => (List.mem_cons_of_mem _ (List.mem_append_right _ (List.mem_append_right _ (List.mem_append_right _ (List.mem_append_right _ (List.mem_append_right _ (List.mem_append_right _ (List.mem_append_right _ (List.mem_append_left _ h)))))))))
  have hin9 : ∀ w ∈ u_ws RX9 TX9 11, w ∈ vs_k_showScale := fun w h => (List.mem_cons_of_mem _ (List.mem_append_right _ (List.mem_append_right _ (List.mem_append_right _ (List.mem_append_right _ (List.mem_append_right _ (List.mem_append_right _ (List.mem_append_right _ (List.mem_append_right _ h)))))))))
  refine zQ (fun Q hQ => ?_)
  refine zH (A := A) (ws := (cW κ σ)) (fun H hP hS => ?_) hP
  have hk0 := hk.1
  have hk1 := hk.2.1
  have hk2 := hk.2.2.1
  refine lv_aload_n hx hb dX8_showScale_0 rfl (lv_at hl 0 rfl) ?_
  refine lv_aload_n hx hb dX8_showScale_1 rfl (lv_at hl 1 rfl) ?_
  have bb1_ := g_a.2.2.1 1 rx_cd17d5a19c rx_be9bb8ec2b
  obtain ⟨kp2_, hkp2_⟩ := cpl (κ := κ) (σ := σ) g_a.1 g_a.2.1
  refine va_get (D := (dC, dI)) (ci := 9) (v := .int (t_a.1 1)) (C := RX9) (T := TX9) (N := 11) hx hb hts hin9 hown hK hP kp2_ hkp2_ rfl 3 (Nat.le_of_ble_eq_true rfl) (ho (.fieldLink RX8 80 "NearEnough$Step" "a" "I") (List.mem_of_getElem? (i := 0) rfl)) (fun _ h9 => h9) rfl dX8_showScale_2 ?_
  have o1 : 0 ≤ ((t_a.1 1)).toInt := by omega
  have o2 : ((t_a.1 1)).toInt ≤ 11 := by omega
  refine zy_i (va_runV (As := [.int (t_a.1 1)]) (rest := []) ⟨hx, hb, hml, hown, hts⟩ (k_errs l dC dI κ H.size σ (t_a.1 1) hk hI ⟨o1, o2⟩) (cwV 1 hts gd_k_showScale_83_k_errs rfl rfl rfl dd_k_errs ⟨Nat.le_of_ble_eq_true rfl, Nat.le_of_ble_eq_true rfl⟩) (preVy hP hK hD hE (ci := 8) (q0 := 21) rfl rfl) rfl rfl hl.1 rfl (lv_room (Nat.le_of_ble_eq_true rfl)) dX8_showScale_5 ⟨Nat.le_of_ble_eq_true rfl, Nat.le_of_ble_eq_true rfl⟩) hD hS hA (fun z3_ τ4_ H locs hq hP hD hS => ?_)
  obtain ⟨hτ4_, q5_⟩ := hq
  rw [hτ4_] at hP hD
  have q5_ : z3_.toInt = 0 ∨ z3_.toInt = 1 := q5_
  refine W.widen (k := 0) (n := 0) (Nat.le_of_ble_eq_true rfl) (Nat.le_of_ble_eq_true rfl) ?_
  refine lv_if_eq (tgt := 18) hx hb dX8_showScale_8 rfl (fun c6_ => ?_) (fun c6_ => ?_)
  · have tc6_ := (show z3_.toInt = 0 from ti_eq rfl rg_11 c6_)
    rw [hQ]
    exact W.vret hx hb hr (fun t ht hW => ⟨⟨σ, rfl, ⟨hI, trivial⟩, wEn_of hP (hK.sub [] rfl) hD ht hW⟩, hS.F ht⟩) hS.2.2 dX8_showScale_18
  · have tc6_ := (show z3_.toInt ≠ 0 from ti_ne rfl rg_11 c6_)
    refine lv_aload_n hx hb dX8_showScale_11 rfl (lv_at hl 1 rfl) ?_
    obtain ⟨kp7_, hkp7_⟩ := cpl (κ := κ) (σ := σ) g_a.1 g_a.2.1
    refine va_get (D := (dC, dI)) (ci := 9) (v := .int (t_a.1 6)) (C := RX9) (T := TX9) (N := 11) hx hb hts hin9 hown hK hP kp7_ hkp7_ rfl 8 (Nat.le_of_ble_eq_true rfl) (ho (.fieldLink RX8 141 "NearEnough$Step" "over" "I") (List.mem_of_getElem? (i := 1) rfl)) (fun _ h9 => h9) rfl dX8_showScale_12 ?_
    refine lv_if_ne (tgt := 19) hx hb dX8_showScale_15 rfl (fun c8_ => ?_) (fun c8_ => ?_)
    · have tc8_ := (show (t_a.1 6).toInt ≠ 0 from ti_ne rfl rg_11 c8_)
      refine lv_aload_n hx hb dX8_showScale_19 rfl (lv_at hl 0 rfl) ?_
      refine va_get (D := (dC, dI)) (ci := 8) (v := .ref (kA κ 22)) (C := RX8) (T := TX8) (N := 9) hx hb hts hin8 hown hK hP 21 rfl rfl 2 (Nat.le_of_ble_eq_true rfl) (ho (.fieldLink RX8 9 "NearEnough$Shown" "low" "[J") (List.mem_of_getElem? (i := 2) rfl)) (fun _ h9 => h9) rfl dX8_showScale_20 ?_
      refine lv_aload_n hx hb dX8_showScale_23 rfl (lv_at hl 1 rfl) ?_
      have bb9_ := g_a.2.2.1 1 rx_cd17d5a19c rx_be9bb8ec2b
      obtain ⟨kp10_, hkp10_⟩ := cpl (κ := κ) (σ := σ) g_a.1 g_a.2.1
      refine va_get (D := (dC, dI)) (ci := 9) (v := .int (t_a.1 1)) (C := RX9) (T := TX9) (N := 11) hx hb hts hin9 hown hK hP kp10_ hkp10_ rfl 3 (Nat.le_of_ble_eq_true rfl) (ho (.fieldLink RX8 80 "NearEnough$Step" "a" "I") (List.mem_of_getElem? (i := 0) rfl)) (fun _ h9 => h9) rfl dX8_showScale_24 ?_
      have o3 : 0 ≤ (t_a.1 1).toInt := by omega
      have o4 : (t_a.1 1).toInt < ((12 : Nat) : Int) := by omega
      refine va_lald hx hb hK hP 22 17 rfl rfl (ti_inx o3 o4) dX8_showScale_27 ?_
      refine lv_topl (fun y11_ ey11_ => ?_)
      refine lv_aload_n hx hb dX8_showScale_28 rfl (lv_at hl 1 rfl) ?_
      obtain ⟨kp12_, hkp12_⟩ := cpl (κ := κ) (σ := σ) g_a.1 g_a.2.1
      refine va_get (D := (dC, dI)) (ci := 9) (v := .int (t_a.1 5)) (C := RX9) (T := TX9) (N := 11) hx hb hts hin9 hown hK hP kp12_ hkp12_ rfl 7 (Nat.le_of_ble_eq_true rfl) (ho (.fieldLink RX8 144 "NearEnough$Step" "by" "I") (List.mem_of_getElem? (i := 3) rfl)) (fun _ h9 => h9) rfl dX8_showScale_29 ?_
      refine lv_i2l hx hb dX8_showScale_32 rfl ?_
      refine lv_topl (fun y13_ ey13_ => ?_)
      refine lv_lmul hx hb dX8_showScale_33 ?_
      refine lv_topl (fun y14_ ey14_ => ?_)
      refine lv_lstore_n (lv' := [(2, .long y14_), (0, .ref (kA κ 21)), (1, .ref a)]) hx hb dX8_showScale_34 rfl hl (Nat.le_of_ble_eq_true rfl) rfl (fun ls hl => ?_)
      refine lv_aload_n hx hb dX8_showScale_35 rfl (lv_at hl 1 rfl) ?_
      refine va_get (D := (dC, dI)) (ci := 8) (v := .ref (kA κ 23)) (C := RX8) (T := TX8) (N := 9) hx hb hts hin8 hown hK hP 21 rfl rfl 3 (Nat.le_of_ble_eq_true rfl) (ho (.fieldLink RX8 15 "NearEnough$Shown" "high" "[J") (List.mem_of_getElem? (i := 4) rfl)) (fun _ h9 => h9) rfl dX8_showScale_36 ?_
      refine lv_aload_n hx hb dX8_showScale_39 rfl (lv_at hl 2 rfl) ?_
      have bb15_ := g_a.2.2.1 1 rx_cd17d5a19c rx_be9bb8ec2b
      obtain ⟨kp16_, hkp16_⟩ := cpl (κ := κ) (σ := σ) g_a.1 g_a.2.1
      refine va_get (D := (dC, dI)) (ci := 9) (v := .int (t_a.1 1)) (C := RX9) (T := TX9) (N := 11) hx hb hts hin9 hown hK hP kp16_ hkp16_ rfl 3 (Nat.le_of_ble_eq_true rfl) (ho (.fieldLink RX8 80 "NearEnough$Step" "a" "I") (List.mem_of_getElem? (i := 0) rfl)) (fun _ h9 => h9) rfl dX8_showScale_40 ?_
      refine va_lald hx hb hK hP 23 18 rfl rfl (ti_inx o3 o4) dX8_showScale_43 ?_
      refine lv_topl (fun y17_ ey17_ => ?_)
      refine lv_aload_n hx hb dX8_showScale_44 rfl (lv_at hl 2 rfl) ?_
      obtain ⟨kp18_, hkp18_⟩ := cpl (κ := κ) (σ := σ) g_a.1 g_a.2.1
      refine va_get (D := (dC, dI)) (ci := 9) (v := .int (t_a.1 5)) (C := RX9) (T := TX9) (N := 11) hx hb hts hin9 hown hK hP kp18_ hkp18_ rfl 7 (Nat.le_of_ble_eq_true rfl) (ho (.fieldLink RX8 144 "NearEnough$Step" "by" "I") (List.mem_of_getElem? (i := 3) rfl)) (fun _ h9 => h9) rfl dX8_showScale_45 ?_
      refine lv_i2l hx hb dX8_showScale_48 rfl ?_
      refine lv_topl (fun y19_ ey19_ => ?_)
      refine lv_lmul hx hb dX8_showScale_49 ?_
      refine lv_topl (fun y20_ ey20_ => ?_)
      refine lv_lstore (lv' := [(4, .long y20_), (2, .long y14_), (0, .ref (kA κ 21)), (1, .ref a)]) hx hb dX8_showScale_50 hl (Nat.le_of_ble_eq_true rfl) rfl (fun ls hl => ?_)
      refine lv_aload_n hx hb dX8_showScale_52 rfl (lv_at hl 3 rfl) ?_
      obtain ⟨kp21_, hkp21_⟩ := cpl (κ := κ) (σ := σ) g_a.1 g_a.2.1
      refine va_get (D := (dC, dI)) (ci := 9) (v := .int (t_a.1 6)) (C := RX9) (T := TX9) (N := 11) hx hb hts hin9 hown hK hP kp21_ hkp21_ rfl 8 (Nat.le_of_ble_eq_true rfl) (ho (.fieldLink RX8 141 "NearEnough$Step" "over" "I") (List.mem_of_getElem? (i := 1) rfl)) (fun _ h9 => h9) rfl dX8_showScale_53 ?_
      refine lv_i2l hx hb dX8_showScale_56 rfl ?_
      refine lv_topl (fun y22_ ey22_ => ?_)
      refine lv_lstore (lv' := [(6, .long y22_), (4, .long y20_), (2, .long y14_), (0, .ref (kA κ 21)), (1, .ref a)]) hx hb dX8_showScale_57 hl (Nat.le_of_ble_eq_true rfl) rfl (fun ls hl => ?_)
      refine lv_aload_n hx hb dX8_showScale_59 rfl (lv_at hl 3 rfl) ?_
      refine lv_lload_n hx hb dX8_showScale_60 rfl (lv_at hl 2 rfl) ?_
      refine lv_lload hx hb dX8_showScale_61 (lv_at hl 1 rfl) ?_
      refine va_mmin_long hx hb (hml.trans hl.1.symm) hown (ho (.methodLink RX8 147 Lib.MathLoose.min_long.x) (List.mem_of_getElem? (i := 5) rfl)) (ho (.static Lib.MathLoose.min_long.x) (List.mem_of_getElem? (i := 6) rfl)) (ho (.initialized "java/lang/Math") (List.mem_of_getElem? (i := 7) rfl)) (ho (.code Lib.MathLoose.min_long.x Lib.MathLoose.min_long.code 4 (some .long)) (List.mem_of_getElem? (i := 8) rfl)) (Nat.le_of_ble_eq_true rfl) (Nat.le_of_ble_eq_true rfl) (Nat.le_of_ble_eq_true rfl) (Nat.le_of_ble_eq_true rfl) dX8_showScale_63 ?_
      refine lv_topl (fun y23_ ey23_ => ?_)
      refine lv_lload hx hb dX8_showScale_66 (lv_at hl 0 rfl) ?_
      have o5 : (t_a.1 6).toInt ≠ 0 := by omega
      refine zs_l (va_runS (As := [.long y23_, .long y22_]) (rest := [.ref (kA κ 21)]) ⟨hx, hb, hml, hown, hts⟩ (k_floorDiv l dC dI y23_ y22_ (i2l_ne ey22_ o5) H.size) (va_cwS 2 hts gd_k_showScale_149_k_floorDiv rfl rfl rfl dd_k_floorDiv ⟨Nat.le_of_ble_eq_true rfl, Nat.le_of_ble_eq_true rfl⟩) (preS (A := A) empP (hK.sub (tys' := []) [] rfl) empD hE.x) rfl rfl hl.1 rfl (lv_room (Nat.le_of_ble_eq_true rfl)) dX8_showScale_68 ⟨Nat.le_of_ble_eq_true rfl, Nat.le_of_ble_eq_true rfl⟩) hP hD hS hA (fun y24_ H locs hq hP hD hS => ?_)
      have q25_ : True := hq
      refine W.widen (k := 0) (n := 0) (Nat.le_of_ble_eq_true rfl) (Nat.le_of_ble_eq_true rfl) ?_
      refine lv_lconst (v := 1) hx hb dX8_showScale_71 (by decide) ?_
      refine lv_lsub hx hb dX8_showScale_72 ?_
      refine lv_topl (fun y26_ ey26_ => ?_)
      refine lv_lload_n hx hb dX8_showScale_73 rfl (lv_at hl 2 rfl) ?_
      refine lv_lload hx hb dX8_showScale_74 (lv_at hl 1 rfl) ?_
      refine va_mmax_long hx hb (hml.trans hl.1.symm) hown (ho (.methodLink RX8 109 Lib.MathLoose.max_long.x) (List.mem_of_getElem? (i := 9) rfl)) (ho (.static Lib.MathLoose.max_long.x) (List.mem_of_getElem? (i := 10) rfl)) (ho (.initialized "java/lang/Math") (List.mem_of_getElem? (i := 7) rfl)) (ho (.code Lib.MathLoose.max_long.x Lib.MathLoose.max_long.code 4 (some .long)) (List.mem_of_getElem? (i := 11) rfl)) (Nat.le_of_ble_eq_true rfl) (Nat.le_of_ble_eq_true rfl) (Nat.le_of_ble_eq_true rfl) (Nat.le_of_ble_eq_true rfl) dX8_showScale_76 ?_
      refine lv_topl (fun y27_ ey27_ => ?_)
      refine lv_lneg hx hb dX8_showScale_79 ?_
      refine lv_topl (fun y28_ ey28_ => ?_)
      refine lv_lload hx hb dX8_showScale_80 (lv_at hl 0 rfl) ?_
      refine zs_l (va_runS (As := [.long y28_, .long y22_]) (rest := [.long y26_, .ref (kA κ 21)]) ⟨hx, hb, hml, hown, hts⟩ (k_floorDiv l dC dI y28_ y22_ (i2l_ne ey22_ o5) H.size) (va_cwS 2 hts gd_k_showScale_149_k_floorDiv rfl rfl rfl dd_k_floorDiv ⟨Nat.le_of_ble_eq_true rfl, Nat.le_of_ble_eq_true rfl⟩) (preS (A := A) empP (hK.sub (tys' := []) [] rfl) empD hE.x) rfl rfl hl.1 rfl (lv_room (Nat.le_of_ble_eq_true rfl)) dX8_showScale_82 ⟨Nat.le_of_ble_eq_true rfl, Nat.le_of_ble_eq_true rfl⟩) hP hD hS hA (fun y29_ H locs hq hP hD hS => ?_)
      have q30_ : True := hq
      refine W.widen (k := 0) (n := 0) (Nat.le_of_ble_eq_true rfl) (Nat.le_of_ble_eq_true rfl) ?_
      refine lv_lneg hx hb dX8_showScale_85 ?_
      refine lv_topl (fun y31_ ey31_ => ?_)
      refine lv_lconst (v := 1) hx hb dX8_showScale_86 (by decide) ?_
      refine lv_ladd hx hb dX8_showScale_87 ?_
      refine lv_topl (fun y32_ ey32_ => ?_)
      refine zy_v (va_runV (As := [.long y26_, .long y32_]) (rest := []) ⟨hx, hb, hml, hown, hts⟩ (k_set l dC dI κ H.size σ y26_ y32_ hk hI ) (cwV 2 hts gd_k_showScale_116_k_set rfl rfl rfl dd_k_set ⟨Nat.le_of_ble_eq_true rfl, Nat.le_of_ble_eq_true rfl⟩) (preVy hP hK hD hE (ci := 8) (q0 := 21) rfl rfl) rfl rfl hl.1 rfl (lv_room (Nat.le_of_ble_eq_true rfl)) dX8_showScale_88 ⟨Nat.le_of_ble_eq_true rfl, Nat.le_of_ble_eq_true rfl⟩) hD hS hA (fun τ34_ H locs hq hP hD hS => ?_)
      obtain ⟨hτ34_, q35_⟩ := hq
      refine W.widen (k := 0) (n := 0) (Nat.le_of_ble_eq_true rfl) (Nat.le_of_ble_eq_true rfl) ?_
      rw [hQ]
      exact W.vret hx hb hr (fun t ht hW => ⟨⟨τ34_, rfl, ⟨hτ34_, trivial⟩, wEn_of hP (hK.sub [] rfl) hD ht hW⟩, hS.F ht⟩) hS.2.2 dX8_showScale_91
    · have tc8_ := (show (t_a.1 6).toInt = 0 from ti_eq rfl rg_11 c8_)
      rw [hQ]
      exact W.vret hx hb hr (fun t ht hW => ⟨⟨σ, rfl, ⟨hI, trivial⟩, wEn_of hP (hK.sub [] rfl) hD ht hW⟩, hS.F ht⟩) hS.2.2 dX8_showScale_18
def ow_k_showPick : List Cond := [.fieldLink RX8 9 "NearEnough$Shown" "low" "[J", .fieldLink RX8 80 "NearEnough$Step" "a" "I", .fieldLink RX8 113 "NearEnough$Step" "b" "I", .methodLink RX8 147 Lib.MathLoose.min_long.x, .static Lib.MathLoose.min_long.x, .initialized "java/lang/Math", .code Lib.MathLoose.min_long.x Lib.MathLoose.min_long.code 4 (some .long), .fieldLink RX8 15 "NearEnough$Shown" "high" "[J", .methodLink RX8 109 Lib.MathLoose.max_long.x, .static Lib.MathLoose.max_long.x, .code Lib.MathLoose.max_long.x Lib.MathLoose.max_long.code 4 (some .long), .fieldLink RX8 152 "NearEnough$Step" "under" "I", .fieldLink RX8 155 "NearEnough$Step" "other" "I"]
def vs_k_showPick : List Cond := .code yX8_showPick cX8_showPick 2 none :: (ow_k_showPick ++ (([.methodLink RX8 116 yX8_set, .instanceMethod yX8_set, .selects RX8 yX8_set yX8_set, .initialized RX8] : List Cond) ++ (vs_k_set ++ (([.methodLink RX8 83 yX8_errs, .instanceMethod yX8_errs, .selects RX8 yX8_errs yX8_errs, .initialized RX8] : List Cond) ++ (vs_k_errs ++ (([.methodLink RX8 158 yX8_widenByTaking, .instanceMethod yX8_widenByTaking, .selects RX8 yX8_widenByTaking yX8_widenByTaking, .initialized RX8] : List Cond) ++ (vs_k_widen ++ (wsX80 ++ (wsX90)))))))))
theorem vg_k_showPick : vs_k_showPick.all goodWord = true := by decide +kernel
theorem dd_k_showPick : yX8_showPick.cls = RX8 ∧ yX8_showPick.cls ≠ "java/lang/invoke/MethodHandle" ∧ yX8_showPick.cls ≠ "java/lang/invoke/VarHandle" ∧ (parseMethodDescriptor yX8_showPick.desc).map (fun d => d.parameters.length) = some 1 := by decide +kernel
def rm_k_showPick : Room := { frames := 2, cells := 0, slots := 0, locals := 48 }
theorem gd_k_showPick_116_k_set : GoodIn vs_k_showPick (wsV RX8 116 RX8 yX8_set vs_k_set) := goodIn_app (goodIn_sub (fun w h => (List.mem_cons_of_mem _ (List.mem_append_right _ (List.mem_append_left _ h)))) (by decide +kernel)) (goodIn_sub (fun w h => (List.mem_cons_of_mem _ (List.mem_append_right _ (List.mem_append_right _ (List.mem_append_left _ h))))) vg_k_set)
theorem gd_k_showPick_83_k_errs : GoodIn vs_k_showPick (wsV RX8 83 RX8 yX8_errs vs_k_errs) := goodIn_app (goodIn_sub (fun w h => (List.mem_cons_of_mem _ (List.mem_append_right _ (List.mem_append_right _ (List.mem_append_right _ (List.mem_append_left _ h)))))) (by decide +kernel)) (goodIn_sub (fun w h => (List.mem_cons_of_mem _ (List.mem_append_right _ (List.mem_append_right _ (List.mem_append_right _ (List.mem_append_right _ (List.mem_append_left _ h))))))) vg_k_errs)
theorem gd_k_showPick_158_k_widen : GoodIn vs_k_showPick (wsV RX8 158 RX8 yX8_widenByTaking vs_k_widen) := goodIn_app (goodIn_sub (fun w h => (List.mem_cons_of_mem _ (List.mem_append_right _ (List.mem_append_right _ (List.mem_append_right _ (List.mem_append_right _ (List.mem_append_right _ (List.mem_append_left _ h)))))))) (by decide +kernel)) (goodIn_sub (fun w h => (List.mem_cons_of_mem _ (List.mem_append_right _ (List.mem_append_right _ (List.mem_append_right _ (List.mem_append_right _ (List.mem_append_right _ (List.mem_append_right _ (List.mem_append_left _ h))))))))) vg_k_widen)
set_option maxHeartbeats 4000000 in
set_option maxRecDepth 100000 in
theorem k_showPick (l : Launch) (dC : Nat → ClassId) (dI : Nat → Nat → Nat) (κ : CE) (sz : Nat) (σ : MS) (a : Nat) (t_a : TT) (g_a : IsStep κ a t_a) (hk : PInv κ) (hI : CInv σ)  : Met l yX8_showPick vs_k_showPick rm_k_showPick (va_Pc [.ref (kA κ 21), .ref a] (wSy dC dI (cW κ σ) (cT κ) sz)) (va_Qv (fun (τ : MS) => CInv τ ∧ True) (fun (τ : MS) => wEn dC dI (va_A (cW κ σ) sz) (cW κ τ) []) (va_A (cW κ σ) sz)) 0 0 (va_A (cW κ σ) sz) := by
  refine Met.ofW (cc := cX8_showPick) (maxL := 2) (ret := none) (by decide +kernel) rfl ?_
  intro p e s m args below meth c s₁ B hml hv
  obtain ⟨rfl, hsz, hP, hK, hD0, hE⟩ := hv
  have hx := B.exec
  have hb := B.bytes
  have hr := B.returns
  have hts := atoms_spec (ws := vs_k_showPick) B.pre
  have hown : s.vm.findClass RX8 = some m.cls := findClass_of_methodNamed B.named
  have hlocks := B.notSynchronized
  subst hsz
  have hD := hD0.self (sz := s.heap.size)
  generalize hAe : va_A (cW κ σ) s.heap.size = A at hD ⊢
  have hA : ∀ q : Nat, s.heap.size ≤ q → A q := fun q h => by rw [← hAe]; exact Or.inr h
  have hl := lv_entry ([.ref (kA κ 21), .ref a]) (n := 2) (Nat.le_of_ble_eq_true rfl)
  rw [lg_entry_eq]
  generalize (lg_sl ([.ref (kA κ 21), .ref a]) ++ List.replicate (2 - (lg_sl ([.ref (kA κ 21), .ref a])).length) Slot.unset).toArray = ls at hl ⊢
  have hl : lv_has ls 2 [(0, .ref (kA κ 21)), (1, .ref a)] := hl
  have ho := fun w (h : w ∈ ow_k_showPick) => hts w (List.mem_cons_of_mem _ (List.mem_append_left _ h))
  have hin8 : ∀ w ∈ u_ws RX8 TX8 9, w ∈ vs_k_showPick := fun w h => (List.mem_cons_of_mem _ (List.mem_append_right _ (List.mem_append_right _ (List.mem_append_right _ (List.mem_append_right _ (List.mem_append_right _ (List.mem_append_right _ (List.mem_append_right _ (List.mem_append_left _ h)))))))))
  have hin9 : ∀ w ∈ u_ws RX9 TX9 11, w ∈ vs_k_showPick := fun w h => (List.mem_cons_of_mem _ (List.mem_append_right _ (List.mem_append_right _ (List.mem_append_right _ (List.mem_append_right _ (List.mem_append_right _ (List.mem_append_right _ (List.mem_append_right _ (List.mem_append_right _ h)))))))))
  refine zQ (fun Q hQ => ?_)
  refine zH (A := A) (ws := (cW κ σ)) (fun H hP hS => ?_) hP
  have hk0 := hk.1
  have hk1 := hk.2.1
  have hk2 := hk.2.2.1
  refine lv_aload_n hx hb dX8_showPick_0 rfl (lv_at hl 0 rfl) ?_
  refine lv_aload_n hx hb dX8_showPick_1 rfl (lv_at hl 0 rfl) ?_
  refine va_get (D := (dC, dI)) (ci := 8) (v := .ref (kA κ 22)) (C := RX8) (T := TX8) (N := 9) hx hb hts hin8 hown hK hP 21 rfl rfl 2 (Nat.le_of_ble_eq_true rfl) (ho (.fieldLink RX8 9 "NearEnough$Shown" "low" "[J") (List.mem_of_getElem? (i := 0) rfl)) (fun _ h9 => h9) rfl dX8_showPick_2 ?_
  refine lv_aload_n hx hb dX8_showPick_5 rfl (lv_at hl 1 rfl) ?_
  have bb1_ := g_a.2.2.1 1 rx_cd17d5a19c rx_be9bb8ec2b
  obtain ⟨kp2_, hkp2_⟩ := cpl (κ := κ) (σ := σ) g_a.1 g_a.2.1
  refine va_get (D := (dC, dI)) (ci := 9) (v := .int (t_a.1 1)) (C := RX9) (T := TX9) (N := 11) hx hb hts hin9 hown hK hP kp2_ hkp2_ rfl 3 (Nat.le_of_ble_eq_true rfl) (ho (.fieldLink RX8 80 "NearEnough$Step" "a" "I") (List.mem_of_getElem? (i := 1) rfl)) (fun _ h9 => h9) rfl dX8_showPick_6 ?_
  have o1 : 0 ≤ (t_a.1 1).toInt := by omega
  have o2 : (t_a.1 1).toInt < ((12 : Nat) : Int) := by omega
  refine va_lald hx hb hK hP 22 17 rfl rfl (ti_inx o1 o2) dX8_showPick_9 ?_
  refine lv_topl (fun y3_ ey3_ => ?_)
  refine lv_aload_n hx hb dX8_showPick_10 rfl (lv_at hl 0 rfl) ?_
  refine va_get (D := (dC, dI)) (ci := 8) (v := .ref (kA κ 22)) (C := RX8) (T := TX8) (N := 9) hx hb hts hin8 hown hK hP 21 rfl rfl 2 (Nat.le_of_ble_eq_true rfl) (ho (.fieldLink RX8 9 "NearEnough$Shown" "low" "[J") (List.mem_of_getElem? (i := 0) rfl)) (fun _ h9 => h9) rfl dX8_showPick_11 ?_
  refine lv_aload_n hx hb dX8_showPick_14 rfl (lv_at hl 1 rfl) ?_
  have bb4_ := g_a.2.2.1 2 rx_c20517e8ed rx_16813831c6
  obtain ⟨kp5_, hkp5_⟩ := cpl (κ := κ) (σ := σ) g_a.1 g_a.2.1
  refine va_get (D := (dC, dI)) (ci := 9) (v := .int (t_a.1 2)) (C := RX9) (T := TX9) (N := 11) hx hb hts hin9 hown hK hP kp5_ hkp5_ rfl 4 (Nat.le_of_ble_eq_true rfl) (ho (.fieldLink RX8 113 "NearEnough$Step" "b" "I") (List.mem_of_getElem? (i := 2) rfl)) (fun _ h9 => h9) rfl dX8_showPick_15 ?_
  have o3 : 0 ≤ (t_a.1 2).toInt := by omega
  have o4 : (t_a.1 2).toInt < ((12 : Nat) : Int) := by omega
  refine va_lald hx hb hK hP 22 17 rfl rfl (ti_inx o3 o4) dX8_showPick_18 ?_
  refine lv_topl (fun y6_ ey6_ => ?_)
  refine va_mmin_long hx hb (hml.trans hl.1.symm) hown (ho (.methodLink RX8 147 Lib.MathLoose.min_long.x) (List.mem_of_getElem? (i := 3) rfl)) (ho (.static Lib.MathLoose.min_long.x) (List.mem_of_getElem? (i := 4) rfl)) (ho (.initialized "java/lang/Math") (List.mem_of_getElem? (i := 5) rfl)) (ho (.code Lib.MathLoose.min_long.x Lib.MathLoose.min_long.code 4 (some .long)) (List.mem_of_getElem? (i := 6) rfl)) (Nat.le_of_ble_eq_true rfl) (Nat.le_of_ble_eq_true rfl) (Nat.le_of_ble_eq_true rfl) (Nat.le_of_ble_eq_true rfl) dX8_showPick_19 ?_
  refine lv_topl (fun y7_ ey7_ => ?_)
  refine lv_aload_n hx hb dX8_showPick_22 rfl (lv_at hl 0 rfl) ?_
  refine va_get (D := (dC, dI)) (ci := 8) (v := .ref (kA κ 23)) (C := RX8) (T := TX8) (N := 9) hx hb hts hin8 hown hK hP 21 rfl rfl 3 (Nat.le_of_ble_eq_true rfl) (ho (.fieldLink RX8 15 "NearEnough$Shown" "high" "[J") (List.mem_of_getElem? (i := 7) rfl)) (fun _ h9 => h9) rfl dX8_showPick_23 ?_
  refine lv_aload_n hx hb dX8_showPick_26 rfl (lv_at hl 1 rfl) ?_
  have bb8_ := g_a.2.2.1 1 rx_cd17d5a19c rx_be9bb8ec2b
  obtain ⟨kp9_, hkp9_⟩ := cpl (κ := κ) (σ := σ) g_a.1 g_a.2.1
  refine va_get (D := (dC, dI)) (ci := 9) (v := .int (t_a.1 1)) (C := RX9) (T := TX9) (N := 11) hx hb hts hin9 hown hK hP kp9_ hkp9_ rfl 3 (Nat.le_of_ble_eq_true rfl) (ho (.fieldLink RX8 80 "NearEnough$Step" "a" "I") (List.mem_of_getElem? (i := 1) rfl)) (fun _ h9 => h9) rfl dX8_showPick_27 ?_
  refine va_lald hx hb hK hP 23 18 rfl rfl (ti_inx o1 o2) dX8_showPick_30 ?_
  refine lv_topl (fun y10_ ey10_ => ?_)
  refine lv_aload_n hx hb dX8_showPick_31 rfl (lv_at hl 0 rfl) ?_
  refine va_get (D := (dC, dI)) (ci := 8) (v := .ref (kA κ 23)) (C := RX8) (T := TX8) (N := 9) hx hb hts hin8 hown hK hP 21 rfl rfl 3 (Nat.le_of_ble_eq_true rfl) (ho (.fieldLink RX8 15 "NearEnough$Shown" "high" "[J") (List.mem_of_getElem? (i := 7) rfl)) (fun _ h9 => h9) rfl dX8_showPick_32 ?_
  refine lv_aload_n hx hb dX8_showPick_35 rfl (lv_at hl 1 rfl) ?_
  have bb11_ := g_a.2.2.1 2 rx_c20517e8ed rx_16813831c6
  obtain ⟨kp12_, hkp12_⟩ := cpl (κ := κ) (σ := σ) g_a.1 g_a.2.1
  refine va_get (D := (dC, dI)) (ci := 9) (v := .int (t_a.1 2)) (C := RX9) (T := TX9) (N := 11) hx hb hts hin9 hown hK hP kp12_ hkp12_ rfl 4 (Nat.le_of_ble_eq_true rfl) (ho (.fieldLink RX8 113 "NearEnough$Step" "b" "I") (List.mem_of_getElem? (i := 2) rfl)) (fun _ h9 => h9) rfl dX8_showPick_36 ?_
  refine va_lald hx hb hK hP 23 18 rfl rfl (ti_inx o3 o4) dX8_showPick_39 ?_
  refine lv_topl (fun y13_ ey13_ => ?_)
  refine va_mmax_long hx hb (hml.trans hl.1.symm) hown (ho (.methodLink RX8 109 Lib.MathLoose.max_long.x) (List.mem_of_getElem? (i := 8) rfl)) (ho (.static Lib.MathLoose.max_long.x) (List.mem_of_getElem? (i := 9) rfl)) (ho (.initialized "java/lang/Math") (List.mem_of_getElem? (i := 5) rfl)) (ho (.code Lib.MathLoose.max_long.x Lib.MathLoose.max_long.code 4 (some .long)) (List.mem_of_getElem? (i := 10) rfl)) (Nat.le_of_ble_eq_true rfl) (Nat.le_of_ble_eq_true rfl) (Nat.le_of_ble_eq_true rfl) (Nat.le_of_ble_eq_true rfl) dX8_showPick_40 ?_
  refine lv_topl (fun y14_ ey14_ => ?_)
  refine zy_v (va_runV (As := [.long y7_, .long y14_]) (rest := []) ⟨hx, hb, hml, hown, hts⟩ (k_set l dC dI κ H.size σ y7_ y14_ hk hI ) (cwV 2 hts gd_k_showPick_116_k_set rfl rfl rfl dd_k_set ⟨Nat.le_of_ble_eq_true rfl, Nat.le_of_ble_eq_true rfl⟩) (preVy hP hK hD hE (ci := 8) (q0 := 21) rfl rfl) rfl rfl hl.1 rfl (lv_room (Nat.le_of_ble_eq_true rfl)) dX8_showPick_43 ⟨Nat.le_of_ble_eq_true rfl, Nat.le_of_ble_eq_true rfl⟩) hD hS hA (fun τ16_ H locs hq hP hD hS => ?_)
  obtain ⟨hτ16_, q17_⟩ := hq
  refine W.widen (k := 0) (n := 0) (Nat.le_of_ble_eq_true rfl) (Nat.le_of_ble_eq_true rfl) ?_
  refine lv_aload_n hx hb dX8_showPick_46 rfl (lv_at hl 0 rfl) ?_
  refine lv_aload_n hx hb dX8_showPick_47 rfl (lv_at hl 1 rfl) ?_
  have bb18_ := g_a.2.2.1 3 rx_0bd1d6dfed rx_7960e1f0c9
  obtain ⟨kp19_, hkp19_⟩ := cpl (κ := κ) (σ := τ16_) g_a.1 g_a.2.1
  refine va_get (D := (dC, dI)) (ci := 9) (v := .int (t_a.1 3)) (C := RX9) (T := TX9) (N := 11) hx hb hts hin9 hown hK hP kp19_ hkp19_ rfl 5 (Nat.le_of_ble_eq_true rfl) (ho (.fieldLink RX8 152 "NearEnough$Step" "under" "I") (List.mem_of_getElem? (i := 11) rfl)) (fun _ h9 => h9) rfl dX8_showPick_48 ?_
  have o5 : 0 ≤ ((t_a.1 3)).toInt := by omega
  have o6 : ((t_a.1 3)).toInt ≤ 11 := by omega
  refine zy_i (va_runV (As := [.int (t_a.1 3)]) (rest := []) ⟨hx, hb, hml, hown, hts⟩ (k_errs l dC dI κ H.size τ16_ (t_a.1 3) hk hτ16_ ⟨o5, o6⟩) (cwV 1 hts gd_k_showPick_83_k_errs rfl rfl rfl dd_k_errs ⟨Nat.le_of_ble_eq_true rfl, Nat.le_of_ble_eq_true rfl⟩) (preVy hP hK hD hE (ci := 8) (q0 := 21) rfl rfl) rfl rfl hl.1 rfl (lv_room (Nat.le_of_ble_eq_true rfl)) dX8_showPick_51 ⟨Nat.le_of_ble_eq_true rfl, Nat.le_of_ble_eq_true rfl⟩) hD hS hA (fun z20_ τ21_ H locs hq hP hD hS => ?_)
  obtain ⟨hτ21_, q22_⟩ := hq
  rw [hτ21_] at hP hD
  have q22_ : z20_.toInt = 0 ∨ z20_.toInt = 1 := q22_
  refine W.widen (k := 0) (n := 0) (Nat.le_of_ble_eq_true rfl) (Nat.le_of_ble_eq_true rfl) ?_
  refine lv_if_ne (tgt := 68) hx hb dX8_showPick_54 rfl (fun c23_ => ?_) (fun c23_ => ?_)
  · have tc23_ := (show z20_.toInt ≠ 0 from ti_ne rfl rg_11 c23_)
    refine lv_aload_n hx hb dX8_showPick_68 rfl (lv_at hl 0 rfl) ?_
    refine lv_aload_n hx hb dX8_showPick_69 rfl (lv_at hl 1 rfl) ?_
    have bb24_ := g_a.2.2.1 1 rx_cd17d5a19c rx_be9bb8ec2b
    obtain ⟨kp25_, hkp25_⟩ := cpl (κ := κ) (σ := τ16_) g_a.1 g_a.2.1
    refine va_get (D := (dC, dI)) (ci := 9) (v := .int (t_a.1 1)) (C := RX9) (T := TX9) (N := 11) hx hb hts hin9 hown hK hP kp25_ hkp25_ rfl 3 (Nat.le_of_ble_eq_true rfl) (ho (.fieldLink RX8 80 "NearEnough$Step" "a" "I") (List.mem_of_getElem? (i := 1) rfl)) (fun _ h9 => h9) rfl dX8_showPick_70 ?_
    refine lv_aload_n hx hb dX8_showPick_73 rfl (lv_at hl 1 rfl) ?_
    have bb26_ := g_a.2.2.1 2 rx_c20517e8ed rx_16813831c6
    obtain ⟨kp27_, hkp27_⟩ := cpl (κ := κ) (σ := τ16_) g_a.1 g_a.2.1
    refine va_get (D := (dC, dI)) (ci := 9) (v := .int (t_a.1 2)) (C := RX9) (T := TX9) (N := 11) hx hb hts hin9 hown hK hP kp27_ hkp27_ rfl 4 (Nat.le_of_ble_eq_true rfl) (ho (.fieldLink RX8 113 "NearEnough$Step" "b" "I") (List.mem_of_getElem? (i := 2) rfl)) (fun _ h9 => h9) rfl dX8_showPick_74 ?_
    have o7 : 0 ≤ ((t_a.1 1)).toInt := by omega
    have o8 : ((t_a.1 1)).toInt < (pI κ 1).toInt := by omega
    have o9 : 0 ≤ ((t_a.1 2)).toInt := by omega
    have o10 : ((t_a.1 2)).toInt < (pI κ 1).toInt := by omega
    refine zy_v (va_runV (As := [.int (t_a.1 1), .int (t_a.1 2)]) (rest := []) ⟨hx, hb, hml, hown, hts⟩ (k_widen l dC dI κ H.size τ16_ (t_a.1 1) (t_a.1 2) hk hτ16_ ⟨o7, o8⟩ ⟨o9, o10⟩) (cwV 2 hts gd_k_showPick_158_k_widen rfl rfl rfl dd_k_widen ⟨Nat.le_of_ble_eq_true rfl, Nat.le_of_ble_eq_true rfl⟩) (preVy hP hK hD hE (ci := 8) (q0 := 21) rfl rfl) rfl rfl hl.1 rfl (lv_room (Nat.le_of_ble_eq_true rfl)) dX8_showPick_77 ⟨Nat.le_of_ble_eq_true rfl, Nat.le_of_ble_eq_true rfl⟩) hD hS hA (fun τ29_ H locs hq hP hD hS => ?_)
    obtain ⟨hτ29_, q30_⟩ := hq
    refine W.widen (k := 0) (n := 0) (Nat.le_of_ble_eq_true rfl) (Nat.le_of_ble_eq_true rfl) ?_
    refine lv_aload_n hx hb dX8_showPick_80 rfl (lv_at hl 0 rfl) ?_
    refine lv_aload_n hx hb dX8_showPick_81 rfl (lv_at hl 1 rfl) ?_
    have bb31_ := g_a.2.2.1 2 rx_c20517e8ed rx_16813831c6
    obtain ⟨kp32_, hkp32_⟩ := cpl (κ := κ) (σ := τ29_) g_a.1 g_a.2.1
    refine va_get (D := (dC, dI)) (ci := 9) (v := .int (t_a.1 2)) (C := RX9) (T := TX9) (N := 11) hx hb hts hin9 hown hK hP kp32_ hkp32_ rfl 4 (Nat.le_of_ble_eq_true rfl) (ho (.fieldLink RX8 113 "NearEnough$Step" "b" "I") (List.mem_of_getElem? (i := 2) rfl)) (fun _ h9 => h9) rfl dX8_showPick_82 ?_
    refine lv_aload_n hx hb dX8_showPick_85 rfl (lv_at hl 1 rfl) ?_
    have bb33_ := g_a.2.2.1 1 rx_cd17d5a19c rx_be9bb8ec2b
    obtain ⟨kp34_, hkp34_⟩ := cpl (κ := κ) (σ := τ29_) g_a.1 g_a.2.1
    refine va_get (D := (dC, dI)) (ci := 9) (v := .int (t_a.1 1)) (C := RX9) (T := TX9) (N := 11) hx hb hts hin9 hown hK hP kp34_ hkp34_ rfl 3 (Nat.le_of_ble_eq_true rfl) (ho (.fieldLink RX8 80 "NearEnough$Step" "a" "I") (List.mem_of_getElem? (i := 1) rfl)) (fun _ h9 => h9) rfl dX8_showPick_86 ?_
    refine zy_v (va_runV (As := [.int (t_a.1 2), .int (t_a.1 1)]) (rest := []) ⟨hx, hb, hml, hown, hts⟩ (k_widen l dC dI κ H.size τ29_ (t_a.1 2) (t_a.1 1) hk hτ29_ ⟨o9, o10⟩ ⟨o7, o8⟩) (cwV 2 hts gd_k_showPick_158_k_widen rfl rfl rfl dd_k_widen ⟨Nat.le_of_ble_eq_true rfl, Nat.le_of_ble_eq_true rfl⟩) (preVy hP hK hD hE (ci := 8) (q0 := 21) rfl rfl) rfl rfl hl.1 rfl (lv_room (Nat.le_of_ble_eq_true rfl)) dX8_showPick_89 ⟨Nat.le_of_ble_eq_true rfl, Nat.le_of_ble_eq_true rfl⟩) hD hS hA (fun τ36_ H locs hq hP hD hS => ?_)
    obtain ⟨hτ36_, q37_⟩ := hq
    refine W.widen (k := 0) (n := 0) (Nat.le_of_ble_eq_true rfl) (Nat.le_of_ble_eq_true rfl) ?_
    rw [hQ]
    exact W.vret hx hb hr (fun t ht hW => ⟨⟨τ36_, rfl, ⟨hτ36_, trivial⟩, wEn_of hP (hK.sub [] rfl) hD ht hW⟩, hS.F ht⟩) hS.2.2 dX8_showPick_92
  · have tc23_ := (show z20_.toInt = 0 from ti_eq rfl rg_11 c23_)
    refine lv_aload_n hx hb dX8_showPick_57 rfl (lv_at hl 0 rfl) ?_
    refine lv_aload_n hx hb dX8_showPick_58 rfl (lv_at hl 1 rfl) ?_
    have bb38_ := g_a.2.2.1 4 rx_be9bb8ec2b rx_e6c5051dfc
    obtain ⟨kp39_, hkp39_⟩ := cpl (κ := κ) (σ := τ16_) g_a.1 g_a.2.1
    refine va_get (D := (dC, dI)) (ci := 9) (v := .int (t_a.1 4)) (C := RX9) (T := TX9) (N := 11) hx hb hts hin9 hown hK hP kp39_ hkp39_ rfl 6 (Nat.le_of_ble_eq_true rfl) (ho (.fieldLink RX8 155 "NearEnough$Step" "other" "I") (List.mem_of_getElem? (i := 12) rfl)) (fun _ h9 => h9) rfl dX8_showPick_59 ?_
    have o11 : 0 ≤ ((t_a.1 4)).toInt := by omega
    have o12 : ((t_a.1 4)).toInt ≤ 11 := by omega
    refine zy_i (va_runV (As := [.int (t_a.1 4)]) (rest := []) ⟨hx, hb, hml, hown, hts⟩ (k_errs l dC dI κ H.size τ16_ (t_a.1 4) hk hτ16_ ⟨o11, o12⟩) (cwV 1 hts gd_k_showPick_83_k_errs rfl rfl rfl dd_k_errs ⟨Nat.le_of_ble_eq_true rfl, Nat.le_of_ble_eq_true rfl⟩) (preVy hP hK hD hE (ci := 8) (q0 := 21) rfl rfl) rfl rfl hl.1 rfl (lv_room (Nat.le_of_ble_eq_true rfl)) dX8_showPick_62 ⟨Nat.le_of_ble_eq_true rfl, Nat.le_of_ble_eq_true rfl⟩) hD hS hA (fun z40_ τ41_ H locs hq hP hD hS => ?_)
    obtain ⟨hτ41_, q42_⟩ := hq
    rw [hτ41_] at hP hD
    have q42_ : z40_.toInt = 0 ∨ z40_.toInt = 1 := q42_
    refine W.widen (k := 0) (n := 0) (Nat.le_of_ble_eq_true rfl) (Nat.le_of_ble_eq_true rfl) ?_
    refine lv_if_eq (tgt := 92) hx hb dX8_showPick_65 rfl (fun c43_ => ?_) (fun c43_ => ?_)
    · have tc43_ := (show z40_.toInt = 0 from ti_eq rfl rg_11 c43_)
      rw [hQ]
      exact W.vret hx hb hr (fun t ht hW => ⟨⟨τ16_, rfl, ⟨hτ16_, trivial⟩, wEn_of hP (hK.sub [] rfl) hD ht hW⟩, hS.F ht⟩) hS.2.2 dX8_showPick_92
    · have tc43_ := (show z40_.toInt ≠ 0 from ti_ne rfl rg_11 c43_)
      refine lv_aload_n hx hb dX8_showPick_68 rfl (lv_at hl 0 rfl) ?_
      refine lv_aload_n hx hb dX8_showPick_69 rfl (lv_at hl 1 rfl) ?_
      have bb44_ := g_a.2.2.1 1 rx_cd17d5a19c rx_be9bb8ec2b
      obtain ⟨kp45_, hkp45_⟩ := cpl (κ := κ) (σ := τ16_) g_a.1 g_a.2.1
      refine va_get (D := (dC, dI)) (ci := 9) (v := .int (t_a.1 1)) (C := RX9) (T := TX9) (N := 11) hx hb hts hin9 hown hK hP kp45_ hkp45_ rfl 3 (Nat.le_of_ble_eq_true rfl) (ho (.fieldLink RX8 80 "NearEnough$Step" "a" "I") (List.mem_of_getElem? (i := 1) rfl)) (fun _ h9 => h9) rfl dX8_showPick_70 ?_
      refine lv_aload_n hx hb dX8_showPick_73 rfl (lv_at hl 1 rfl) ?_
      have bb46_ := g_a.2.2.1 2 rx_c20517e8ed rx_16813831c6
      obtain ⟨kp47_, hkp47_⟩ := cpl (κ := κ) (σ := τ16_) g_a.1 g_a.2.1
      refine va_get (D := (dC, dI)) (ci := 9) (v := .int (t_a.1 2)) (C := RX9) (T := TX9) (N := 11) hx hb hts hin9 hown hK hP kp47_ hkp47_ rfl 4 (Nat.le_of_ble_eq_true rfl) (ho (.fieldLink RX8 113 "NearEnough$Step" "b" "I") (List.mem_of_getElem? (i := 2) rfl)) (fun _ h9 => h9) rfl dX8_showPick_74 ?_
      have o13 : 0 ≤ ((t_a.1 1)).toInt := by omega
      have o14 : ((t_a.1 1)).toInt < (pI κ 1).toInt := by omega
      have o15 : 0 ≤ ((t_a.1 2)).toInt := by omega
      have o16 : ((t_a.1 2)).toInt < (pI κ 1).toInt := by omega
      refine zy_v (va_runV (As := [.int (t_a.1 1), .int (t_a.1 2)]) (rest := []) ⟨hx, hb, hml, hown, hts⟩ (k_widen l dC dI κ H.size τ16_ (t_a.1 1) (t_a.1 2) hk hτ16_ ⟨o13, o14⟩ ⟨o15, o16⟩) (cwV 2 hts gd_k_showPick_158_k_widen rfl rfl rfl dd_k_widen ⟨Nat.le_of_ble_eq_true rfl, Nat.le_of_ble_eq_true rfl⟩) (preVy hP hK hD hE (ci := 8) (q0 := 21) rfl rfl) rfl rfl hl.1 rfl (lv_room (Nat.le_of_ble_eq_true rfl)) dX8_showPick_77 ⟨Nat.le_of_ble_eq_true rfl, Nat.le_of_ble_eq_true rfl⟩) hD hS hA (fun τ49_ H locs hq hP hD hS => ?_)
      obtain ⟨hτ49_, q50_⟩ := hq
      refine W.widen (k := 0) (n := 0) (Nat.le_of_ble_eq_true rfl) (Nat.le_of_ble_eq_true rfl) ?_
      refine lv_aload_n hx hb dX8_showPick_80 rfl (lv_at hl 0 rfl) ?_
      refine lv_aload_n hx hb dX8_showPick_81 rfl (lv_at hl 1 rfl) ?_
      have bb51_ := g_a.2.2.1 2 rx_c20517e8ed rx_16813831c6
      obtain ⟨kp52_, hkp52_⟩ := cpl (κ := κ) (σ := τ49_) g_a.1 g_a.2.1
      refine va_get (D := (dC, dI)) (ci := 9) (v := .int (t_a.1 2)) (C := RX9) (T := TX9) (N := 11) hx hb hts hin9 hown hK hP kp52_ hkp52_ rfl 4 (Nat.le_of_ble_eq_true rfl) (ho (.fieldLink RX8 113 "NearEnough$Step" "b" "I") (List.mem_of_getElem? (i := 2) rfl)) (fun _ h9 => h9) rfl dX8_showPick_82 ?_
      refine lv_aload_n hx hb dX8_showPick_85 rfl (lv_at hl 1 rfl) ?_
      have bb53_ := g_a.2.2.1 1 rx_cd17d5a19c rx_be9bb8ec2b
      obtain ⟨kp54_, hkp54_⟩ := cpl (κ := κ) (σ := τ49_) g_a.1 g_a.2.1
      refine va_get (D := (dC, dI)) (ci := 9) (v := .int (t_a.1 1)) (C := RX9) (T := TX9) (N := 11) hx hb hts hin9 hown hK hP kp54_ hkp54_ rfl 3 (Nat.le_of_ble_eq_true rfl) (ho (.fieldLink RX8 80 "NearEnough$Step" "a" "I") (List.mem_of_getElem? (i := 1) rfl)) (fun _ h9 => h9) rfl dX8_showPick_86 ?_
      refine zy_v (va_runV (As := [.int (t_a.1 2), .int (t_a.1 1)]) (rest := []) ⟨hx, hb, hml, hown, hts⟩ (k_widen l dC dI κ H.size τ49_ (t_a.1 2) (t_a.1 1) hk hτ49_ ⟨o15, o16⟩ ⟨o13, o14⟩) (cwV 2 hts gd_k_showPick_158_k_widen rfl rfl rfl dd_k_widen ⟨Nat.le_of_ble_eq_true rfl, Nat.le_of_ble_eq_true rfl⟩) (preVy hP hK hD hE (ci := 8) (q0 := 21) rfl rfl) rfl rfl hl.1 rfl (lv_room (Nat.le_of_ble_eq_true rfl)) dX8_showPick_89 ⟨Nat.le_of_ble_eq_true rfl, Nat.le_of_ble_eq_true rfl⟩) hD hS hA (fun τ56_ H locs hq hP hD hS => ?_)
      obtain ⟨hτ56_, q57_⟩ := hq
      refine W.widen (k := 0) (n := 0) (Nat.le_of_ble_eq_true rfl) (Nat.le_of_ble_eq_true rfl) ?_
      rw [hQ]
      exact W.vret hx hb hr (fun t ht hW => ⟨⟨τ56_, rfl, ⟨hτ56_, trivial⟩, wEn_of hP (hK.sub [] rfl) hD ht hW⟩, hS.F ht⟩) hS.2.2 dX8_showPick_92
def ow_k_showFromSteps : List Cond := [.fieldLink RX8 80 "NearEnough$Step" "a" "I", .fieldLink RX8 113 "NearEnough$Step" "b" "I", .fieldLink RX8 75 "NearEnough$Step" "kind" "I", .fieldLink RX8 9 "NearEnough$Shown" "low" "[J", .fieldLink RX8 15 "NearEnough$Shown" "high" "[J"]
def vs_k_showFromSteps : List Cond := .code yX8_showFromSteps cX8_showFromSteps 4 none :: (ow_k_showFromSteps ++ (([.methodLink RX8 127 yX8_showPick, .instanceMethod yX8_showPick, .selects RX8 yX8_showPick yX8_showPick, .initialized RX8] : List Cond) ++ (vs_k_showPick ++ (([.methodLink RX8 116 yX8_set, .instanceMethod yX8_set, .selects RX8 yX8_set yX8_set, .initialized RX8] : List Cond) ++ (vs_k_set ++ (([.methodLink RX8 120 yX8_showTimes, .instanceMethod yX8_showTimes, .selects RX8 yX8_showTimes yX8_showTimes, .initialized RX8] : List Cond) ++ (vs_k_showTimes ++ (([.methodLink RX8 124 yX8_showScale, .instanceMethod yX8_showScale, .selects RX8 yX8_showScale yX8_showScale, .initialized RX8] : List Cond) ++ (vs_k_showScale ++ (wsX80 ++ (wsX90)))))))))))
theorem vg_k_showFromSteps : vs_k_showFromSteps.all goodWord = true := by decide +kernel
theorem dd_k_showFromSteps : yX8_showFromSteps.cls = RX8 ∧ yX8_showFromSteps.cls ≠ "java/lang/invoke/MethodHandle" ∧ yX8_showFromSteps.cls ≠ "java/lang/invoke/VarHandle" ∧ (parseMethodDescriptor yX8_showFromSteps.desc).map (fun d => d.parameters.length) = some 1 := by decide +kernel
def rm_k_showFromSteps : Room := { frames := 3, cells := 0, slots := 0, locals := 75 }
theorem gd_k_showFromSteps_127_k_showPick : GoodIn vs_k_showFromSteps (wsV RX8 127 RX8 yX8_showPick vs_k_showPick) := goodIn_app (goodIn_sub (fun w h => (List.mem_cons_of_mem _ (List.mem_append_right _ (List.mem_append_left _ h)))) (by decide +kernel)) (goodIn_sub (fun w h => (List.mem_cons_of_mem _ (List.mem_append_right _ (List.mem_append_right _ (List.mem_append_left _ h))))) vg_k_showPick)
theorem gd_k_showFromSteps_116_k_set : GoodIn vs_k_showFromSteps (wsV RX8 116 RX8 yX8_set vs_k_set) := goodIn_app (goodIn_sub (fun w h => (List.mem_cons_of_mem _ (List.mem_append_right _ (List.mem_append_right _ (List.mem_append_right _ (List.mem_append_left _ h)))))) (by decide +kernel)) (goodIn_sub (fun w h => (List.mem_cons_of_mem _ (List.mem_append_right _ (List.mem_append_right _ (List.mem_append_right _ (List.mem_append_right _ (List.mem_append_left _ h))))))) vg_k_set)
theorem gd_k_showFromSteps_120_k_showTimes : GoodIn vs_k_showFromSteps (wsV RX8 120 RX8 yX8_showTimes vs_k_showTimes) := goodIn_app (goodIn_sub (fun w h => (List.mem_cons_of_mem _ (List.mem_append_right _ (List.mem_append_right _ (List.mem_append_right _ (List.mem_append_right _ (List.mem_append_right _ (List.mem_append_left _ h)))))))) (by decide +kernel)) (goodIn_sub (fun w h => (List.mem_cons_of_mem _ (List.mem_append_right _ (List.mem_append_right _ (List.mem_append_right _ (List.mem_append_right _ (List.mem_append_right _ (List.mem_append_right _ (List.mem_append_left _ h))))))))) vg_k_showTimes)
theorem gd_k_showFromSteps_124_k_showScale : GoodIn vs_k_showFromSteps (wsV RX8 124 RX8 yX8_showScale vs_k_showScale) := goodIn_app (goodIn_sub (fun w h => (List.mem_cons_of_mem _ (List.mem_append_right _ (List.mem_append_right _ (List.mem_append_right _ (List.mem_append_right _ (List.mem_append_right _ (List.mem_append_right _ (List.mem_append_right _ (List.mem_append_left _ h)))))))))) (by decide +kernel)) (goodIn_sub (fun w h => (List.mem_cons_of_mem _ (List.mem_append_right _ (List.mem_append_right _ (List.mem_append_right _ (List.mem_append_right _ (List.mem_append_right _ (List.mem_append_right _ (List.mem_append_right _ (List.mem_append_right _ (List.mem_append_left _ h))))))))))) vg_k_showScale)
set_option maxHeartbeats 4000000 in
set_option maxRecDepth 100000 in
theorem k_showFromSteps (l : Launch) (dC : Nat → ClassId) (dI : Nat → Nat → Nat) (κ : CE) (sz : Nat) (σ : MS) (a : Nat) (t_a : TT) (g_a : IsStep κ a t_a) (hk : PInv κ) (hI : CInv σ)  : Met l yX8_showFromSteps vs_k_showFromSteps rm_k_showFromSteps (va_Pc [.ref (kA κ 21), .ref a] (wSy dC dI (cW κ σ) (cT κ) sz)) (va_Qv (fun (τ : MS) => CInv τ ∧ True) (fun (τ : MS) => wEn dC dI (va_A (cW κ σ) sz) (cW κ τ) []) (va_A (cW κ σ) sz)) 0 0 (va_A (cW κ σ) sz) := by
  refine Met.ofW (cc := cX8_showFromSteps) (maxL := 4) (ret := none) (by decide +kernel) rfl ?_
  intro p e s m args below meth c s₁ B hml hv
  obtain ⟨rfl, hsz, hP, hK, hD0, hE⟩ := hv
  have hx := B.exec
  have hb := B.bytes
  have hr := B.returns
  have hts := atoms_spec (ws := vs_k_showFromSteps) B.pre
  have hown : s.vm.findClass RX8 = some m.cls := findClass_of_methodNamed B.named
  have hlocks := B.notSynchronized
  subst hsz
  have hD := hD0.self (sz := s.heap.size)
  generalize hAe : va_A (cW κ σ) s.heap.size = A at hD ⊢
  have hA : ∀ q : Nat, s.heap.size ≤ q → A q := fun q h => by rw [← hAe]; exact Or.inr h
  have hl := lv_entry ([.ref (kA κ 21), .ref a]) (n := 4) (Nat.le_of_ble_eq_true rfl)
  rw [lg_entry_eq]
  generalize (lg_sl ([.ref (kA κ 21), .ref a]) ++ List.replicate (4 - (lg_sl ([.ref (kA κ 21), .ref a])).length) Slot.unset).toArray = ls at hl ⊢
  have hl : lv_has ls 4 [(0, .ref (kA κ 21)), (1, .ref a)] := hl
  have ho := fun w (h : w ∈ ow_k_showFromSteps) => hts w (List.mem_cons_of_mem _ (List.mem_append_left _ h))
  have hin8 : ∀ w ∈ u_ws RX8 TX8 9, w ∈ vs_k_showFromSteps := fun w h => (List.mem_cons_of_mem _ (List.mem_append_right _ (List.mem_append_right _ (List.mem_append_right _ (List.mem_append_right _ (List.mem_append_right _ (List.mem_append_right _ (List.mem_append_right _ (List.mem_append_right _ (List.mem_append_right _ (List.mem_append_left _ h)))))))))))
  have hin9 : ∀ w ∈ u_ws RX9 TX9 11, w ∈ vs_k_showFromSteps := fun w h => (List.mem_cons_of_mem _ (List.mem_append_right _ (List.mem_append_right _ (List.mem_append_right _ (List.mem_append_right _ (List.mem_append_right _ (List.mem_append_right _ (List.mem_append_right _ (List.mem_append_right _ (List.mem_append_right _ (List.mem_append_right _ h)))))))))))
  refine zQ (fun Q hQ => ?_)
  refine zH (A := A) (ws := (cW κ σ)) (fun H hP hS => ?_) hP
  have hk0 := hk.1
  have hk1 := hk.2.1
  have hk2 := hk.2.2.1
  have bb_ := fun j h1 h2 => g_a.2.2.1 j h1 h2
  refine lv_aload_n hx hb dX8_showFromSteps_0 rfl (lv_at hl 1 rfl) ?_
  have bb1_ := g_a.2.2.1 1 rx_cd17d5a19c rx_be9bb8ec2b
  obtain ⟨kp2_, hkp2_⟩ := cpl (κ := κ) (σ := σ) g_a.1 g_a.2.1
  refine va_get (D := (dC, dI)) (ci := 9) (v := .int (t_a.1 1)) (C := RX9) (T := TX9) (N := 11) hx hb hts hin9 hown hK hP kp2_ hkp2_ rfl 3 (Nat.le_of_ble_eq_true rfl) (ho (.fieldLink RX8 80 "NearEnough$Step" "a" "I") (List.mem_of_getElem? (i := 0) rfl)) (fun _ h9 => h9) rfl dX8_showFromSteps_1 ?_
  refine lv_istore_n (lv' := [(2, .int (t_a.1 1)), (0, .ref (kA κ 21)), (1, .ref a)]) hx hb dX8_showFromSteps_4 rfl hl (Nat.le_of_ble_eq_true rfl) rfl (fun ls hl => ?_)
  refine lv_aload_n hx hb dX8_showFromSteps_5 rfl (lv_at hl 2 rfl) ?_
  have bb3_ := g_a.2.2.1 2 rx_c20517e8ed rx_16813831c6
  obtain ⟨kp4_, hkp4_⟩ := cpl (κ := κ) (σ := σ) g_a.1 g_a.2.1
  refine va_get (D := (dC, dI)) (ci := 9) (v := .int (t_a.1 2)) (C := RX9) (T := TX9) (N := 11) hx hb hts hin9 hown hK hP kp4_ hkp4_ rfl 4 (Nat.le_of_ble_eq_true rfl) (ho (.fieldLink RX8 113 "NearEnough$Step" "b" "I") (List.mem_of_getElem? (i := 1) rfl)) (fun _ h9 => h9) rfl dX8_showFromSteps_6 ?_
  refine lv_istore_n (lv' := [(3, .int (t_a.1 2)), (2, .int (t_a.1 1)), (0, .ref (kA κ 21)), (1, .ref a)]) hx hb dX8_showFromSteps_9 rfl hl (Nat.le_of_ble_eq_true rfl) rfl (fun ls hl => ?_)
  refine lv_aload_n hx hb dX8_showFromSteps_10 rfl (lv_at hl 3 rfl) ?_
  obtain ⟨kp5_, hkp5_⟩ := cpl (κ := κ) (σ := σ) g_a.1 g_a.2.1
  refine va_get (D := (dC, dI)) (ci := 9) (v := .int (t_a.1 0)) (C := RX9) (T := TX9) (N := 11) hx hb hts hin9 hown hK hP kp5_ hkp5_ rfl 0 (Nat.le_of_ble_eq_true rfl) (ho (.fieldLink RX8 75 "NearEnough$Step" "kind" "I") (List.mem_of_getElem? (i := 2) rfl)) (fun _ h9 => h9) rfl dX8_showFromSteps_11 ?_
  by_cases c_lo : (t_a.1 0).toInt < 2
  · refine lv_tableOut (tgt := 127) hx hb dX8_showFromSteps_14 (Or.inl c_lo) rfl ?_
    refine lv_aload_n hx hb dX8_showFromSteps_127 rfl (lv_at hl 2 rfl) ?_
    refine lv_aload_n hx hb dX8_showFromSteps_128 rfl (lv_at hl 3 rfl) ?_
    refine zy_v (va_runV (As := [.ref a]) (rest := []) ⟨hx, hb, hml, hown, hts⟩ (k_showPick l dC dI κ H.size σ a t_a g_a hk hI ) (cwV 1 hts gd_k_showFromSteps_127_k_showPick rfl rfl rfl dd_k_showPick ⟨Nat.le_of_ble_eq_true rfl, Nat.le_of_ble_eq_true rfl⟩) (preVy hP hK hD hE (ci := 8) (q0 := 21) rfl rfl) rfl rfl hl.1 rfl (lv_room (Nat.le_of_ble_eq_true rfl)) dX8_showFromSteps_129 ⟨Nat.le_of_ble_eq_true rfl, Nat.le_of_ble_eq_true rfl⟩) hD hS hA (fun τ7_ H locs hq hP hD hS => ?_)
    obtain ⟨hτ7_, q8_⟩ := hq
    refine W.widen (k := 0) (n := 0) (Nat.le_of_ble_eq_true rfl) (Nat.le_of_ble_eq_true rfl) ?_
    rw [hQ]
    exact W.vret hx hb hr (fun t ht hW => ⟨⟨τ7_, rfl, ⟨hτ7_, trivial⟩, wEn_of hP (hK.sub [] rfl) hD ht hW⟩, hS.F ht⟩) hS.2.2 dX8_showFromSteps_132
  · by_cases c_hi : 5 < (t_a.1 0).toInt
    · refine lv_tableOut (tgt := 127) hx hb dX8_showFromSteps_14 (Or.inr c_hi) rfl ?_
      refine lv_aload_n hx hb dX8_showFromSteps_127 rfl (lv_at hl 2 rfl) ?_
      refine lv_aload_n hx hb dX8_showFromSteps_128 rfl (lv_at hl 3 rfl) ?_
      refine zy_v (va_runV (As := [.ref a]) (rest := []) ⟨hx, hb, hml, hown, hts⟩ (k_showPick l dC dI κ H.size σ a t_a g_a hk hI ) (cwV 1 hts gd_k_showFromSteps_127_k_showPick rfl rfl rfl dd_k_showPick ⟨Nat.le_of_ble_eq_true rfl, Nat.le_of_ble_eq_true rfl⟩) (preVy hP hK hD hE (ci := 8) (q0 := 21) rfl rfl) rfl rfl hl.1 rfl (lv_room (Nat.le_of_ble_eq_true rfl)) dX8_showFromSteps_129 ⟨Nat.le_of_ble_eq_true rfl, Nat.le_of_ble_eq_true rfl⟩) hD hS hA (fun τ10_ H locs hq hP hD hS => ?_)
      obtain ⟨hτ10_, q11_⟩ := hq
      refine W.widen (k := 0) (n := 0) (Nat.le_of_ble_eq_true rfl) (Nat.le_of_ble_eq_true rfl) ?_
      rw [hQ]
      exact W.vret hx hb hr (fun t ht hW => ⟨⟨τ10_, rfl, ⟨hτ10_, trivial⟩, wEn_of hP (hK.sub [] rfl) hD ht hW⟩, hS.F ht⟩) hS.2.2 dX8_showFromSteps_132
    · rcases (show (t_a.1 0).toInt = 2 ∨ (t_a.1 0).toInt = 3 ∨ (t_a.1 0).toInt = 4 ∨ (t_a.1 0).toInt = 5 by omega) with t_sw | t_sw | t_sw | t_sw
      · refine lv_tableIn (tgt := 44) (off := 30) hx hb dX8_showFromSteps_14 (by rw [t_sw]; decide) (by rw [t_sw]; decide) (by rw [t_sw]; decide) (by decide) ?_
        refine lv_aload_n hx hb dX8_showFromSteps_44 rfl (lv_at hl 2 rfl) ?_
        refine lv_aload_n hx hb dX8_showFromSteps_45 rfl (lv_at hl 2 rfl) ?_
        refine va_get (D := (dC, dI)) (ci := 8) (v := .ref (kA κ 22)) (C := RX8) (T := TX8) (N := 9) hx hb hts hin8 hown hK hP 21 rfl rfl 2 (Nat.le_of_ble_eq_true rfl) (ho (.fieldLink RX8 9 "NearEnough$Shown" "low" "[J") (List.mem_of_getElem? (i := 3) rfl)) (fun _ h9 => h9) rfl dX8_showFromSteps_46 ?_
        refine lv_iload_n hx hb dX8_showFromSteps_49 rfl (lv_at hl 1 rfl) ?_
        have o1 : 0 ≤ (t_a.1 1).toInt := by omega
        have o2 : (t_a.1 1).toInt < ((12 : Nat) : Int) := by omega
        refine va_lald hx hb hK hP 22 17 rfl rfl (ti_inx o1 o2) dX8_showFromSteps_50 ?_
        refine lv_topl (fun y12_ ey12_ => ?_)
        refine lv_aload_n hx hb dX8_showFromSteps_51 rfl (lv_at hl 2 rfl) ?_
        refine va_get (D := (dC, dI)) (ci := 8) (v := .ref (kA κ 22)) (C := RX8) (T := TX8) (N := 9) hx hb hts hin8 hown hK hP 21 rfl rfl 2 (Nat.le_of_ble_eq_true rfl) (ho (.fieldLink RX8 9 "NearEnough$Shown" "low" "[J") (List.mem_of_getElem? (i := 3) rfl)) (fun _ h9 => h9) rfl dX8_showFromSteps_52 ?_
        refine lv_iload_n hx hb dX8_showFromSteps_55 rfl (lv_at hl 0 rfl) ?_
        have o3 : 0 ≤ (t_a.1 2).toInt := by omega
        have o4 : (t_a.1 2).toInt < ((12 : Nat) : Int) := by omega
        refine va_lald hx hb hK hP 22 17 rfl rfl (ti_inx o3 o4) dX8_showFromSteps_56 ?_
        refine lv_topl (fun y13_ ey13_ => ?_)
        refine lv_ladd hx hb dX8_showFromSteps_57 ?_
        refine lv_topl (fun y14_ ey14_ => ?_)
        refine lv_aload_n hx hb dX8_showFromSteps_58 rfl (lv_at hl 2 rfl) ?_
        refine va_get (D := (dC, dI)) (ci := 8) (v := .ref (kA κ 23)) (C := RX8) (T := TX8) (N := 9) hx hb hts hin8 hown hK hP 21 rfl rfl 3 (Nat.le_of_ble_eq_true rfl) (ho (.fieldLink RX8 15 "NearEnough$Shown" "high" "[J") (List.mem_of_getElem? (i := 4) rfl)) (fun _ h9 => h9) rfl dX8_showFromSteps_59 ?_
        refine lv_iload_n hx hb dX8_showFromSteps_62 rfl (lv_at hl 1 rfl) ?_
        refine va_lald hx hb hK hP 23 18 rfl rfl (ti_inx o1 o2) dX8_showFromSteps_63 ?_
        refine lv_topl (fun y15_ ey15_ => ?_)
        refine lv_aload_n hx hb dX8_showFromSteps_64 rfl (lv_at hl 2 rfl) ?_
        refine va_get (D := (dC, dI)) (ci := 8) (v := .ref (kA κ 23)) (C := RX8) (T := TX8) (N := 9) hx hb hts hin8 hown hK hP 21 rfl rfl 3 (Nat.le_of_ble_eq_true rfl) (ho (.fieldLink RX8 15 "NearEnough$Shown" "high" "[J") (List.mem_of_getElem? (i := 4) rfl)) (fun _ h9 => h9) rfl dX8_showFromSteps_65 ?_
        refine lv_iload_n hx hb dX8_showFromSteps_68 rfl (lv_at hl 0 rfl) ?_
        refine va_lald hx hb hK hP 23 18 rfl rfl (ti_inx o3 o4) dX8_showFromSteps_69 ?_
        refine lv_topl (fun y16_ ey16_ => ?_)
        refine lv_ladd hx hb dX8_showFromSteps_70 ?_
        refine lv_topl (fun y17_ ey17_ => ?_)
        refine zy_v (va_runV (As := [.long y14_, .long y17_]) (rest := []) ⟨hx, hb, hml, hown, hts⟩ (k_set l dC dI κ H.size σ y14_ y17_ hk hI ) (cwV 2 hts gd_k_showFromSteps_116_k_set rfl rfl rfl dd_k_set ⟨Nat.le_of_ble_eq_true rfl, Nat.le_of_ble_eq_true rfl⟩) (preVy hP hK hD hE (ci := 8) (q0 := 21) rfl rfl) rfl rfl hl.1 rfl (lv_room (Nat.le_of_ble_eq_true rfl)) dX8_showFromSteps_71 ⟨Nat.le_of_ble_eq_true rfl, Nat.le_of_ble_eq_true rfl⟩) hD hS hA (fun τ19_ H locs hq hP hD hS => ?_)
        obtain ⟨hτ19_, q20_⟩ := hq
        refine W.widen (k := 0) (n := 0) (Nat.le_of_ble_eq_true rfl) (Nat.le_of_ble_eq_true rfl) ?_
        refine lv_goto (tgt := 132) hx hb dX8_showFromSteps_74 rfl ?_
        rw [hQ]
        exact W.vret hx hb hr (fun t ht hW => ⟨⟨τ19_, rfl, ⟨hτ19_, trivial⟩, wEn_of hP (hK.sub [] rfl) hD ht hW⟩, hS.F ht⟩) hS.2.2 dX8_showFromSteps_132
      · refine lv_tableIn (tgt := 77) (off := 63) hx hb dX8_showFromSteps_14 (by rw [t_sw]; decide) (by rw [t_sw]; decide) (by rw [t_sw]; decide) (by decide) ?_
        refine lv_aload_n hx hb dX8_showFromSteps_77 rfl (lv_at hl 2 rfl) ?_
        refine lv_aload_n hx hb dX8_showFromSteps_78 rfl (lv_at hl 2 rfl) ?_
        refine va_get (D := (dC, dI)) (ci := 8) (v := .ref (kA κ 22)) (C := RX8) (T := TX8) (N := 9) hx hb hts hin8 hown hK hP 21 rfl rfl 2 (Nat.le_of_ble_eq_true rfl) (ho (.fieldLink RX8 9 "NearEnough$Shown" "low" "[J") (List.mem_of_getElem? (i := 3) rfl)) (fun _ h9 => h9) rfl dX8_showFromSteps_79 ?_
        refine lv_iload_n hx hb dX8_showFromSteps_82 rfl (lv_at hl 1 rfl) ?_
        have o5 : 0 ≤ (t_a.1 1).toInt := by omega
        have o6 : (t_a.1 1).toInt < ((12 : Nat) : Int) := by omega
        refine va_lald hx hb hK hP 22 17 rfl rfl (ti_inx o5 o6) dX8_showFromSteps_83 ?_
        refine lv_topl (fun y21_ ey21_ => ?_)
        refine lv_aload_n hx hb dX8_showFromSteps_84 rfl (lv_at hl 2 rfl) ?_
        refine va_get (D := (dC, dI)) (ci := 8) (v := .ref (kA κ 23)) (C := RX8) (T := TX8) (N := 9) hx hb hts hin8 hown hK hP 21 rfl rfl 3 (Nat.le_of_ble_eq_true rfl) (ho (.fieldLink RX8 15 "NearEnough$Shown" "high" "[J") (List.mem_of_getElem? (i := 4) rfl)) (fun _ h9 => h9) rfl dX8_showFromSteps_85 ?_
        refine lv_iload_n hx hb dX8_showFromSteps_88 rfl (lv_at hl 0 rfl) ?_
        have o7 : 0 ≤ (t_a.1 2).toInt := by omega
        have o8 : (t_a.1 2).toInt < ((12 : Nat) : Int) := by omega
        refine va_lald hx hb hK hP 23 18 rfl rfl (ti_inx o7 o8) dX8_showFromSteps_89 ?_
        refine lv_topl (fun y22_ ey22_ => ?_)
        refine lv_lsub hx hb dX8_showFromSteps_90 ?_
        refine lv_topl (fun y23_ ey23_ => ?_)
        refine lv_aload_n hx hb dX8_showFromSteps_91 rfl (lv_at hl 2 rfl) ?_
        refine va_get (D := (dC, dI)) (ci := 8) (v := .ref (kA κ 23)) (C := RX8) (T := TX8) (N := 9) hx hb hts hin8 hown hK hP 21 rfl rfl 3 (Nat.le_of_ble_eq_true rfl) (ho (.fieldLink RX8 15 "NearEnough$Shown" "high" "[J") (List.mem_of_getElem? (i := 4) rfl)) (fun _ h9 => h9) rfl dX8_showFromSteps_92 ?_
        refine lv_iload_n hx hb dX8_showFromSteps_95 rfl (lv_at hl 1 rfl) ?_
        refine va_lald hx hb hK hP 23 18 rfl rfl (ti_inx o5 o6) dX8_showFromSteps_96 ?_
        refine lv_topl (fun y24_ ey24_ => ?_)
        refine lv_aload_n hx hb dX8_showFromSteps_97 rfl (lv_at hl 2 rfl) ?_
        refine va_get (D := (dC, dI)) (ci := 8) (v := .ref (kA κ 22)) (C := RX8) (T := TX8) (N := 9) hx hb hts hin8 hown hK hP 21 rfl rfl 2 (Nat.le_of_ble_eq_true rfl) (ho (.fieldLink RX8 9 "NearEnough$Shown" "low" "[J") (List.mem_of_getElem? (i := 3) rfl)) (fun _ h9 => h9) rfl dX8_showFromSteps_98 ?_
        refine lv_iload_n hx hb dX8_showFromSteps_101 rfl (lv_at hl 0 rfl) ?_
        refine va_lald hx hb hK hP 22 17 rfl rfl (ti_inx o7 o8) dX8_showFromSteps_102 ?_
        refine lv_topl (fun y25_ ey25_ => ?_)
        refine lv_lsub hx hb dX8_showFromSteps_103 ?_
        refine lv_topl (fun y26_ ey26_ => ?_)
        refine zy_v (va_runV (As := [.long y23_, .long y26_]) (rest := []) ⟨hx, hb, hml, hown, hts⟩ (k_set l dC dI κ H.size σ y23_ y26_ hk hI ) (cwV 2 hts gd_k_showFromSteps_116_k_set rfl rfl rfl dd_k_set ⟨Nat.le_of_ble_eq_true rfl, Nat.le_of_ble_eq_true rfl⟩) (preVy hP hK hD hE (ci := 8) (q0 := 21) rfl rfl) rfl rfl hl.1 rfl (lv_room (Nat.le_of_ble_eq_true rfl)) dX8_showFromSteps_104 ⟨Nat.le_of_ble_eq_true rfl, Nat.le_of_ble_eq_true rfl⟩) hD hS hA (fun τ28_ H locs hq hP hD hS => ?_)
        obtain ⟨hτ28_, q29_⟩ := hq
        refine W.widen (k := 0) (n := 0) (Nat.le_of_ble_eq_true rfl) (Nat.le_of_ble_eq_true rfl) ?_
        refine lv_goto (tgt := 132) hx hb dX8_showFromSteps_107 rfl ?_
        rw [hQ]
        exact W.vret hx hb hr (fun t ht hW => ⟨⟨τ28_, rfl, ⟨hτ28_, trivial⟩, wEn_of hP (hK.sub [] rfl) hD ht hW⟩, hS.F ht⟩) hS.2.2 dX8_showFromSteps_132
      · refine lv_tableIn (tgt := 110) (off := 96) hx hb dX8_showFromSteps_14 (by rw [t_sw]; decide) (by rw [t_sw]; decide) (by rw [t_sw]; decide) (by decide) ?_
        refine lv_aload_n hx hb dX8_showFromSteps_110 rfl (lv_at hl 2 rfl) ?_
        refine lv_iload_n hx hb dX8_showFromSteps_111 rfl (lv_at hl 1 rfl) ?_
        refine lv_iload_n hx hb dX8_showFromSteps_112 rfl (lv_at hl 0 rfl) ?_
        have o9 : 0 ≤ ((t_a.1 1)).toInt := by omega
        have o10 : ((t_a.1 1)).toInt < (pI κ 1).toInt := by omega
        have o11 : 0 ≤ ((t_a.1 2)).toInt := by omega
        have o12 : ((t_a.1 2)).toInt < (pI κ 1).toInt := by omega
        refine zy_v (va_runV (As := [.int (t_a.1 1), .int (t_a.1 2)]) (rest := []) ⟨hx, hb, hml, hown, hts⟩ (k_showTimes l dC dI κ H.size σ (t_a.1 1) (t_a.1 2) hk hI ⟨o9, o10⟩ ⟨o11, o12⟩) (cwV 2 hts gd_k_showFromSteps_120_k_showTimes rfl rfl rfl dd_k_showTimes ⟨Nat.le_of_ble_eq_true rfl, Nat.le_of_ble_eq_true rfl⟩) (preVy hP hK hD hE (ci := 8) (q0 := 21) rfl rfl) rfl rfl hl.1 rfl (lv_room (Nat.le_of_ble_eq_true rfl)) dX8_showFromSteps_113 ⟨Nat.le_of_ble_eq_true rfl, Nat.le_of_ble_eq_true rfl⟩) hD hS hA (fun τ31_ H locs hq hP hD hS => ?_)
        obtain ⟨hτ31_, q32_⟩ := hq
        refine W.widen (k := 0) (n := 0) (Nat.le_of_ble_eq_true rfl) (Nat.le_of_ble_eq_true rfl) ?_
        refine lv_goto (tgt := 132) hx hb dX8_showFromSteps_116 rfl ?_
        rw [hQ]
        exact W.vret hx hb hr (fun t ht hW => ⟨⟨τ31_, rfl, ⟨hτ31_, trivial⟩, wEn_of hP (hK.sub [] rfl) hD ht hW⟩, hS.F ht⟩) hS.2.2 dX8_showFromSteps_132
      · refine lv_tableIn (tgt := 119) (off := 105) hx hb dX8_showFromSteps_14 (by rw [t_sw]; decide) (by rw [t_sw]; decide) (by rw [t_sw]; decide) (by decide) ?_
        refine lv_aload_n hx hb dX8_showFromSteps_119 rfl (lv_at hl 2 rfl) ?_
        refine lv_aload_n hx hb dX8_showFromSteps_120 rfl (lv_at hl 3 rfl) ?_
        refine zy_v (va_runV (As := [.ref a]) (rest := []) ⟨hx, hb, hml, hown, hts⟩ (k_showScale l dC dI κ H.size σ a t_a g_a hk hI ) (cwV 1 hts gd_k_showFromSteps_124_k_showScale rfl rfl rfl dd_k_showScale ⟨Nat.le_of_ble_eq_true rfl, Nat.le_of_ble_eq_true rfl⟩) (preVy hP hK hD hE (ci := 8) (q0 := 21) rfl rfl) rfl rfl hl.1 rfl (lv_room (Nat.le_of_ble_eq_true rfl)) dX8_showFromSteps_121 ⟨Nat.le_of_ble_eq_true rfl, Nat.le_of_ble_eq_true rfl⟩) hD hS hA (fun τ34_ H locs hq hP hD hS => ?_)
        obtain ⟨hτ34_, q35_⟩ := hq
        refine W.widen (k := 0) (n := 0) (Nat.le_of_ble_eq_true rfl) (Nat.le_of_ble_eq_true rfl) ?_
        refine lv_goto (tgt := 132) hx hb dX8_showFromSteps_124 rfl ?_
        rw [hQ]
        exact W.vret hx hb hr (fun t ht hW => ⟨⟨τ34_, rfl, ⟨hτ34_, trivial⟩, wEn_of hP (hK.sub [] rfl) hD ht hW⟩, hS.F ht⟩) hS.2.2 dX8_showFromSteps_132
