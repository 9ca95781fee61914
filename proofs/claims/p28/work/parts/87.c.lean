theorem dX6_scanSign_0 : decode cX6_scanSign 0 = .ok (.aload_n 0, 1) := by decide +kernel
theorem dX6_scanSign_38 : decode cX6_scanSign 38 = .ok (.putfield 13, 3) := by decide +kernel
theorem dX6_scanSign_41 : decode cX6_scanSign 41 = .ok (.aload_n 0, 1) := by decide +kernel
theorem dX6_scanSign_42 : decode cX6_scanSign 42 = .ok (.dup, 1) := by decide +kernel
theorem dX6_scanSign_43 : decode cX6_scanSign 43 = .ok (.getfield 7, 3) := by decide +kernel
theorem dX6_scanSign_46 : decode cX6_scanSign 46 = .ok (.iconst 1, 1) := by decide +kernel
theorem dX6_scanSign_47 : decode cX6_scanSign 47 = .ok (.iadd, 1) := by decide +kernel
theorem dX6_scanSign_48 : decode cX6_scanSign 48 = .ok (.putfield 7, 3) := by decide +kernel
theorem dX6_scanSign_51 : decode cX6_scanSign 51 = .ok (.return_, 1) := by decide +kernel
theorem dX6_scanSign_1 : decode cX6_scanSign 1 = .ok (.aload_n 0, 1) := by decide +kernel
theorem dX6_scanSign_2 : decode cX6_scanSign 2 = .ok (.getfield 26, 3) := by decide +kernel
theorem dX6_scanSign_5 : decode cX6_scanSign 5 = .ok (.aload_n 0, 1) := by decide +kernel
theorem dX6_scanSign_6 : decode cX6_scanSign 6 = .ok (.getfield 7, 3) := by decide +kernel
theorem dX6_scanSign_9 : decode cX6_scanSign 9 = .ok (.baload, 1) := by decide +kernel
theorem dX6_scanSign_10 : decode cX6_scanSign 10 = .ok (.bipush 59, 2) := by decide +kernel
theorem dX6_scanSign_12 : decode cX6_scanSign 12 = .ok (.if_icmp .ne 7, 3) := by decide +kernel
theorem dX6_scanSign_19 : decode cX6_scanSign 19 = .ok (.aload_n 0, 1) := by decide +kernel
theorem dX6_scanSign_20 : decode cX6_scanSign 20 = .ok (.getfield 26, 3) := by decide +kernel
theorem dX6_scanSign_23 : decode cX6_scanSign 23 = .ok (.aload_n 0, 1) := by decide +kernel
theorem dX6_scanSign_24 : decode cX6_scanSign 24 = .ok (.getfield 7, 3) := by decide +kernel
theorem dX6_scanSign_27 : decode cX6_scanSign 27 = .ok (.baload, 1) := by decide +kernel
theorem dX6_scanSign_28 : decode cX6_scanSign 28 = .ok (.bipush 45, 2) := by decide +kernel
theorem dX6_scanSign_30 : decode cX6_scanSign 30 = .ok (.if_icmp .ne 7, 3) := by decide +kernel
theorem dX6_scanSign_37 : decode cX6_scanSign 37 = .ok (.iconst 0, 1) := by decide +kernel
theorem dX6_scanSign_33 : decode cX6_scanSign 33 = .ok (.iconst 4, 1) := by decide +kernel
theorem dX6_scanSign_34 : decode cX6_scanSign 34 = .ok (.goto 4, 3) := by decide +kernel
theorem dX6_scanSign_15 : decode cX6_scanSign 15 = .ok (.iconst 3, 1) := by decide +kernel
theorem dX6_scanSign_16 : decode cX6_scanSign 16 = .ok (.goto 22, 3) := by decide +kernel
theorem dX6_scanWord_0 : decode cX6_scanWord 0 = .ok (.aload_n 0, 1) := by decide +kernel
theorem dX6_scanWord_1 : decode cX6_scanWord 1 = .ok (.lconst 0, 1) := by decide +kernel
theorem dX6_scanWord_2 : decode cX6_scanWord 2 = .ok (.putfield 19, 3) := by decide +kernel
theorem dX6_scanWord_5 : decode cX6_scanWord 5 = .ok (.aload_n 0, 1) := by decide +kernel
theorem dX6_scanWord_6 : decode cX6_scanWord 6 = .ok (.getfield 7, 3) := by decide +kernel
theorem dX6_scanWord_9 : decode cX6_scanWord 9 = .ok (.aload_n 0, 1) := by decide +kernel
theorem dX6_scanWord_10 : decode cX6_scanWord 10 = .ok (.getfield 36, 3) := by decide +kernel
theorem dX6_scanWord_13 : decode cX6_scanWord 13 = .ok (.if_icmp .ge 70, 3) := by decide +kernel
theorem dX6_scanWord_83 : decode cX6_scanWord 83 = .ok (.aload_n 0, 1) := by decide +kernel
theorem dX6_scanWord_103 : decode cX6_scanWord 103 = .ok (.putfield 13, 3) := by decide +kernel
theorem dX6_scanWord_106 : decode cX6_scanWord 106 = .ok (.return_, 1) := by decide +kernel
theorem dX6_scanWord_84 : decode cX6_scanWord 84 = .ok (.aload_n 0, 1) := by decide +kernel
theorem dX6_scanWord_85 : decode cX6_scanWord 85 = .ok (.getfield 7, 3) := by decide +kernel
theorem dX6_scanWord_88 : decode cX6_scanWord 88 = .ok (.aload_n 0, 1) := by decide +kernel
theorem dX6_scanWord_89 : decode cX6_scanWord 89 = .ok (.getfield 16, 3) := by decide +kernel
theorem dX6_scanWord_92 : decode cX6_scanWord 92 = .ok (.isub, 1) := by decide +kernel
theorem dX6_scanWord_93 : decode cX6_scanWord 93 = .ok (.bipush 8, 2) := by decide +kernel
theorem dX6_scanWord_95 : decode cX6_scanWord 95 = .ok (.if_icmp .gt 7, 3) := by decide +kernel
theorem dX6_scanWord_102 : decode cX6_scanWord 102 = .ok (.iconst 0, 1) := by decide +kernel
theorem dX6_scanWord_98 : decode cX6_scanWord 98 = .ok (.iconst 1, 1) := by decide +kernel
theorem dX6_scanWord_99 : decode cX6_scanWord 99 = .ok (.goto 4, 3) := by decide +kernel
theorem dX6_scanWord_16 : decode cX6_scanWord 16 = .ok (.aload_n 0, 1) := by decide +kernel
theorem dX6_scanWord_17 : decode cX6_scanWord 17 = .ok (.getfield 26, 3) := by decide +kernel
theorem dX6_scanWord_20 : decode cX6_scanWord 20 = .ok (.aload_n 0, 1) := by decide +kernel
theorem dX6_scanWord_21 : decode cX6_scanWord 21 = .ok (.getfield 7, 3) := by decide +kernel
theorem dX6_scanWord_24 : decode cX6_scanWord 24 = .ok (.baload, 1) := by decide +kernel
theorem dX6_scanWord_25 : decode cX6_scanWord 25 = .ok (.bipush 97, 2) := by decide +kernel
theorem dX6_scanWord_27 : decode cX6_scanWord 27 = .ok (.if_icmp .lt 56, 3) := by decide +kernel
theorem dX6_scanWord_30 : decode cX6_scanWord 30 = .ok (.aload_n 0, 1) := by decide +kernel
theorem dX6_scanWord_31 : decode cX6_scanWord 31 = .ok (.getfield 26, 3) := by decide +kernel
theorem dX6_scanWord_34 : decode cX6_scanWord 34 = .ok (.aload_n 0, 1) := by decide +kernel
theorem dX6_scanWord_35 : decode cX6_scanWord 35 = .ok (.getfield 7, 3) := by decide +kernel
theorem dX6_scanWord_38 : decode cX6_scanWord 38 = .ok (.baload, 1) := by decide +kernel
theorem dX6_scanWord_39 : decode cX6_scanWord 39 = .ok (.bipush 122, 2) := by decide +kernel
theorem dX6_scanWord_41 : decode cX6_scanWord 41 = .ok (.if_icmp .gt 42, 3) := by decide +kernel
theorem dX6_scanWord_44 : decode cX6_scanWord 44 = .ok (.aload_n 0, 1) := by decide +kernel
theorem dX6_scanWord_45 : decode cX6_scanWord 45 = .ok (.aload_n 0, 1) := by decide +kernel
theorem dX6_scanWord_46 : decode cX6_scanWord 46 = .ok (.getfield 19, 3) := by decide +kernel
theorem dX6_scanWord_49 : decode cX6_scanWord 49 = .ok (.iconst 5, 1) := by decide +kernel
theorem dX6_scanWord_50 : decode cX6_scanWord 50 = .ok (.lshl, 1) := by decide +kernel
theorem dX6_scanWord_51 : decode cX6_scanWord 51 = .ok (.aload_n 0, 1) := by decide +kernel
theorem dX6_scanWord_52 : decode cX6_scanWord 52 = .ok (.getfield 26, 3) := by decide +kernel
theorem dX6_scanWord_55 : decode cX6_scanWord 55 = .ok (.aload_n 0, 1) := by decide +kernel
theorem dX6_scanWord_56 : decode cX6_scanWord 56 = .ok (.getfield 7, 3) := by decide +kernel
theorem dX6_scanWord_59 : decode cX6_scanWord 59 = .ok (.baload, 1) := by decide +kernel
theorem dX6_scanWord_60 : decode cX6_scanWord 60 = .ok (.bipush 97, 2) := by decide +kernel
theorem dX6_scanWord_62 : decode cX6_scanWord 62 = .ok (.isub, 1) := by decide +kernel
theorem dX6_scanWord_63 : decode cX6_scanWord 63 = .ok (.iconst 1, 1) := by decide +kernel
theorem dX6_scanWord_64 : decode cX6_scanWord 64 = .ok (.iadd, 1) := by decide +kernel
theorem dX6_scanWord_65 : decode cX6_scanWord 65 = .ok (.i2l, 1) := by decide +kernel
theorem dX6_scanWord_66 : decode cX6_scanWord 66 = .ok (.lor, 1) := by decide +kernel
theorem dX6_scanWord_67 : decode cX6_scanWord 67 = .ok (.putfield 19, 3) := by decide +kernel
theorem dX6_scanWord_70 : decode cX6_scanWord 70 = .ok (.aload_n 0, 1) := by decide +kernel
theorem dX6_scanWord_71 : decode cX6_scanWord 71 = .ok (.dup, 1) := by decide +kernel
theorem dX6_scanWord_72 : decode cX6_scanWord 72 = .ok (.getfield 7, 3) := by decide +kernel
theorem dX6_scanWord_75 : decode cX6_scanWord 75 = .ok (.iconst 1, 1) := by decide +kernel
theorem dX6_scanWord_76 : decode cX6_scanWord 76 = .ok (.iadd, 1) := by decide +kernel
theorem dX6_scanWord_77 : decode cX6_scanWord 77 = .ok (.putfield 7, 3) := by decide +kernel
theorem dX6_scanWord_80 : decode cX6_scanWord 80 = .ok (.goto (-75), 3) := by decide +kernel
theorem dX6_scanNumber_0 : decode cX6_scanNumber 0 = .ok (.aload_n 0, 1) := by decide +kernel
theorem dX6_scanNumber_1 : decode cX6_scanNumber 1 = .ok (.iconst 0, 1) := by decide +kernel
theorem dX6_scanNumber_2 : decode cX6_scanNumber 2 = .ok (.putfield 23, 3) := by decide +kernel
theorem dX6_scanNumber_5 : decode cX6_scanNumber 5 = .ok (.aload_n 0, 1) := by decide +kernel
theorem dX6_scanNumber_6 : decode cX6_scanNumber 6 = .ok (.getfield 7, 3) := by decide +kernel
theorem dX6_scanNumber_9 : decode cX6_scanNumber 9 = .ok (.aload_n 0, 1) := by decide +kernel
theorem dX6_scanNumber_10 : decode cX6_scanNumber 10 = .ok (.getfield 36, 3) := by decide +kernel
theorem dX6_scanNumber_13 : decode cX6_scanNumber 13 = .ok (.if_icmp .ge 68, 3) := by decide +kernel
theorem dX6_scanNumber_125 : decode cX6_scanNumber 125 = .ok (.istore_n 1, 1) := by decide +kernel
theorem dX6_scanNumber_126 : decode cX6_scanNumber 126 = .ok (.aload_n 0, 1) := by decide +kernel
theorem dX6_scanNumber_149 : decode cX6_scanNumber 149 = .ok (.putfield 13, 3) := by decide +kernel
theorem dX6_scanNumber_152 : decode cX6_scanNumber 152 = .ok (.return_, 1) := by decide +kernel
theorem dX6_scanNumber_127 : decode cX6_scanNumber 127 = .ok (.aload_n 0, 1) := by decide +kernel
theorem dX6_scanNumber_128 : decode cX6_scanNumber 128 = .ok (.getfield 7, 3) := by decide +kernel
theorem dX6_scanNumber_131 : decode cX6_scanNumber 131 = .ok (.aload_n 0, 1) := by decide +kernel
theorem dX6_scanNumber_132 : decode cX6_scanNumber 132 = .ok (.getfield 16, 3) := by decide +kernel
theorem dX6_scanNumber_135 : decode cX6_scanNumber 135 = .ok (.isub, 1) := by decide +kernel
theorem dX6_scanNumber_136 : decode cX6_scanNumber 136 = .ok (.iconst 4, 1) := by decide +kernel
theorem dX6_scanNumber_137 : decode cX6_scanNumber 137 = .ok (.if_icmp .gt 11, 3) := by decide +kernel
theorem dX6_scanNumber_148 : decode cX6_scanNumber 148 = .ok (.iconst 0, 1) := by decide +kernel
theorem dX6_scanNumber_140 : decode cX6_scanNumber 140 = .ok (.iload_n 1, 1) := by decide +kernel
theorem dX6_scanNumber_141 : decode cX6_scanNumber 141 = .ok (.ifCond .ne 7, 3) := by decide +kernel
theorem dX6_scanNumber_144 : decode cX6_scanNumber 144 = .ok (.iconst 2, 1) := by decide +kernel
theorem dX6_scanNumber_145 : decode cX6_scanNumber 145 = .ok (.goto 4, 3) := by decide +kernel
theorem dX6_scanNumber_81 : decode cX6_scanNumber 81 = .ok (.aload_n 0, 1) := by decide +kernel
theorem dX6_scanNumber_82 : decode cX6_scanNumber 82 = .ok (.getfield 7, 3) := by decide +kernel
theorem dX6_scanNumber_85 : decode cX6_scanNumber 85 = .ok (.aload_n 0, 1) := by decide +kernel
theorem dX6_scanNumber_86 : decode cX6_scanNumber 86 = .ok (.getfield 36, 3) := by decide +kernel
theorem dX6_scanNumber_89 : decode cX6_scanNumber 89 = .ok (.if_icmp .ge 35, 3) := by decide +kernel
theorem dX6_scanNumber_124 : decode cX6_scanNumber 124 = .ok (.iconst 0, 1) := by decide +kernel
theorem dX6_scanNumber_92 : decode cX6_scanNumber 92 = .ok (.aload_n 0, 1) := by decide +kernel
theorem dX6_scanNumber_93 : decode cX6_scanNumber 93 = .ok (.getfield 26, 3) := by decide +kernel
theorem dX6_scanNumber_96 : decode cX6_scanNumber 96 = .ok (.aload_n 0, 1) := by decide +kernel
theorem dX6_scanNumber_97 : decode cX6_scanNumber 97 = .ok (.getfield 7, 3) := by decide +kernel
theorem dX6_scanNumber_100 : decode cX6_scanNumber 100 = .ok (.baload, 1) := by decide +kernel
theorem dX6_scanNumber_101 : decode cX6_scanNumber 101 = .ok (.bipush 97, 2) := by decide +kernel
theorem dX6_scanNumber_103 : decode cX6_scanNumber 103 = .ok (.if_icmp .lt 21, 3) := by decide +kernel
theorem dX6_scanNumber_106 : decode cX6_scanNumber 106 = .ok (.aload_n 0, 1) := by decide +kernel
theorem dX6_scanNumber_107 : decode cX6_scanNumber 107 = .ok (.getfield 26, 3) := by decide +kernel
theorem dX6_scanNumber_110 : decode cX6_scanNumber 110 = .ok (.aload_n 0, 1) := by decide +kernel
theorem dX6_scanNumber_111 : decode cX6_scanNumber 111 = .ok (.getfield 7, 3) := by decide +kernel
theorem dX6_scanNumber_114 : decode cX6_scanNumber 114 = .ok (.baload, 1) := by decide +kernel
theorem dX6_scanNumber_115 : decode cX6_scanNumber 115 = .ok (.bipush 122, 2) := by decide +kernel
theorem dX6_scanNumber_117 : decode cX6_scanNumber 117 = .ok (.if_icmp .gt 7, 3) := by decide +kernel
theorem dX6_scanNumber_120 : decode cX6_scanNumber 120 = .ok (.iconst 1, 1) := by decide +kernel
theorem dX6_scanNumber_121 : decode cX6_scanNumber 121 = .ok (.goto 4, 3) := by decide +kernel
theorem dX6_scanNumber_16 : decode cX6_scanNumber 16 = .ok (.aload_n 0, 1) := by decide +kernel
theorem dX6_scanNumber_17 : decode cX6_scanNumber 17 = .ok (.getfield 26, 3) := by decide +kernel
theorem dX6_scanNumber_20 : decode cX6_scanNumber 20 = .ok (.aload_n 0, 1) := by decide +kernel
theorem dX6_scanNumber_21 : decode cX6_scanNumber 21 = .ok (.getfield 7, 3) := by decide +kernel
theorem dX6_scanNumber_24 : decode cX6_scanNumber 24 = .ok (.baload, 1) := by decide +kernel
theorem dX6_scanNumber_25 : decode cX6_scanNumber 25 = .ok (.bipush 48, 2) := by decide +kernel
theorem dX6_scanNumber_27 : decode cX6_scanNumber 27 = .ok (.if_icmp .lt 54, 3) := by decide +kernel
theorem dX6_scanNumber_30 : decode cX6_scanNumber 30 = .ok (.aload_n 0, 1) := by decide +kernel
theorem dX6_scanNumber_31 : decode cX6_scanNumber 31 = .ok (.getfield 26, 3) := by decide +kernel
theorem dX6_scanNumber_34 : decode cX6_scanNumber 34 = .ok (.aload_n 0, 1) := by decide +kernel
theorem dX6_scanNumber_35 : decode cX6_scanNumber 35 = .ok (.getfield 7, 3) := by decide +kernel
theorem dX6_scanNumber_38 : decode cX6_scanNumber 38 = .ok (.baload, 1) := by decide +kernel
theorem dX6_scanNumber_39 : decode cX6_scanNumber 39 = .ok (.bipush 57, 2) := by decide +kernel
theorem dX6_scanNumber_41 : decode cX6_scanNumber 41 = .ok (.if_icmp .gt 40, 3) := by decide +kernel
theorem dX6_scanNumber_44 : decode cX6_scanNumber 44 = .ok (.aload_n 0, 1) := by decide +kernel
theorem dX6_scanNumber_45 : decode cX6_scanNumber 45 = .ok (.aload_n 0, 1) := by decide +kernel
theorem dX6_scanNumber_46 : decode cX6_scanNumber 46 = .ok (.getfield 23, 3) := by decide +kernel
theorem dX6_scanNumber_49 : decode cX6_scanNumber 49 = .ok (.bipush 10, 2) := by decide +kernel
theorem dX6_scanNumber_51 : decode cX6_scanNumber 51 = .ok (.imul, 1) := by decide +kernel
theorem dX6_scanNumber_52 : decode cX6_scanNumber 52 = .ok (.aload_n 0, 1) := by decide +kernel
theorem dX6_scanNumber_53 : decode cX6_scanNumber 53 = .ok (.getfield 26, 3) := by decide +kernel
theorem dX6_scanNumber_56 : decode cX6_scanNumber 56 = .ok (.aload_n 0, 1) := by decide +kernel
theorem dX6_scanNumber_57 : decode cX6_scanNumber 57 = .ok (.getfield 7, 3) := by decide +kernel
theorem dX6_scanNumber_60 : decode cX6_scanNumber 60 = .ok (.baload, 1) := by decide +kernel
theorem dX6_scanNumber_61 : decode cX6_scanNumber 61 = .ok (.bipush 48, 2) := by decide +kernel
theorem dX6_scanNumber_63 : decode cX6_scanNumber 63 = .ok (.isub, 1) := by decide +kernel
theorem dX6_scanNumber_64 : decode cX6_scanNumber 64 = .ok (.iadd, 1) := by decide +kernel
theorem dX6_scanNumber_65 : decode cX6_scanNumber 65 = .ok (.putfield 23, 3) := by decide +kernel
theorem dX6_scanNumber_68 : decode cX6_scanNumber 68 = .ok (.aload_n 0, 1) := by decide +kernel
theorem dX6_scanNumber_69 : decode cX6_scanNumber 69 = .ok (.dup, 1) := by decide +kernel
theorem dX6_scanNumber_70 : decode cX6_scanNumber 70 = .ok (.getfield 7, 3) := by decide +kernel
theorem dX6_scanNumber_73 : decode cX6_scanNumber 73 = .ok (.iconst 1, 1) := by decide +kernel
theorem dX6_scanNumber_74 : decode cX6_scanNumber 74 = .ok (.iadd, 1) := by decide +kernel
theorem dX6_scanNumber_75 : decode cX6_scanNumber 75 = .ok (.putfield 7, 3) := by decide +kernel
theorem dX6_scanNumber_78 : decode cX6_scanNumber 78 = .ok (.goto (-73), 3) := by decide +kernel
theorem dX6_advance_0 : decode cX6_advance 0 = .ok (.aload_n 0, 1) := by decide +kernel
theorem dX6_advance_1 : decode cX6_advance 1 = .ok (.getfield 7, 3) := by decide +kernel
theorem dX6_advance_4 : decode cX6_advance 4 = .ok (.aload_n 0, 1) := by decide +kernel
theorem dX6_advance_5 : decode cX6_advance 5 = .ok (.getfield 36, 3) := by decide +kernel
theorem dX6_advance_8 : decode cX6_advance 8 = .ok (.if_icmp .ge 44, 3) := by decide +kernel
theorem dX6_advance_52 : decode cX6_advance 52 = .ok (.aload_n 0, 1) := by decide +kernel
theorem dX6_advance_53 : decode cX6_advance 53 = .ok (.aload_n 0, 1) := by decide +kernel
theorem dX6_advance_54 : decode cX6_advance 54 = .ok (.getfield 7, 3) := by decide +kernel
theorem dX6_advance_57 : decode cX6_advance 57 = .ok (.putfield 16, 3) := by decide +kernel
theorem dX6_advance_60 : decode cX6_advance 60 = .ok (.aload_n 0, 1) := by decide +kernel
theorem dX6_advance_61 : decode cX6_advance 61 = .ok (.getfield 7, 3) := by decide +kernel
theorem dX6_advance_64 : decode cX6_advance 64 = .ok (.aload_n 0, 1) := by decide +kernel
theorem dX6_advance_65 : decode cX6_advance 65 = .ok (.getfield 36, 3) := by decide +kernel
theorem dX6_advance_68 : decode cX6_advance 68 = .ok (.if_icmp .lt 11, 3) := by decide +kernel
theorem dX6_advance_79 : decode cX6_advance 79 = .ok (.aload_n 0, 1) := by decide +kernel
theorem dX6_advance_80 : decode cX6_advance 80 = .ok (.getfield 26, 3) := by decide +kernel
theorem dX6_advance_83 : decode cX6_advance 83 = .ok (.aload_n 0, 1) := by decide +kernel
theorem dX6_advance_84 : decode cX6_advance 84 = .ok (.getfield 7, 3) := by decide +kernel
theorem dX6_advance_87 : decode cX6_advance 87 = .ok (.baload, 1) := by decide +kernel
theorem dX6_advance_88 : decode cX6_advance 88 = .ok (.bipush 97, 2) := by decide +kernel
theorem dX6_advance_90 : decode cX6_advance 90 = .ok (.if_icmp .lt 24, 3) := by decide +kernel
theorem dX6_advance_114 : decode cX6_advance 114 = .ok (.aload_n 0, 1) := by decide +kernel
theorem dX6_advance_115 : decode cX6_advance 115 = .ok (.getfield 26, 3) := by decide +kernel
theorem dX6_advance_118 : decode cX6_advance 118 = .ok (.aload_n 0, 1) := by decide +kernel
theorem dX6_advance_119 : decode cX6_advance 119 = .ok (.getfield 7, 3) := by decide +kernel
theorem dX6_advance_122 : decode cX6_advance 122 = .ok (.baload, 1) := by decide +kernel
theorem dX6_advance_123 : decode cX6_advance 123 = .ok (.bipush 48, 2) := by decide +kernel
theorem dX6_advance_125 : decode cX6_advance 125 = .ok (.if_icmp .lt 24, 3) := by decide +kernel
theorem dX6_advance_149 : decode cX6_advance 149 = .ok (.aload_n 0, 1) := by decide +kernel
theorem dX6_advance_150 : decode cX6_advance 150 = .ok (.invokevirtual 45, 3) := by decide +kernel
theorem dX6_advance_153 : decode cX6_advance 153 = .ok (.return_, 1) := by decide +kernel
theorem dX6_advance_128 : decode cX6_advance 128 = .ok (.aload_n 0, 1) := by decide +kernel
theorem dX6_advance_129 : decode cX6_advance 129 = .ok (.getfield 26, 3) := by decide +kernel
theorem dX6_advance_132 : decode cX6_advance 132 = .ok (.aload_n 0, 1) := by decide +kernel
theorem dX6_advance_133 : decode cX6_advance 133 = .ok (.getfield 7, 3) := by decide +kernel
theorem dX6_advance_136 : decode cX6_advance 136 = .ok (.baload, 1) := by decide +kernel
theorem dX6_advance_137 : decode cX6_advance 137 = .ok (.bipush 57, 2) := by decide +kernel
theorem dX6_advance_139 : decode cX6_advance 139 = .ok (.if_icmp .gt 10, 3) := by decide +kernel
theorem dX6_advance_142 : decode cX6_advance 142 = .ok (.aload_n 0, 1) := by decide +kernel
theorem dX6_advance_143 : decode cX6_advance 143 = .ok (.invokevirtual 42, 3) := by decide +kernel
theorem dX6_advance_146 : decode cX6_advance 146 = .ok (.goto 7, 3) := by decide +kernel
theorem dX6_advance_93 : decode cX6_advance 93 = .ok (.aload_n 0, 1) := by decide +kernel
theorem dX6_advance_94 : decode cX6_advance 94 = .ok (.getfield 26, 3) := by decide +kernel
theorem dX6_advance_97 : decode cX6_advance 97 = .ok (.aload_n 0, 1) := by decide +kernel
theorem dX6_advance_98 : decode cX6_advance 98 = .ok (.getfield 7, 3) := by decide +kernel
theorem dX6_advance_101 : decode cX6_advance 101 = .ok (.baload, 1) := by decide +kernel
theorem dX6_advance_102 : decode cX6_advance 102 = .ok (.bipush 122, 2) := by decide +kernel
theorem dX6_advance_104 : decode cX6_advance 104 = .ok (.if_icmp .gt 10, 3) := by decide +kernel
theorem dX6_advance_107 : decode cX6_advance 107 = .ok (.aload_n 0, 1) := by decide +kernel
theorem dX6_advance_108 : decode cX6_advance 108 = .ok (.invokevirtual 39, 3) := by decide +kernel
theorem dX6_advance_111 : decode cX6_advance 111 = .ok (.goto 42, 3) := by decide +kernel
theorem dX6_advance_71 : decode cX6_advance 71 = .ok (.aload_n 0, 1) := by decide +kernel
theorem dX6_advance_72 : decode cX6_advance 72 = .ok (.iconst 5, 1) := by decide +kernel
theorem dX6_advance_73 : decode cX6_advance 73 = .ok (.putfield 13, 3) := by decide +kernel
theorem dX6_advance_76 : decode cX6_advance 76 = .ok (.goto 77, 3) := by decide +kernel
theorem dX6_advance_11 : decode cX6_advance 11 = .ok (.aload_n 0, 1) := by decide +kernel
theorem dX6_advance_12 : decode cX6_advance 12 = .ok (.getfield 26, 3) := by decide +kernel
theorem dX6_advance_15 : decode cX6_advance 15 = .ok (.aload_n 0, 1) := by decide +kernel
theorem dX6_advance_16 : decode cX6_advance 16 = .ok (.getfield 7, 3) := by decide +kernel
theorem dX6_advance_19 : decode cX6_advance 19 = .ok (.baload, 1) := by decide +kernel
theorem dX6_advance_20 : decode cX6_advance 20 = .ok (.bipush 32, 2) := by decide +kernel
theorem dX6_advance_22 : decode cX6_advance 22 = .ok (.if_icmp .eq 17, 3) := by decide +kernel
theorem dX6_advance_39 : decode cX6_advance 39 = .ok (.aload_n 0, 1) := by decide +kernel
theorem dX6_advance_40 : decode cX6_advance 40 = .ok (.dup, 1) := by decide +kernel
theorem dX6_advance_41 : decode cX6_advance 41 = .ok (.getfield 7, 3) := by decide +kernel
theorem dX6_advance_44 : decode cX6_advance 44 = .ok (.iconst 1, 1) := by decide +kernel
theorem dX6_advance_45 : decode cX6_advance 45 = .ok (.iadd, 1) := by decide +kernel
theorem dX6_advance_46 : decode cX6_advance 46 = .ok (.putfield 7, 3) := by decide +kernel
theorem dX6_advance_49 : decode cX6_advance 49 = .ok (.goto (-49), 3) := by decide +kernel
theorem dX6_advance_25 : decode cX6_advance 25 = .ok (.aload_n 0, 1) := by decide +kernel
theorem dX6_advance_26 : decode cX6_advance 26 = .ok (.getfield 26, 3) := by decide +kernel
theorem dX6_advance_29 : decode cX6_advance 29 = .ok (.aload_n 0, 1) := by decide +kernel
theorem dX6_advance_30 : decode cX6_advance 30 = .ok (.getfield 7, 3) := by decide +kernel
theorem dX6_advance_33 : decode cX6_advance 33 = .ok (.baload, 1) := by decide +kernel
theorem dX6_advance_34 : decode cX6_advance 34 = .ok (.bipush 10, 2) := by decide +kernel
theorem dX6_advance_36 : decode cX6_advance 36 = .ok (.if_icmp .ne 16, 3) := by decide +kernel
theorem dX6_isOneOf_0 : decode cX6_isOneOf 0 = .ok (.aload_n 0, 1) := by decide +kernel
theorem dX6_isOneOf_1 : decode cX6_isOneOf 1 = .ok (.getfield 7, 3) := by decide +kernel
theorem dX6_isOneOf_4 : decode cX6_isOneOf 4 = .ok (.aload_n 0, 1) := by decide +kernel
theorem dX6_isOneOf_5 : decode cX6_isOneOf 5 = .ok (.getfield 16, 3) := by decide +kernel
theorem dX6_isOneOf_8 : decode cX6_isOneOf 8 = .ok (.isub, 1) := by decide +kernel
theorem dX6_isOneOf_9 : decode cX6_isOneOf 9 = .ok (.istore_n 2, 1) := by decide +kernel
theorem dX6_isOneOf_10 : decode cX6_isOneOf 10 = .ok (.iconst 0, 1) := by decide +kernel
theorem dX6_isOneOf_11 : decode cX6_isOneOf 11 = .ok (.istore_n 3, 1) := by decide +kernel
theorem dX6_isOneOf_12 : decode cX6_isOneOf 12 = .ok (.iconst 1, 1) := by decide +kernel
theorem dX6_isOneOf_13 : decode cX6_isOneOf 13 = .ok (.istore 4, 2) := by decide +kernel
theorem dX6_isOneOf_15 : decode cX6_isOneOf 15 = .ok (.iconst 0, 1) := by decide +kernel
theorem dX6_isOneOf_16 : decode cX6_isOneOf 16 = .ok (.istore 5, 2) := by decide +kernel
theorem dX6_isOneOf_18 : decode cX6_isOneOf 18 = .ok (.iload 5, 2) := by decide +kernel
theorem dX6_isOneOf_20 : decode cX6_isOneOf 20 = .ok (.aload_n 1, 1) := by decide +kernel
theorem dX6_isOneOf_21 : decode cX6_isOneOf 21 = .ok (.invokevirtual 48, 3) := by decide +kernel
theorem dX6_isOneOf_24 : decode cX6_isOneOf 24 = .ok (.if_icmp .ge 80, 3) := by decide +kernel
theorem dX6_isOneOf_104 : decode cX6_isOneOf 104 = .ok (.iconst 0, 1) := by decide +kernel
theorem dX6_isOneOf_105 : decode cX6_isOneOf 105 = .ok (.ireturn, 1) := by decide +kernel
theorem dX6_isOneOf_27 : decode cX6_isOneOf 27 = .ok (.aload_n 1, 1) := by decide +kernel
theorem dX6_isOneOf_28 : decode cX6_isOneOf 28 = .ok (.iload 5, 2) := by decide +kernel
theorem dX6_isOneOf_30 : decode cX6_isOneOf 30 = .ok (.invokevirtual 53, 3) := by decide +kernel
theorem dX6_isOneOf_33 : decode cX6_isOneOf 33 = .ok (.bipush 32, 2) := by decide +kernel
theorem dX6_isOneOf_35 : decode cX6_isOneOf 35 = .ok (.if_icmp .eq 46, 3) := by decide +kernel
theorem dX6_isOneOf_81 : decode cX6_isOneOf 81 = .ok (.iload 4, 2) := by decide +kernel
theorem dX6_isOneOf_83 : decode cX6_isOneOf 83 = .ok (.ifCond .eq 10, 3) := by decide +kernel
theorem dX6_isOneOf_93 : decode cX6_isOneOf 93 = .ok (.iconst 0, 1) := by decide +kernel
theorem dX6_isOneOf_94 : decode cX6_isOneOf 94 = .ok (.istore_n 3, 1) := by decide +kernel
theorem dX6_isOneOf_95 : decode cX6_isOneOf 95 = .ok (.iconst 1, 1) := by decide +kernel
theorem dX6_isOneOf_96 : decode cX6_isOneOf 96 = .ok (.istore 4, 2) := by decide +kernel
theorem dX6_isOneOf_98 : decode cX6_isOneOf 98 = .ok (.iinc 5 1, 3) := by decide +kernel
theorem dX6_isOneOf_101 : decode cX6_isOneOf 101 = .ok (.goto (-83), 3) := by decide +kernel
theorem dX6_isOneOf_86 : decode cX6_isOneOf 86 = .ok (.iload_n 3, 1) := by decide +kernel
theorem dX6_isOneOf_87 : decode cX6_isOneOf 87 = .ok (.iload_n 2, 1) := by decide +kernel
theorem dX6_isOneOf_88 : decode cX6_isOneOf 88 = .ok (.if_icmp .ne 5, 3) := by decide +kernel
theorem dX6_isOneOf_91 : decode cX6_isOneOf 91 = .ok (.iconst 1, 1) := by decide +kernel
theorem dX6_isOneOf_92 : decode cX6_isOneOf 92 = .ok (.ireturn, 1) := by decide +kernel
theorem dX6_isOneOf_38 : decode cX6_isOneOf 38 = .ok (.iload 4, 2) := by decide +kernel
theorem dX6_isOneOf_40 : decode cX6_isOneOf 40 = .ok (.ifCond .eq 32, 3) := by decide +kernel
theorem dX6_isOneOf_72 : decode cX6_isOneOf 72 = .ok (.iconst 0, 1) := by decide +kernel
theorem dX6_isOneOf_73 : decode cX6_isOneOf 73 = .ok (.istore 4, 2) := by decide +kernel
theorem dX6_isOneOf_75 : decode cX6_isOneOf 75 = .ok (.iinc 3 1, 3) := by decide +kernel
theorem dX6_isOneOf_78 : decode cX6_isOneOf 78 = .ok (.goto 20, 3) := by decide +kernel
theorem dX6_isOneOf_43 : decode cX6_isOneOf 43 = .ok (.iload_n 3, 1) := by decide +kernel
theorem dX6_isOneOf_44 : decode cX6_isOneOf 44 = .ok (.iload_n 2, 1) := by decide +kernel
theorem dX6_isOneOf_45 : decode cX6_isOneOf 45 = .ok (.if_icmp .ge 27, 3) := by decide +kernel
theorem dX6_isOneOf_48 : decode cX6_isOneOf 48 = .ok (.aload_n 0, 1) := by decide +kernel
theorem dX6_isOneOf_49 : decode cX6_isOneOf 49 = .ok (.getfield 26, 3) := by decide +kernel
theorem dX6_isOneOf_52 : decode cX6_isOneOf 52 = .ok (.aload_n 0, 1) := by decide +kernel
theorem dX6_isOneOf_53 : decode cX6_isOneOf 53 = .ok (.getfield 16, 3) := by decide +kernel
theorem dX6_isOneOf_56 : decode cX6_isOneOf 56 = .ok (.iload_n 3, 1) := by decide +kernel
theorem dX6_isOneOf_57 : decode cX6_isOneOf 57 = .ok (.iadd, 1) := by decide +kernel
theorem dX6_isOneOf_58 : decode cX6_isOneOf 58 = .ok (.baload, 1) := by decide +kernel
theorem dX6_isOneOf_59 : decode cX6_isOneOf 59 = .ok (.aload_n 1, 1) := by decide +kernel
theorem dX6_isOneOf_60 : decode cX6_isOneOf 60 = .ok (.iload 5, 2) := by decide +kernel
theorem dX6_isOneOf_62 : decode cX6_isOneOf 62 = .ok (.invokevirtual 53, 3) := by decide +kernel
theorem dX6_isOneOf_65 : decode cX6_isOneOf 65 = .ok (.if_icmp .ne 7, 3) := by decide +kernel
theorem dX6_isOneOf_68 : decode cX6_isOneOf 68 = .ok (.iconst 1, 1) := by decide +kernel
theorem dX6_isOneOf_69 : decode cX6_isOneOf 69 = .ok (.goto 4, 3) := by decide +kernel

def ow_r_scanSign : List Cond := [.fieldLink RX6 13 "NearEnough$Scanner" "kind" "I", .fieldLink RX6 7 "NearEnough$Scanner" "next" "I", .fieldLink RX6 26 "NearEnough$Scanner" "text" "[B"]
def vs_r_scanSign : List Cond := .code yX6_scanSign cX6_scanSign 1 none :: (ow_r_scanSign ++ (wsX60))
theorem vg_r_scanSign : vs_r_scanSign.all goodWord = true := by decide +kernel
theorem dd_r_scanSign : yX6_scanSign.cls = RX6 ∧ yX6_scanSign.cls ≠ "java/lang/invoke/MethodHandle" ∧ yX6_scanSign.cls ≠ "java/lang/invoke/VarHandle" ∧ (parseMethodDescriptor yX6_scanSign.desc).map (fun d => d.parameters.length) = some 0 := by decide +kernel
def rm_r_scanSign : Room := { frames := 0, cells := 0, slots := 0, locals := 0 }
set_option maxHeartbeats 4000000 in
set_option maxRecDepth 100000 in
theorem r_scanSign (l : Launch) (dC : Nat → ClassId) (dI : Nat → Nat → Nat) (adK adV : Nat → Nat) (κ : CE) (sz : Nat) (σ : MS) (hk : PInv κ) (hI : RInv σ) (hn0 : (σ.1 3).toInt < (σ.1 0).toInt) : Met l yX6_scanSign vs_r_scanSign rm_r_scanSign (va_Pc [.ref (kA κ 1)] (wSr dC dI adK adV (rW κ σ) (rT κ) sz)) (va_Qv (fun (τ : MS) => RInv τ ∧ ((τ.1 1).toInt = (σ.1 1).toInt)) (fun (τ : MS) => wEn dC dI (va_A (rW κ σ) sz) (rW κ τ) []) (va_A (rW κ σ) sz)) 0 0 (va_A (rW κ σ) sz) := by
  refine Met.ofW (cc := cX6_scanSign) (maxL := 1) (ret := none) (by decide +kernel) rfl ?_
  intro p e s m args below meth c s₁ B hml hv
  obtain ⟨rfl, ⟨hsz, hP, hK, hD0, hE⟩, hZ, hR⟩ := hv
  have hx := B.exec
  have hb := B.bytes
  have hr := B.returns
  have hts := atoms_spec (ws := vs_r_scanSign) B.pre
  have hown : s.vm.findClass RX6 = some m.cls := findClass_of_methodNamed B.named
  have hlocks := B.notSynchronized
  subst hsz
  have hD := hD0.self (sz := s.heap.size)
  generalize hAe : va_A (rW κ σ) s.heap.size = A at hD hZ ⊢
  have hA : ∀ q : Nat, s.heap.size ≤ q → A q := fun q h => by rw [← hAe]; exact Or.inr h
  have hl := lv_entry ([.ref (kA κ 1)]) (n := 1) (Nat.le_of_ble_eq_true rfl)
  rw [lg_entry_eq]
  generalize (lg_sl ([.ref (kA κ 1)]) ++ List.replicate (1 - (lg_sl ([.ref (kA κ 1)])).length) Slot.unset).toArray = ls at hl ⊢
  have hl : lv_has ls 1 [(0, .ref (kA κ 1))] := hl
  have ho := fun w (h : w ∈ ow_r_scanSign) => hts w (List.mem_cons_of_mem _ (List.mem_append_left _ h))
  have hin6 : ∀ w ∈ u_ws RX6 TX6 7, w ∈ vs_r_scanSign := fun w h => (List.mem_cons_of_mem _ (List.mem_append_right _ h))
  refine zQ (fun Q hQ => ?_)
  refine zH (A := A) (ws := (rW κ σ)) (fun H hP hS => ?_) hP
  have hk0 := hk.1
  have hk1 := hk.2.1
  have hk2 := hk.2.2.1
  have bσ_0 : 0 ≤ (σ.1 0).toInt ∧ (σ.1 0).toInt ≤ 1000 := hI 0
  have bσ_3 : 0 ≤ (σ.1 3).toInt ∧ (σ.1 3).toInt ≤ 1000 := hI 3
  refine lv_aload_n hx hb dX6_scanSign_0 rfl (lv_at hl 0 rfl) ?_
  have pt38_ : ∀ (s38_ : Int32) (H : Heap) (locs : List Loc) (ls : Array Slot), va_P (dC, dI) vwCl (rW κ σ) H → va_D A (rW κ σ) → va_S A s.heap H locs → lv_has ls 1 [(0, .ref (kA κ 1))] → W p l e (headSpec vs_r_scanSign rm_r_scanSign).room s m #[Value.ref (kA κ 1)] below meth c H locs 0 0 Q (F0 m 38 ls [.int s38_, .ref (kA κ 1)]) := by
    intro s38_ H locs ls hP hD hS hl
    have bσ_0 : 0 ≤ (σ.1 0).toInt ∧ (σ.1 0).toInt ≤ 1000 := hI 0
    have bσ_3 : 0 ≤ (σ.1 3).toInt ∧ (σ.1 3).toInt ≤ 1000 := hI 3
    refine va_put (D := (dC, dI)) (ci := 6) (v := .int s38_) (ty := tyX6 3) (C := RX6) (T := TX6) (N := 7) hx hb hts hin6 tyX6 tyX6_ok nmX6 hown hK hP hD hS 1 rfl rfl 3 (Nat.le_of_ble_eq_true rfl) (ho (.fieldLink RX6 13 "NearEnough$Scanner" "kind" "I") (List.mem_of_getElem? (i := 0) rfl)) (fun _ h9 => h9) rfl (tyX6_ok 3 (Nat.le_of_ble_eq_true rfl)) rfl rfl (Nat.le_of_ble_eq_true rfl) dX6_scanSign_38 (fun H locs hP hD hS => ?_)
    have hP : va_P (dC, dI) vwCl (rW κ (sI σ 4 s38_)) H := hP
    have hD : va_D A (rW κ (sI σ 4 s38_)) := hD
    refine lv_aload_n hx hb dX6_scanSign_41 rfl (lv_at hl 0 rfl) ?_
    refine lv_dup hx hb dX6_scanSign_42 rfl ?_
    have bσ_3 : 0 ≤ (σ.1 3).toInt ∧ (σ.1 3).toInt ≤ 1000 := hI 3
    refine va_get (D := (dC, dI)) (ci := 6) (v := .int (σ.1 3)) (C := RX6) (T := TX6) (N := 7) hx hb hts hin6 hown hK hP 1 rfl rfl 2 (Nat.le_of_ble_eq_true rfl) (ho (.fieldLink RX6 7 "NearEnough$Scanner" "next" "I") (List.mem_of_getElem? (i := 1) rfl)) (fun _ h9 => h9) rfl dX6_scanSign_43 ?_
    refine lv_iconst (v := 1) hx hb dX6_scanSign_46 rg_6 ?_
    refine lv_iadd hx hb dX6_scanSign_47 ?_
    refine lv_topi (fun z1_ ez1_ => ?_)
    have o1 : -2147483648 ≤ (σ.1 3).toInt + 1 := by omega
    have o2 : (σ.1 3).toInt + 1 ≤ 2147483647 := by omega
    have tz1_ : z1_.toInt = (σ.1 3).toInt + 1 := ti_add ez1_ rfl rg_18 o1 o2
    refine va_put (D := (dC, dI)) (ci := 6) (v := .int z1_) (ty := tyX6 2) (C := RX6) (T := TX6) (N := 7) hx hb hts hin6 tyX6 tyX6_ok nmX6 hown hK hP hD hS 1 rfl rfl 2 (Nat.le_of_ble_eq_true rfl) (ho (.fieldLink RX6 7 "NearEnough$Scanner" "next" "I") (List.mem_of_getElem? (i := 1) rfl)) (fun _ h9 => h9) rfl (tyX6_ok 2 (Nat.le_of_ble_eq_true rfl)) rfl rfl (Nat.le_of_ble_eq_true rfl) dX6_scanSign_48 (fun H locs hP hD hS => ?_)
    have hP : va_P (dC, dI) vwCl (rW κ (sI (sI σ 4 s38_) 3 z1_)) H := hP
    have hD : va_D A (rW κ (sI (sI σ 4 s38_) 3 z1_)) := hD
    have o3 : (σ.1 1).toInt = (σ.1 1).toInt := by omega
    have o4 : 0 ≤ z1_.toInt := by omega
    have o5 : z1_.toInt ≤ 1000 := by omega
    rw [hQ]
    exact W.vret hx hb hr (fun t ht hW => ⟨⟨(sI (sI σ 4 s38_) 3 z1_), rfl, ⟨(RInv.sI (k := 3) (v := z1_) (RInv.sI (k := 4) (v := s38_) hI (Inv.any s38_)) ⟨o4, o5⟩), o3⟩, wEn_of hP (hK.sub [] rfl) hD ht hW⟩, hS.F ht⟩) hS.2.2 dX6_scanSign_51
  refine lv_aload_n hx hb dX6_scanSign_1 rfl (lv_at hl 0 rfl) ?_
  refine va_get (D := (dC, dI)) (ci := 6) (v := .ref (kA κ 2)) (C := RX6) (T := TX6) (N := 7) hx hb hts hin6 hown hK hP 1 rfl rfl 0 (Nat.le_of_ble_eq_true rfl) (ho (.fieldLink RX6 26 "NearEnough$Scanner" "text" "[B") (List.mem_of_getElem? (i := 2) rfl)) (fun _ h9 => h9) rfl dX6_scanSign_2 ?_
  refine lv_aload_n hx hb dX6_scanSign_5 rfl (lv_at hl 0 rfl) ?_
  have bσ_3 : 0 ≤ (σ.1 3).toInt ∧ (σ.1 3).toInt ≤ 1000 := hI 3
  refine va_get (D := (dC, dI)) (ci := 6) (v := .int (σ.1 3)) (C := RX6) (T := TX6) (N := 7) hx hb hts hin6 hown hK hP 1 rfl rfl 2 (Nat.le_of_ble_eq_true rfl) (ho (.fieldLink RX6 7 "NearEnough$Scanner" "next" "I") (List.mem_of_getElem? (i := 1) rfl)) (fun _ h9 => h9) rfl dX6_scanSign_6 ?_
  have o6 : 0 ≤ (σ.1 3).toInt := by omega
  have o7 : (σ.1 3).toInt < ((1000 : Nat) : Int) := by omega
  refine va_bald hx hb hK hP 2 0 rfl rfl (ti_inx o6 o7) dX6_scanSign_9 ?_
  refine lv_topi (fun z2_ ez2_ => ?_)
  refine lv_bipush (v := 59) hx hb dX6_scanSign_10 rg_36 ?_
  refine lv_icmp_ne (tgt := 19) hx hb dX6_scanSign_12 rfl (fun c3_ => ?_) (fun c3_ => ?_)
  · have tc3_ := (show z2_.toInt ≠ 59 from ti_ne rfl rg_37 c3_)
    refine lv_aload_n hx hb dX6_scanSign_19 rfl (lv_at hl 0 rfl) ?_
    refine va_get (D := (dC, dI)) (ci := 6) (v := .ref (kA κ 2)) (C := RX6) (T := TX6) (N := 7) hx hb hts hin6 hown hK hP 1 rfl rfl 0 (Nat.le_of_ble_eq_true rfl) (ho (.fieldLink RX6 26 "NearEnough$Scanner" "text" "[B") (List.mem_of_getElem? (i := 2) rfl)) (fun _ h9 => h9) rfl dX6_scanSign_20 ?_
    refine lv_aload_n hx hb dX6_scanSign_23 rfl (lv_at hl 0 rfl) ?_
    have bσ_3 : 0 ≤ (σ.1 3).toInt ∧ (σ.1 3).toInt ≤ 1000 := hI 3
    refine va_get (D := (dC, dI)) (ci := 6) (v := .int (σ.1 3)) (C := RX6) (T := TX6) (N := 7) hx hb hts hin6 hown hK hP 1 rfl rfl 2 (Nat.le_of_ble_eq_true rfl) (ho (.fieldLink RX6 7 "NearEnough$Scanner" "next" "I") (List.mem_of_getElem? (i := 1) rfl)) (fun _ h9 => h9) rfl dX6_scanSign_24 ?_
    refine va_bald hx hb hK hP 2 0 rfl rfl (ti_inx o6 o7) dX6_scanSign_27 ?_
    refine lv_topi (fun z4_ ez4_ => ?_)
    have qq5_ : z4_.toInt = z2_.toInt := congrArg Int32.toInt (ez4_.trans ez2_.symm)
    refine lv_bipush (v := 45) hx hb dX6_scanSign_28 rg_39 ?_
    refine lv_icmp_ne (tgt := 37) hx hb dX6_scanSign_30 rfl (fun c6_ => ?_) (fun c6_ => ?_)
    · have tc6_ := (show z4_.toInt ≠ 45 from ti_ne rfl rg_40 c6_)
      refine lv_iconst (v := 0) hx hb dX6_scanSign_37 rg_0 ?_
      have kk7_ : (0 : Int32).toInt = 0 := rg_11
      exact pt38_  0 _ _ _  hP hD hS (lv_sub hl [0] rfl)
    · have tc6_ := (show z4_.toInt = 45 from ti_eq rfl rg_40 c6_)
      refine lv_iconst (v := 4) hx hb dX6_scanSign_33 rg_31 ?_
      refine lv_goto (tgt := 38) hx hb dX6_scanSign_34 rfl ?_
      have kk8_ : (4 : Int32).toInt = 4 := rg_32
      exact pt38_  4 _ _ _  hP hD hS (lv_sub hl [0] rfl)
  · have tc3_ := (show z2_.toInt = 59 from ti_eq rfl rg_37 c3_)
    refine lv_iconst (v := 3) hx hb dX6_scanSign_15 rg_16 ?_
    refine lv_goto (tgt := 38) hx hb dX6_scanSign_16 rfl ?_
    have kk9_ : (3 : Int32).toInt = 3 := rg_17
    exact pt38_  3 _ _ _  hP hD hS (lv_sub hl [0] rfl)
def ow_r_scanWord : List Cond := [.fieldLink RX6 19 "NearEnough$Scanner" "word" "J", .fieldLink RX6 7 "NearEnough$Scanner" "next" "I", .fieldLink RX6 36 "NearEnough$Scanner" "length" "I", .fieldLink RX6 13 "NearEnough$Scanner" "kind" "I", .fieldLink RX6 16 "NearEnough$Scanner" "place" "I", .fieldLink RX6 26 "NearEnough$Scanner" "text" "[B"]
def vs_r_scanWord : List Cond := .code yX6_scanWord cX6_scanWord 1 none :: (ow_r_scanWord ++ (wsX60))
theorem vg_r_scanWord : vs_r_scanWord.all goodWord = true := by decide +kernel
theorem dd_r_scanWord : yX6_scanWord.cls = RX6 ∧ yX6_scanWord.cls ≠ "java/lang/invoke/MethodHandle" ∧ yX6_scanWord.cls ≠ "java/lang/invoke/VarHandle" ∧ (parseMethodDescriptor yX6_scanWord.desc).map (fun d => d.parameters.length) = some 0 := by decide +kernel
def rm_r_scanWord : Room := { frames := 0, cells := 0, slots := 0, locals := 0 }
set_option maxHeartbeats 4000000 in
set_option maxRecDepth 100000 in
theorem r_scanWord (l : Launch) (dC : Nat → ClassId) (dI : Nat → Nat → Nat) (adK adV : Nat → Nat) (κ : CE) (sz : Nat) (σ : MS) (hk : PInv κ) (hI : RInv σ)  : Met l yX6_scanWord vs_r_scanWord rm_r_scanWord (va_Pc [.ref (kA κ 1)] (wSr dC dI adK adV (rW κ σ) (rT κ) sz)) (va_Qv (fun (τ : MS) => RInv τ ∧ ((τ.1 1).toInt = (σ.1 1).toInt)) (fun (τ : MS) => wEn dC dI (va_A (rW κ σ) sz) (rW κ τ) []) (va_A (rW κ σ) sz)) 0 0 (va_A (rW κ σ) sz) := by
  refine Met.ofW (cc := cX6_scanWord) (maxL := 1) (ret := none) (by decide +kernel) rfl ?_
  intro p e s m args below meth c s₁ B hml hv
  obtain ⟨rfl, ⟨hsz, hP, hK, hD0, hE⟩, hZ, hR⟩ := hv
  have hx := B.exec
  have hb := B.bytes
  have hr := B.returns
  have hts := atoms_spec (ws := vs_r_scanWord) B.pre
  have hown : s.vm.findClass RX6 = some m.cls := findClass_of_methodNamed B.named
  have hlocks := B.notSynchronized
  subst hsz
  have hD := hD0.self (sz := s.heap.size)
  generalize hAe : va_A (rW κ σ) s.heap.size = A at hD hZ ⊢
  have hA : ∀ q : Nat, s.heap.size ≤ q → A q := fun q h => by rw [← hAe]; exact Or.inr h
  have hl := lv_entry ([.ref (kA κ 1)]) (n := 1) (Nat.le_of_ble_eq_true rfl)
  rw [lg_entry_eq]
  generalize (lg_sl ([.ref (kA κ 1)]) ++ List.replicate (1 - (lg_sl ([.ref (kA κ 1)])).length) Slot.unset).toArray = ls at hl ⊢
  have hl : lv_has ls 1 [(0, .ref (kA κ 1))] := hl
  have ho := fun w (h : w ∈ ow_r_scanWord) => hts w (List.mem_cons_of_mem _ (List.mem_append_left _ h))
  have hin6 : ∀ w ∈ u_ws RX6 TX6 7, w ∈ vs_r_scanWord := fun w h => (List.mem_cons_of_mem _ (List.mem_append_right _ h))
  refine zQ (fun Q hQ => ?_)
  refine zH (A := A) (ws := (rW κ σ)) (fun H hP hS => ?_) hP
  have hk0 := hk.1
  have hk1 := hk.2.1
  have hk2 := hk.2.2.1
  have bσ_0 : 0 ≤ (σ.1 0).toInt ∧ (σ.1 0).toInt ≤ 1000 := hI 0
  have bσ_3 : 0 ≤ (σ.1 3).toInt ∧ (σ.1 3).toInt ≤ 1000 := hI 3
  refine lv_aload_n hx hb dX6_scanWord_0 rfl (lv_at hl 0 rfl) ?_
  refine lv_lconst (v := 0) hx hb dX6_scanWord_1 (by decide) ?_
  refine va_put (D := (dC, dI)) (ci := 6) (v := .long 0) (ty := tyX6 5) (C := RX6) (T := TX6) (N := 7) hx hb hts hin6 tyX6 tyX6_ok nmX6 hown hK hP hD hS 1 rfl rfl 5 (Nat.le_of_ble_eq_true rfl) (ho (.fieldLink RX6 19 "NearEnough$Scanner" "word" "J") (List.mem_of_getElem? (i := 0) rfl)) (fun _ h9 => h9) rfl (tyX6_ok 5 (Nat.le_of_ble_eq_true rfl)) rfl rfl (Nat.le_of_ble_eq_true rfl) dX6_scanWord_2 (fun H locs hP hD hS => ?_)
  have hP : va_P (dC, dI) vwCl (rW κ (sL σ 7 0)) H := hP
  have hD : va_D A (rW κ (sL σ 7 0)) := hD
  have pt5_ : ∀ (n5_ : Nat) (σ5_ : MS) (H : Heap) (locs : List Loc) (ls : Array Slot), (1000 - (σ5_.1 3).toInt).toNat < n5_ → RInv σ5_ → ((σ5_.1 1).toInt = (σ.1 1).toInt) → va_P (dC, dI) vwCl (rW κ σ5_) H → va_D A (rW κ σ5_) → va_S A s.heap H locs → lv_has ls 1 [(0, .ref (kA κ 1))] → W p l e (headSpec vs_r_scanWord rm_r_scanWord).room s m #[Value.ref (kA κ 1)] below meth c H locs 0 0 Q (F0 m 5 ls []) := by
    intro n5_
    induction n5_ with
    | zero => intro σ5_ H locs ls hn5_ hIσ5_ hf5_0_ hP hD hS hl; exact absurd hn5_ (Nat.not_lt_zero _)
    | succ n5_ ih5_ =>
      intro σ5_ H locs ls hn5_ hIσ5_ hf5_0_ hP hD hS hl
      have bσ5__0 : 0 ≤ (σ5_.1 0).toInt ∧ (σ5_.1 0).toInt ≤ 1000 := hIσ5_ 0
      have bσ5__3 : 0 ≤ (σ5_.1 3).toInt ∧ (σ5_.1 3).toInt ≤ 1000 := hIσ5_ 3
      refine lv_aload_n hx hb dX6_scanWord_5 rfl (lv_at hl 0 rfl) ?_
      have bσ5__3 : 0 ≤ (σ5_.1 3).toInt ∧ (σ5_.1 3).toInt ≤ 1000 := hIσ5_ 3
      refine va_get (D := (dC, dI)) (ci := 6) (v := .int (σ5_.1 3)) (C := RX6) (T := TX6) (N := 7) hx hb hts hin6 hown hK hP 1 rfl rfl 2 (Nat.le_of_ble_eq_true rfl) (ho (.fieldLink RX6 7 "NearEnough$Scanner" "next" "I") (List.mem_of_getElem? (i := 1) rfl)) (fun _ h9 => h9) rfl dX6_scanWord_6 ?_
      refine lv_aload_n hx hb dX6_scanWord_9 rfl (lv_at hl 0 rfl) ?_
      have bσ5__0 : 0 ≤ (σ5_.1 0).toInt ∧ (σ5_.1 0).toInt ≤ 1000 := hIσ5_ 0
      refine va_get (D := (dC, dI)) (ci := 6) (v := .int (σ5_.1 0)) (C := RX6) (T := TX6) (N := 7) hx hb hts hin6 hown hK hP 1 rfl rfl 1 (Nat.le_of_ble_eq_true rfl) (ho (.fieldLink RX6 36 "NearEnough$Scanner" "length" "I") (List.mem_of_getElem? (i := 2) rfl)) (fun _ h9 => h9) rfl dX6_scanWord_10 ?_
      refine lv_icmp_ge (tgt := 83) hx hb dX6_scanWord_13 rfl (fun c1_ => ?_) (fun c1_ => ?_)
      · have tc1_ := (show (σ5_.1 0).toInt ≤ (σ5_.1 3).toInt from ti_le rfl rfl c1_)
        refine lv_aload_n hx hb dX6_scanWord_83 rfl (lv_at hl 0 rfl) ?_
        have pt103_ : ∀ (s103_ : Int32) (H : Heap) (locs : List Loc) (ls : Array Slot), va_P (dC, dI) vwCl (rW κ σ5_) H → va_D A (rW κ σ5_) → va_S A s.heap H locs → lv_has ls 1 [] → W p l e (headSpec vs_r_scanWord rm_r_scanWord).room s m #[Value.ref (kA κ 1)] below meth c H locs 0 0 Q (F0 m 103 ls [.int s103_, .ref (kA κ 1)]) := by
          intro s103_ H locs ls hP hD hS hl
          have bσ5__0 : 0 ≤ (σ5_.1 0).toInt ∧ (σ5_.1 0).toInt ≤ 1000 := hIσ5_ 0
          have bσ5__3 : 0 ≤ (σ5_.1 3).toInt ∧ (σ5_.1 3).toInt ≤ 1000 := hIσ5_ 3
          refine va_put (D := (dC, dI)) (ci := 6) (v := .int s103_) (ty := tyX6 3) (C := RX6) (T := TX6) (N := 7) hx hb hts hin6 tyX6 tyX6_ok nmX6 hown hK hP hD hS 1 rfl rfl 3 (Nat.le_of_ble_eq_true rfl) (ho (.fieldLink RX6 13 "NearEnough$Scanner" "kind" "I") (List.mem_of_getElem? (i := 3) rfl)) (fun _ h9 => h9) rfl (tyX6_ok 3 (Nat.le_of_ble_eq_true rfl)) rfl rfl (Nat.le_of_ble_eq_true rfl) dX6_scanWord_103 (fun H locs hP hD hS => ?_)
          have hP : va_P (dC, dI) vwCl (rW κ (sI σ5_ 4 s103_)) H := hP
          have hD : va_D A (rW κ (sI σ5_ 4 s103_)) := hD
          have o1 : (σ5_.1 1).toInt = (σ.1 1).toInt := by omega
          rw [hQ]
          exact W.vret hx hb hr (fun t ht hW => ⟨⟨(sI σ5_ 4 s103_), rfl, ⟨(RInv.sI (k := 4) (v := s103_) hIσ5_ (Inv.any s103_)), o1⟩, wEn_of hP (hK.sub [] rfl) hD ht hW⟩, hS.F ht⟩) hS.2.2 dX6_scanWord_106
        refine lv_aload_n hx hb dX6_scanWord_84 rfl (lv_at hl 0 rfl) ?_
        have bσ5__3 : 0 ≤ (σ5_.1 3).toInt ∧ (σ5_.1 3).toInt ≤ 1000 := hIσ5_ 3
        refine va_get (D := (dC, dI)) (ci := 6) (v := .int (σ5_.1 3)) (C := RX6) (T := TX6) (N := 7) hx hb hts hin6 hown hK hP 1 rfl rfl 2 (Nat.le_of_ble_eq_true rfl) (ho (.fieldLink RX6 7 "NearEnough$Scanner" "next" "I") (List.mem_of_getElem? (i := 1) rfl)) (fun _ h9 => h9) rfl dX6_scanWord_85 ?_
        refine lv_aload_n hx hb dX6_scanWord_88 rfl (lv_at hl 0 rfl) ?_
        have bσ5__5 : 0 ≤ (σ5_.1 5).toInt ∧ (σ5_.1 5).toInt ≤ 1000 := hIσ5_ 5
        refine va_get (D := (dC, dI)) (ci := 6) (v := .int (σ5_.1 5)) (C := RX6) (T := TX6) (N := 7) hx hb hts hin6 hown hK hP 1 rfl rfl 4 (Nat.le_of_ble_eq_true rfl) (ho (.fieldLink RX6 16 "NearEnough$Scanner" "place" "I") (List.mem_of_getElem? (i := 4) rfl)) (fun _ h9 => h9) rfl dX6_scanWord_89 ?_
        refine lv_isub hx hb dX6_scanWord_92 ?_
        refine lv_topi (fun z2_ ez2_ => ?_)
        refine lv_bipush (v := 8) hx hb dX6_scanWord_93 rg_23 ?_
        refine lv_icmp_gt (tgt := 102) hx hb dX6_scanWord_95 rfl (fun c3_ => ?_) (fun c3_ => ?_)
        · have tc3_ := (show 8 < z2_.toInt from ti_lt rg_24 rfl c3_)
          refine lv_iconst (v := 0) hx hb dX6_scanWord_102 rg_0 ?_
          have kk4_ : (0 : Int32).toInt = 0 := rg_11
          exact pt103_  0 _ _ _  hP hD hS (lv_sub hl [] rfl)
        · have tc3_ := (show z2_.toInt ≤ 8 from ti_nlt rg_24 rfl c3_)
          refine lv_iconst (v := 1) hx hb dX6_scanWord_98 rg_6 ?_
          refine lv_goto (tgt := 103) hx hb dX6_scanWord_99 rfl ?_
          have kk5_ : (1 : Int32).toInt = 1 := rg_18
          exact pt103_  1 _ _ _  hP hD hS (lv_sub hl [] rfl)
      · have tc1_ := (show (σ5_.1 3).toInt < (σ5_.1 0).toInt from ti_nle rfl rfl c1_)
        refine lv_aload_n hx hb dX6_scanWord_16 rfl (lv_at hl 0 rfl) ?_
        refine va_get (D := (dC, dI)) (ci := 6) (v := .ref (kA κ 2)) (C := RX6) (T := TX6) (N := 7) hx hb hts hin6 hown hK hP 1 rfl rfl 0 (Nat.le_of_ble_eq_true rfl) (ho (.fieldLink RX6 26 "NearEnough$Scanner" "text" "[B") (List.mem_of_getElem? (i := 5) rfl)) (fun _ h9 => h9) rfl dX6_scanWord_17 ?_
        refine lv_aload_n hx hb dX6_scanWord_20 rfl (lv_at hl 0 rfl) ?_
        have bσ5__3 : 0 ≤ (σ5_.1 3).toInt ∧ (σ5_.1 3).toInt ≤ 1000 := hIσ5_ 3
        refine va_get (D := (dC, dI)) (ci := 6) (v := .int (σ5_.1 3)) (C := RX6) (T := TX6) (N := 7) hx hb hts hin6 hown hK hP 1 rfl rfl 2 (Nat.le_of_ble_eq_true rfl) (ho (.fieldLink RX6 7 "NearEnough$Scanner" "next" "I") (List.mem_of_getElem? (i := 1) rfl)) (fun _ h9 => h9) rfl dX6_scanWord_21 ?_
        have o2 : 0 ≤ (σ5_.1 3).toInt := by omega
        have o3 : (σ5_.1 3).toInt < ((1000 : Nat) : Int) := by omega
        refine va_bald hx hb hK hP 2 0 rfl rfl (ti_inx o2 o3) dX6_scanWord_24 ?_
        refine lv_topi (fun z6_ ez6_ => ?_)
        refine lv_bipush (v := 97) hx hb dX6_scanWord_25 rg_2 ?_
        refine lv_icmp_lt (tgt := 83) hx hb dX6_scanWord_27 rfl (fun c7_ => ?_) (fun c7_ => ?_)
        · have tc7_ := (show z6_.toInt < 97 from ti_lt rfl rg_3 c7_)
          refine lv_aload_n hx hb dX6_scanWord_83 rfl (lv_at hl 0 rfl) ?_
          have pt103_ : ∀ (s103_ : Int32) (H : Heap) (locs : List Loc) (ls : Array Slot), va_P (dC, dI) vwCl (rW κ σ5_) H → va_D A (rW κ σ5_) → va_S A s.heap H locs → lv_has ls 1 [] → W p l e (headSpec vs_r_scanWord rm_r_scanWord).room s m #[Value.ref (kA κ 1)] below meth c H locs 0 0 Q (F0 m 103 ls [.int s103_, .ref (kA κ 1)]) := by
            intro s103_ H locs ls hP hD hS hl
            have bσ5__0 : 0 ≤ (σ5_.1 0).toInt ∧ (σ5_.1 0).toInt ≤ 1000 := hIσ5_ 0
            have bσ5__3 : 0 ≤ (σ5_.1 3).toInt ∧ (σ5_.1 3).toInt ≤ 1000 := hIσ5_ 3
            refine va_put (D := (dC, dI)) (ci := 6) (v := .int s103_) (ty := tyX6 3) (C := RX6) (T := TX6) (N := 7) hx hb hts hin6 tyX6 tyX6_ok nmX6 hown hK hP hD hS 1 rfl rfl 3 (Nat.le_of_ble_eq_true rfl) (ho (.fieldLink RX6 13 "NearEnough$Scanner" "kind" "I") (List.mem_of_getElem? (i := 3) rfl)) (fun _ h9 => h9) rfl (tyX6_ok 3 (Nat.le_of_ble_eq_true rfl)) rfl rfl (Nat.le_of_ble_eq_true rfl) dX6_scanWord_103 (fun H locs hP hD hS => ?_)
            have hP : va_P (dC, dI) vwCl (rW κ (sI σ5_ 4 s103_)) H := hP
            have hD : va_D A (rW κ (sI σ5_ 4 s103_)) := hD
            have o4 : (σ5_.1 1).toInt = (σ.1 1).toInt := by omega
            rw [hQ]
            exact W.vret hx hb hr (fun t ht hW => ⟨⟨(sI σ5_ 4 s103_), rfl, ⟨(RInv.sI (k := 4) (v := s103_) hIσ5_ (Inv.any s103_)), o4⟩, wEn_of hP (hK.sub [] rfl) hD ht hW⟩, hS.F ht⟩) hS.2.2 dX6_scanWord_106
          refine lv_aload_n hx hb dX6_scanWord_84 rfl (lv_at hl 0 rfl) ?_
          have bσ5__3 : 0 ≤ (σ5_.1 3).toInt ∧ (σ5_.1 3).toInt ≤ 1000 := hIσ5_ 3
          refine va_get (D := (dC, dI)) (ci := 6) (v := .int (σ5_.1 3)) (C := RX6) (T := TX6) (N := 7) hx hb hts hin6 hown hK hP 1 rfl rfl 2 (Nat.le_of_ble_eq_true rfl) (ho (.fieldLink RX6 7 "NearEnough$Scanner" "next" "I") (List.mem_of_getElem? (i := 1) rfl)) (fun _ h9 => h9) rfl dX6_scanWord_85 ?_
          refine lv_aload_n hx hb dX6_scanWord_88 rfl (lv_at hl 0 rfl) ?_
          have bσ5__5 : 0 ≤ (σ5_.1 5).toInt ∧ (σ5_.1 5).toInt ≤ 1000 := hIσ5_ 5
          refine va_get (D := (dC, dI)) (ci := 6) (v := .int (σ5_.1 5)) (C := RX6) (T := TX6) (N := 7) hx hb hts hin6 hown hK hP 1 rfl rfl 4 (Nat.le_of_ble_eq_true rfl) (ho (.fieldLink RX6 16 "NearEnough$Scanner" "place" "I") (List.mem_of_getElem? (i := 4) rfl)) (fun _ h9 => h9) rfl dX6_scanWord_89 ?_
          refine lv_isub hx hb dX6_scanWord_92 ?_
          refine lv_topi (fun z8_ ez8_ => ?_)
          refine lv_bipush (v := 8) hx hb dX6_scanWord_93 rg_23 ?_
          refine lv_icmp_gt (tgt := 102) hx hb dX6_scanWord_95 rfl (fun c9_ => ?_) (fun c9_ => ?_)
          · have tc9_ := (show 8 < z8_.toInt from ti_lt rg_24 rfl c9_)
            refine lv_iconst (v := 0) hx hb dX6_scanWord_102 rg_0 ?_
            have kk10_ : (0 : Int32).toInt = 0 := rg_11
            exact pt103_  0 _ _ _  hP hD hS (lv_sub hl [] rfl)
          · have tc9_ := (show z8_.toInt ≤ 8 from ti_nlt rg_24 rfl c9_)
            refine lv_iconst (v := 1) hx hb dX6_scanWord_98 rg_6 ?_
            refine lv_goto (tgt := 103) hx hb dX6_scanWord_99 rfl ?_
            have kk11_ : (1 : Int32).toInt = 1 := rg_18
            exact pt103_  1 _ _ _  hP hD hS (lv_sub hl [] rfl)
        · have tc7_ := (show 97 ≤ z6_.toInt from ti_nlt rfl rg_3 c7_)
          refine lv_aload_n hx hb dX6_scanWord_30 rfl (lv_at hl 0 rfl) ?_
          refine va_get (D := (dC, dI)) (ci := 6) (v := .ref (kA κ 2)) (C := RX6) (T := TX6) (N := 7) hx hb hts hin6 hown hK hP 1 rfl rfl 0 (Nat.le_of_ble_eq_true rfl) (ho (.fieldLink RX6 26 "NearEnough$Scanner" "text" "[B") (List.mem_of_getElem? (i := 5) rfl)) (fun _ h9 => h9) rfl dX6_scanWord_31 ?_
          refine lv_aload_n hx hb dX6_scanWord_34 rfl (lv_at hl 0 rfl) ?_
          have bσ5__3 : 0 ≤ (σ5_.1 3).toInt ∧ (σ5_.1 3).toInt ≤ 1000 := hIσ5_ 3
          refine va_get (D := (dC, dI)) (ci := 6) (v := .int (σ5_.1 3)) (C := RX6) (T := TX6) (N := 7) hx hb hts hin6 hown hK hP 1 rfl rfl 2 (Nat.le_of_ble_eq_true rfl) (ho (.fieldLink RX6 7 "NearEnough$Scanner" "next" "I") (List.mem_of_getElem? (i := 1) rfl)) (fun _ h9 => h9) rfl dX6_scanWord_35 ?_
          refine va_bald hx hb hK hP 2 0 rfl rfl (ti_inx o2 o3) dX6_scanWord_38 ?_
          refine lv_topi (fun z12_ ez12_ => ?_)
          have qq13_ : z12_.toInt = z6_.toInt := congrArg Int32.toInt (ez12_.trans ez6_.symm)
          refine lv_bipush (v := 122) hx hb dX6_scanWord_39 rg_4 ?_
          refine lv_icmp_gt (tgt := 83) hx hb dX6_scanWord_41 rfl (fun c14_ => ?_) (fun c14_ => ?_)
          · have tc14_ := (show 122 < z12_.toInt from ti_lt rg_5 rfl c14_)
            refine lv_aload_n hx hb dX6_scanWord_83 rfl (lv_at hl 0 rfl) ?_
            have pt103_ : ∀ (s103_ : Int32) (H : Heap) (locs : List Loc) (ls : Array Slot), va_P (dC, dI) vwCl (rW κ σ5_) H → va_D A (rW κ σ5_) → va_S A s.heap H locs → lv_has ls 1 [] → W p l e (headSpec vs_r_scanWord rm_r_scanWord).room s m #[Value.ref (kA κ 1)] below meth c H locs 0 0 Q (F0 m 103 ls [.int s103_, .ref (kA κ 1)]) := by
              intro s103_ H locs ls hP hD hS hl
              have bσ5__0 : 0 ≤ (σ5_.1 0).toInt ∧ (σ5_.1 0).toInt ≤ 1000 := hIσ5_ 0
              have bσ5__3 : 0 ≤ (σ5_.1 3).toInt ∧ (σ5_.1 3).toInt ≤ 1000 := hIσ5_ 3
              refine va_put (D := (dC, dI)) (ci := 6) (v := .int s103_) (ty := tyX6 3) (C := RX6) (T := TX6) (N := 7) hx hb hts hin6 tyX6 tyX6_ok nmX6 hown hK hP hD hS 1 rfl rfl 3 (Nat.le_of_ble_eq_true rfl) (ho (.fieldLink RX6 13 "NearEnough$Scanner" "kind" "I") (List.mem_of_getElem? (i := 3) rfl)) (fun _ h9 => h9) rfl (tyX6_ok 3 (Nat.le_of_ble_eq_true rfl)) rfl rfl (Nat.le_of_ble_eq_true rfl) dX6_scanWord_103 (fun H locs hP hD hS => ?_)
              have hP : va_P (dC, dI) vwCl (rW κ (sI σ5_ 4 s103_)) H := hP
              have hD : va_D A (rW κ (sI σ5_ 4 s103_)) := hD
              have o5 : (σ5_.1 1).toInt = (σ.1 1).toInt := by omega
              rw [hQ]
              exact W.vret hx hb hr (fun t ht hW => ⟨⟨(sI σ5_ 4 s103_), rfl, ⟨(RInv.sI (k := 4) (v := s103_) hIσ5_ (Inv.any s103_)), o5⟩, wEn_of hP (hK.sub [] rfl) hD ht hW⟩, hS.F ht⟩) hS.2.2 dX6_scanWord_106
            refine lv_aload_n hx hb dX6_scanWord_84 rfl (lv_at hl 0 rfl) ?_
            have bσ5__3 : 0 ≤ (σ5_.1 3).toInt ∧ (σ5_.1 3).toInt ≤ 1000 := hIσ5_ 3
            refine va_get (D := (dC, dI)) (ci := 6) (v := .int (σ5_.1 3)) (C := RX6) (T := TX6) (N := 7) hx hb hts hin6 hown hK hP 1 rfl rfl 2 (Nat.le_of_ble_eq_true rfl) (ho (.fieldLink RX6 7 "NearEnough$Scanner" "next" "I") (List.mem_of_getElem? (i := 1) rfl)) (fun _ h9 => h9) rfl dX6_scanWord_85 ?_
            refine lv_aload_n hx hb dX6_scanWord_88 rfl (lv_at hl 0 rfl) ?_
            have bσ5__5 : 0 ≤ (σ5_.1 5).toInt ∧ (σ5_.1 5).toInt ≤ 1000 := hIσ5_ 5
            refine va_get (D := (dC, dI)) (ci := 6) (v := .int (σ5_.1 5)) (C := RX6) (T := TX6) (N := 7) hx hb hts hin6 hown hK hP 1 rfl rfl 4 (Nat.le_of_ble_eq_true rfl) (ho (.fieldLink RX6 16 "NearEnough$Scanner" "place" "I") (List.mem_of_getElem? (i := 4) rfl)) (fun _ h9 => h9) rfl dX6_scanWord_89 ?_
            refine lv_isub hx hb dX6_scanWord_92 ?_
            refine lv_topi (fun z15_ ez15_ => ?_)
            refine lv_bipush (v := 8) hx hb dX6_scanWord_93 rg_23 ?_
            refine lv_icmp_gt (tgt := 102) hx hb dX6_scanWord_95 rfl (fun c16_ => ?_) (fun c16_ => ?_)
            · have tc16_ := (show 8 < z15_.toInt from ti_lt rg_24 rfl c16_)
              refine lv_iconst (v := 0) hx hb dX6_scanWord_102 rg_0 ?_
              have kk17_ : (0 : Int32).toInt = 0 := rg_11
              exact pt103_  0 _ _ _  hP hD hS (lv_sub hl [] rfl)
            · have tc16_ := (show z15_.toInt ≤ 8 from ti_nlt rg_24 rfl c16_)
              refine lv_iconst (v := 1) hx hb dX6_scanWord_98 rg_6 ?_
              refine lv_goto (tgt := 103) hx hb dX6_scanWord_99 rfl ?_
              have kk18_ : (1 : Int32).toInt = 1 := rg_18
              exact pt103_  1 _ _ _  hP hD hS (lv_sub hl [] rfl)
          · have tc14_ := (show z12_.toInt ≤ 122 from ti_nlt rg_5 rfl c14_)
            refine lv_aload_n hx hb dX6_scanWord_44 rfl (lv_at hl 0 rfl) ?_
            refine lv_aload_n hx hb dX6_scanWord_45 rfl (lv_at hl 0 rfl) ?_
            refine va_get (D := (dC, dI)) (ci := 6) (v := .long (σ5_.2.2.2 7)) (C := RX6) (T := TX6) (N := 7) hx hb hts hin6 hown hK hP 1 rfl rfl 5 (Nat.le_of_ble_eq_true rfl) (ho (.fieldLink RX6 19 "NearEnough$Scanner" "word" "J") (List.mem_of_getElem? (i := 0) rfl)) (fun _ h9 => h9) rfl dX6_scanWord_46 ?_
            refine lv_iconst (v := 5) hx hb dX6_scanWord_49 rg_14 ?_
            refine lv_lshl hx hb dX6_scanWord_50 rfl ?_
            refine lv_topl (fun y19_ ey19_ => ?_)
            refine lv_aload_n hx hb dX6_scanWord_51 rfl (lv_at hl 0 rfl) ?_
            refine va_get (D := (dC, dI)) (ci := 6) (v := .ref (kA κ 2)) (C := RX6) (T := TX6) (N := 7) hx hb hts hin6 hown hK hP 1 rfl rfl 0 (Nat.le_of_ble_eq_true rfl) (ho (.fieldLink RX6 26 "NearEnough$Scanner" "text" "[B") (List.mem_of_getElem? (i := 5) rfl)) (fun _ h9 => h9) rfl dX6_scanWord_52 ?_
            refine lv_aload_n hx hb dX6_scanWord_55 rfl (lv_at hl 0 rfl) ?_
            have bσ5__3 : 0 ≤ (σ5_.1 3).toInt ∧ (σ5_.1 3).toInt ≤ 1000 := hIσ5_ 3
            refine va_get (D := (dC, dI)) (ci := 6) (v := .int (σ5_.1 3)) (C := RX6) (T := TX6) (N := 7) hx hb hts hin6 hown hK hP 1 rfl rfl 2 (Nat.le_of_ble_eq_true rfl) (ho (.fieldLink RX6 7 "NearEnough$Scanner" "next" "I") (List.mem_of_getElem? (i := 1) rfl)) (fun _ h9 => h9) rfl dX6_scanWord_56 ?_
            refine va_bald hx hb hK hP 2 0 rfl rfl (ti_inx o2 o3) dX6_scanWord_59 ?_
            refine lv_topi (fun z20_ ez20_ => ?_)
            have qq21_ : z20_.toInt = z6_.toInt := congrArg Int32.toInt (ez20_.trans ez6_.symm)
            refine lv_bipush (v := 97) hx hb dX6_scanWord_60 rg_2 ?_
            refine lv_isub hx hb dX6_scanWord_62 ?_
            refine lv_topi (fun z22_ ez22_ => ?_)
            refine lv_iconst (v := 1) hx hb dX6_scanWord_63 rg_6 ?_
            refine lv_iadd hx hb dX6_scanWord_64 ?_
            refine lv_topi (fun z23_ ez23_ => ?_)
            refine lv_i2l hx hb dX6_scanWord_65 rfl ?_
            refine lv_topl (fun y24_ ey24_ => ?_)
            refine lv_lor hx hb dX6_scanWord_66 ?_
            refine lv_topl (fun y25_ ey25_ => ?_)
            refine va_put (D := (dC, dI)) (ci := 6) (v := .long y25_) (ty := tyX6 5) (C := RX6) (T := TX6) (N := 7) hx hb hts hin6 tyX6 tyX6_ok nmX6 hown hK hP hD hS 1 rfl rfl 5 (Nat.le_of_ble_eq_true rfl) (ho (.fieldLink RX6 19 "NearEnough$Scanner" "word" "J") (List.mem_of_getElem? (i := 0) rfl)) (fun _ h9 => h9) rfl (tyX6_ok 5 (Nat.le_of_ble_eq_true rfl)) rfl rfl (Nat.le_of_ble_eq_true rfl) dX6_scanWord_67 (fun H locs hP hD hS => ?_)
            have hP : va_P (dC, dI) vwCl (rW κ (sL σ5_ 7 y25_)) H := hP
            have hD : va_D A (rW κ (sL σ5_ 7 y25_)) := hD
            refine lv_aload_n hx hb dX6_scanWord_70 rfl (lv_at hl 0 rfl) ?_
            refine lv_dup hx hb dX6_scanWord_71 rfl ?_
            have bσ5__3 : 0 ≤ (σ5_.1 3).toInt ∧ (σ5_.1 3).toInt ≤ 1000 := hIσ5_ 3
            refine va_get (D := (dC, dI)) (ci := 6) (v := .int (σ5_.1 3)) (C := RX6) (T := TX6) (N := 7) hx hb hts hin6 hown hK hP 1 rfl rfl 2 (Nat.le_of_ble_eq_true rfl) (ho (.fieldLink RX6 7 "NearEnough$Scanner" "next" "I") (List.mem_of_getElem? (i := 1) rfl)) (fun _ h9 => h9) rfl dX6_scanWord_72 ?_
            refine lv_iconst (v := 1) hx hb dX6_scanWord_75 rg_6 ?_
            refine lv_iadd hx hb dX6_scanWord_76 ?_
            refine lv_topi (fun z26_ ez26_ => ?_)
            have o6 : -2147483648 ≤ (σ5_.1 3).toInt + 1 := by omega
            have o7 : (σ5_.1 3).toInt + 1 ≤ 2147483647 := by omega
            have tz26_ : z26_.toInt = (σ5_.1 3).toInt + 1 := ti_add ez26_ rfl rg_18 o6 o7
            refine va_put (D := (dC, dI)) (ci := 6) (v := .int z26_) (ty := tyX6 2) (C := RX6) (T := TX6) (N := 7) hx hb hts hin6 tyX6 tyX6_ok nmX6 hown hK hP hD hS 1 rfl rfl 2 (Nat.le_of_ble_eq_true rfl) (ho (.fieldLink RX6 7 "NearEnough$Scanner" "next" "I") (List.mem_of_getElem? (i := 1) rfl)) (fun _ h9 => h9) rfl (tyX6_ok 2 (Nat.le_of_ble_eq_true rfl)) rfl rfl (Nat.le_of_ble_eq_true rfl) dX6_scanWord_77 (fun H locs hP hD hS => ?_)
            have hP : va_P (dC, dI) vwCl (rW κ (sL (sI σ5_ 3 z26_) 7 y25_)) H := hP
            have hD : va_D A (rW κ (sL (sI σ5_ 3 z26_) 7 y25_)) := hD
            refine lv_goto (tgt := 5) hx hb dX6_scanWord_80 rfl ?_
            have o8 : (1000 - z26_.toInt).toNat < n5_ := by omega
            have o9 : 0 ≤ z26_.toInt := by omega
            have o10 : z26_.toInt ≤ 1000 := by omega
            have o11 : (σ5_.1 1).toInt = (σ.1 1).toInt := by omega
            exact ih5_ (sL (sI σ5_ 3 z26_) 7 y25_)  _ _ _ o8 (RInv.sL (RInv.sI (k := 3) (v := z26_) hIσ5_ ⟨o9, o10⟩)) o11 hP hD hS (lv_sub hl [0] rfl)
  have o12 : (σ.1 1).toInt = (σ.1 1).toInt := by omega
  exact pt5_ _ (sL σ 7 0)  _ _ _ (Nat.lt_succ_self _) (RInv.sL hI) o12 hP hD hS (lv_sub hl [0] rfl)
def ow_r_scanNumber : List Cond := [.fieldLink RX6 23 "NearEnough$Scanner" "number" "I", .fieldLink RX6 7 "NearEnough$Scanner" "next" "I", .fieldLink RX6 36 "NearEnough$Scanner" "length" "I", .fieldLink RX6 13 "NearEnough$Scanner" "kind" "I", .fieldLink RX6 16 "NearEnough$Scanner" "place" "I", .fieldLink RX6 26 "NearEnough$Scanner" "text" "[B"]
def vs_r_scanNumber : List Cond := .code yX6_scanNumber cX6_scanNumber 2 none :: (ow_r_scanNumber ++ (wsX60))
theorem vg_r_scanNumber : vs_r_scanNumber.all goodWord = true := by decide +kernel
theorem dd_r_scanNumber : yX6_scanNumber.cls = RX6 ∧ yX6_scanNumber.cls ≠ "java/lang/invoke/MethodHandle" ∧ yX6_scanNumber.cls ≠ "java/lang/invoke/VarHandle" ∧ (parseMethodDescriptor yX6_scanNumber.desc).map (fun d => d.parameters.length) = some 0 := by decide +kernel
def rm_r_scanNumber : Room := { frames := 0, cells := 0, slots := 0, locals := 0 }
set_option maxHeartbeats 4000000 in
set_option maxRecDepth 100000 in
theorem r_scanNumber (l : Launch) (dC : Nat → ClassId) (dI : Nat → Nat → Nat) (adK adV : Nat → Nat) (κ : CE) (sz : Nat) (σ : MS) (hk : PInv κ) (hI : RInv σ)  : Met l yX6_scanNumber vs_r_scanNumber rm_r_scanNumber (va_Pc [.ref (kA κ 1)] (wSr dC dI adK adV (rW κ σ) (rT κ) sz)) (va_Qv (fun (τ : MS) => RInv τ ∧ ((τ.1 1).toInt = (σ.1 1).toInt)) (fun (τ : MS) => wEn dC dI (va_A (rW κ σ) sz) (rW κ τ) []) (va_A (rW κ σ) sz)) 0 0 (va_A (rW κ σ) sz) := by
  refine Met.ofW (cc := cX6_scanNumber) (maxL := 2) (ret := none) (by decide +kernel) rfl ?_
  intro p e s m args below meth c s₁ B hml hv
  obtain ⟨rfl, ⟨hsz, hP, hK, hD0, hE⟩, hZ, hR⟩ := hv
  have hx := B.exec
  have hb := B.bytes
  have hr := B.returns
  have hts := atoms_spec (ws := vs_r_scanNumber) B.pre
  have hown : s.vm.findClass RX6 = some m.cls := findClass_of_methodNamed B.named
  have hlocks := B.notSynchronized
  subst hsz
  have hD := hD0.self (sz := s.heap.size)
  generalize hAe : va_A (rW κ σ) s.heap.size = A at hD hZ ⊢
  have hA : ∀ q : Nat, s.heap.size ≤ q → A q := fun q h => by rw [← hAe]; exact Or.inr h
  have hl := lv_entry ([.ref (kA κ 1)]) (n := 2) (Nat.le_of_ble_eq_true rfl)
  rw [lg_entry_eq]
  generalize (lg_sl ([.ref (kA κ 1)]) ++ List.replicate (2 - (lg_sl ([.ref (kA κ 1)])).length) Slot.unset).toArray = ls at hl ⊢
  have hl : lv_has ls 2 [(0, .ref (kA κ 1))] := hl
  have ho := fun w (h : w ∈ ow_r_scanNumber) => hts w (List.mem_cons_of_mem _ (List.mem_append_left _ h))
  have hin6 : ∀ w ∈ u_ws RX6 TX6 7, w ∈ vs_r_scanNumber := fun w h => (List.mem_cons_of_mem _ (List.mem_append_right _ h))
  refine zQ (fun Q hQ => ?_)
  refine zH (A := A) (ws := (rW κ σ)) (fun H hP hS => ?_) hP
  have hk0 := hk.1
  have hk1 := hk.2.1
  have hk2 := hk.2.2.1
  have bσ_0 : 0 ≤ (σ.1 0).toInt ∧ (σ.1 0).toInt ≤ 1000 := hI 0
  have bσ_3 : 0 ≤ (σ.1 3).toInt ∧ (σ.1 3).toInt ≤ 1000 := hI 3
  refine lv_aload_n hx hb dX6_scanNumber_0 rfl (lv_at hl 0 rfl) ?_
  refine lv_iconst (v := 0) hx hb dX6_scanNumber_1 rg_0 ?_
  refine va_put (D := (dC, dI)) (ci := 6) (v := .int 0) (ty := tyX6 6) (C := RX6) (T := TX6) (N := 7) hx hb hts hin6 tyX6 tyX6_ok nmX6 hown hK hP hD hS 1 rfl rfl 6 (Nat.le_of_ble_eq_true rfl) (ho (.fieldLink RX6 23 "NearEnough$Scanner" "number" "I") (List.mem_of_getElem? (i := 0) rfl)) (fun _ h9 => h9) rfl (tyX6_ok 6 (Nat.le_of_ble_eq_true rfl)) rfl rfl (Nat.le_of_ble_eq_true rfl) dX6_scanNumber_2 (fun H locs hP hD hS => ?_)
  have hP : va_P (dC, dI) vwCl (rW κ (sI σ 6 0)) H := hP
  have hD : va_D A (rW κ (sI σ 6 0)) := hD
  have pt5_ : ∀ (n5_ : Nat) (σ5_ : MS) (H : Heap) (locs : List Loc) (ls : Array Slot), (1000 - (σ5_.1 3).toInt).toNat < n5_ → RInv σ5_ → ((σ5_.1 1).toInt = (σ.1 1).toInt) → va_P (dC, dI) vwCl (rW κ σ5_) H → va_D A (rW κ σ5_) → va_S A s.heap H locs → lv_has ls 2 [(0, .ref (kA κ 1))] → W p l e (headSpec vs_r_scanNumber rm_r_scanNumber).room s m #[Value.ref (kA κ 1)] below meth c H locs 0 0 Q (F0 m 5 ls []) := by
    intro n5_
    induction n5_ with
    | zero => intro σ5_ H locs ls hn5_ hIσ5_ hf5_0_ hP hD hS hl; exact absurd hn5_ (Nat.not_lt_zero _)
    | succ n5_ ih5_ =>
      intro σ5_ H locs ls hn5_ hIσ5_ hf5_0_ hP hD hS hl
      have bσ5__0 : 0 ≤ (σ5_.1 0).toInt ∧ (σ5_.1 0).toInt ≤ 1000 := hIσ5_ 0
      have bσ5__3 : 0 ≤ (σ5_.1 3).toInt ∧ (σ5_.1 3).toInt ≤ 1000 := hIσ5_ 3
      refine lv_aload_n hx hb dX6_scanNumber_5 rfl (lv_at hl 0 rfl) ?_
      have bσ5__3 : 0 ≤ (σ5_.1 3).toInt ∧ (σ5_.1 3).toInt ≤ 1000 := hIσ5_ 3
      refine va_get (D := (dC, dI)) (ci := 6) (v := .int (σ5_.1 3)) (C := RX6) (T := TX6) (N := 7) hx hb hts hin6 hown hK hP 1 rfl rfl 2 (Nat.le_of_ble_eq_true rfl) (ho (.fieldLink RX6 7 "NearEnough$Scanner" "next" "I") (List.mem_of_getElem? (i := 1) rfl)) (fun _ h9 => h9) rfl dX6_scanNumber_6 ?_
      refine lv_aload_n hx hb dX6_scanNumber_9 rfl (lv_at hl 0 rfl) ?_
      have bσ5__0 : 0 ≤ (σ5_.1 0).toInt ∧ (σ5_.1 0).toInt ≤ 1000 := hIσ5_ 0
      refine va_get (D := (dC, dI)) (ci := 6) (v := .int (σ5_.1 0)) (C := RX6) (T := TX6) (N := 7) hx hb hts hin6 hown hK hP 1 rfl rfl 1 (Nat.le_of_ble_eq_true rfl) (ho (.fieldLink RX6 36 "NearEnough$Scanner" "length" "I") (List.mem_of_getElem? (i := 2) rfl)) (fun _ h9 => h9) rfl dX6_scanNumber_10 ?_
      refine lv_icmp_ge (tgt := 81) hx hb dX6_scanNumber_13 rfl (fun c1_ => ?_) (fun c1_ => ?_)
      · have tc1_ := (show (σ5_.1 0).toInt ≤ (σ5_.1 3).toInt from ti_le rfl rfl c1_)
        have pt125_ : ∀ (s125_ : Int32) (H : Heap) (locs : List Loc) (ls : Array Slot), va_P (dC, dI) vwCl (rW κ σ5_) H → va_D A (rW κ σ5_) → va_S A s.heap H locs → lv_has ls 2 [(0, .ref (kA κ 1))] → W p l e (headSpec vs_r_scanNumber rm_r_scanNumber).room s m #[Value.ref (kA κ 1)] below meth c H locs 0 0 Q (F0 m 125 ls [.int s125_]) := by
          intro s125_ H locs ls hP hD hS hl
          have bσ5__0 : 0 ≤ (σ5_.1 0).toInt ∧ (σ5_.1 0).toInt ≤ 1000 := hIσ5_ 0
          have bσ5__3 : 0 ≤ (σ5_.1 3).toInt ∧ (σ5_.1 3).toInt ≤ 1000 := hIσ5_ 3
          refine lv_istore_n (lv' := [(1, .int s125_), (0, .ref (kA κ 1))]) hx hb dX6_scanNumber_125 rfl hl (Nat.le_of_ble_eq_true rfl) rfl (fun ls hl => ?_)
          refine lv_aload_n hx hb dX6_scanNumber_126 rfl (lv_at hl 1 rfl) ?_
          have pt149_ : ∀ (s149_ : Int32) (H : Heap) (locs : List Loc) (ls : Array Slot), va_P (dC, dI) vwCl (rW κ σ5_) H → va_D A (rW κ σ5_) → va_S A s.heap H locs → lv_has ls 2 [] → W p l e (headSpec vs_r_scanNumber rm_r_scanNumber).room s m #[Value.ref (kA κ 1)] below meth c H locs 0 0 Q (F0 m 149 ls [.int s149_, .ref (kA κ 1)]) := by
            intro s149_ H locs ls hP hD hS hl
            have bσ5__0 : 0 ≤ (σ5_.1 0).toInt ∧ (σ5_.1 0).toInt ≤ 1000 := hIσ5_ 0
            have bσ5__3 : 0 ≤ (σ5_.1 3).toInt ∧ (σ5_.1 3).toInt ≤ 1000 := hIσ5_ 3
            refine va_put (D := (dC, dI)) (ci := 6) (v := .int s149_) (ty := tyX6 3) (C := RX6) (T := TX6) (N := 7) hx hb hts hin6 tyX6 tyX6_ok nmX6 hown hK hP hD hS 1 rfl rfl 3 (Nat.le_of_ble_eq_true rfl) (ho (.fieldLink RX6 13 "NearEnough$Scanner" "kind" "I") (List.mem_of_getElem? (i := 3) rfl)) (fun _ h9 => h9) rfl (tyX6_ok 3 (Nat.le_of_ble_eq_true rfl)) rfl rfl (Nat.le_of_ble_eq_true rfl) dX6_scanNumber_149 (fun H locs hP hD hS => ?_)
            have hP : va_P (dC, dI) vwCl (rW κ (sI σ5_ 4 s149_)) H := hP
            have hD : va_D A (rW κ (sI σ5_ 4 s149_)) := hD
            have o1 : (σ5_.1 1).toInt = (σ.1 1).toInt := by omega
            rw [hQ]
            exact W.vret hx hb hr (fun t ht hW => ⟨⟨(sI σ5_ 4 s149_), rfl, ⟨(RInv.sI (k := 4) (v := s149_) hIσ5_ (Inv.any s149_)), o1⟩, wEn_of hP (hK.sub [] rfl) hD ht hW⟩, hS.F ht⟩) hS.2.2 dX6_scanNumber_152
          refine lv_aload_n hx hb dX6_scanNumber_127 rfl (lv_at hl 1 rfl) ?_
          have bσ5__3 : 0 ≤ (σ5_.1 3).toInt ∧ (σ5_.1 3).toInt ≤ 1000 := hIσ5_ 3
          refine va_get (D := (dC, dI)) (ci := 6) (v := .int (σ5_.1 3)) (C := RX6) (T := TX6) (N := 7) hx hb hts hin6 hown hK hP 1 rfl rfl 2 (Nat.le_of_ble_eq_true rfl) (ho (.fieldLink RX6 7 "NearEnough$Scanner" "next" "I") (List.mem_of_getElem? (i := 1) rfl)) (fun _ h9 => h9) rfl dX6_scanNumber_128 ?_
          refine lv_aload_n hx hb dX6_scanNumber_131 rfl (lv_at hl 1 rfl) ?_
          have bσ5__5 : 0 ≤ (σ5_.1 5).toInt ∧ (σ5_.1 5).toInt ≤ 1000 := hIσ5_ 5
          refine va_get (D := (dC, dI)) (ci := 6) (v := .int (σ5_.1 5)) (C := RX6) (T := TX6) (N := 7) hx hb hts hin6 hown hK hP 1 rfl rfl 4 (Nat.le_of_ble_eq_true rfl) (ho (.fieldLink RX6 16 "NearEnough$Scanner" "place" "I") (List.mem_of_getElem? (i := 4) rfl)) (fun _ h9 => h9) rfl dX6_scanNumber_132 ?_
          refine lv_isub hx hb dX6_scanNumber_135 ?_
          refine lv_topi (fun z2_ ez2_ => ?_)
          refine lv_iconst (v := 4) hx hb dX6_scanNumber_136 rg_31 ?_
          refine lv_icmp_gt (tgt := 148) hx hb dX6_scanNumber_137 rfl (fun c3_ => ?_) (fun c3_ => ?_)
          · have tc3_ := (show 4 < z2_.toInt from ti_lt rg_32 rfl c3_)
            refine lv_iconst (v := 0) hx hb dX6_scanNumber_148 rg_0 ?_
            have kk4_ : (0 : Int32).toInt = 0 := rg_11
            exact pt149_  0 _ _ _  hP hD hS (lv_sub hl [] rfl)
          · have tc3_ := (show z2_.toInt ≤ 4 from ti_nlt rg_32 rfl c3_)
            refine lv_iload_n hx hb dX6_scanNumber_140 rfl (lv_at hl 0 rfl) ?_
            refine lv_if_ne (tgt := 148) hx hb dX6_scanNumber_141 rfl (fun c5_ => ?_) (fun c5_ => ?_)
            · have tc5_ := (show s125_.toInt ≠ 0 from ti_ne rfl rg_11 c5_)
              refine lv_iconst (v := 0) hx hb dX6_scanNumber_148 rg_0 ?_
              have kk6_ : (0 : Int32).toInt = 0 := rg_11
              exact pt149_  0 _ _ _  hP hD hS (lv_sub hl [] rfl)
            · have tc5_ := (show s125_.toInt = 0 from ti_eq rfl rg_11 c5_)
              refine lv_iconst (v := 2) hx hb dX6_scanNumber_144 rg_19 ?_
              refine lv_goto (tgt := 149) hx hb dX6_scanNumber_145 rfl ?_
              have kk7_ : (2 : Int32).toInt = 2 := rg_20
              exact pt149_  2 _ _ _  hP hD hS (lv_sub hl [] rfl)
        refine lv_aload_n hx hb dX6_scanNumber_81 rfl (lv_at hl 0 rfl) ?_
        have bσ5__3 : 0 ≤ (σ5_.1 3).toInt ∧ (σ5_.1 3).toInt ≤ 1000 := hIσ5_ 3
        refine va_get (D := (dC, dI)) (ci := 6) (v := .int (σ5_.1 3)) (C := RX6) (T := TX6) (N := 7) hx hb hts hin6 hown hK hP 1 rfl rfl 2 (Nat.le_of_ble_eq_true rfl) (ho (.fieldLink RX6 7 "NearEnough$Scanner" "next" "I") (List.mem_of_getElem? (i := 1) rfl)) (fun _ h9 => h9) rfl dX6_scanNumber_82 ?_
        refine lv_aload_n hx hb dX6_scanNumber_85 rfl (lv_at hl 0 rfl) ?_
        have bσ5__0 : 0 ≤ (σ5_.1 0).toInt ∧ (σ5_.1 0).toInt ≤ 1000 := hIσ5_ 0
        refine va_get (D := (dC, dI)) (ci := 6) (v := .int (σ5_.1 0)) (C := RX6) (T := TX6) (N := 7) hx hb hts hin6 hown hK hP 1 rfl rfl 1 (Nat.le_of_ble_eq_true rfl) (ho (.fieldLink RX6 36 "NearEnough$Scanner" "length" "I") (List.mem_of_getElem? (i := 2) rfl)) (fun _ h9 => h9) rfl dX6_scanNumber_86 ?_
        refine lv_icmp_ge (tgt := 124) hx hb dX6_scanNumber_89 rfl (fun c8_ => ?_) (fun c8_ => ?_)
        · have tc8_ := (show (σ5_.1 0).toInt ≤ (σ5_.1 3).toInt from ti_le rfl rfl c8_)
          refine lv_iconst (v := 0) hx hb dX6_scanNumber_124 rg_0 ?_
          have kk9_ : (0 : Int32).toInt = 0 := rg_11
          exact pt125_  0 _ _ _  hP hD hS (lv_sub hl [0] rfl)
        · have tc8_ := (show (σ5_.1 3).toInt < (σ5_.1 0).toInt from ti_nle rfl rfl c8_)
          refine lv_aload_n hx hb dX6_scanNumber_92 rfl (lv_at hl 0 rfl) ?_
          refine va_get (D := (dC, dI)) (ci := 6) (v := .ref (kA κ 2)) (C := RX6) (T := TX6) (N := 7) hx hb hts hin6 hown hK hP 1 rfl rfl 0 (Nat.le_of_ble_eq_true rfl) (ho (.fieldLink RX6 26 "NearEnough$Scanner" "text" "[B") (List.mem_of_getElem? (i := 5) rfl)) (fun _ h9 => h9) rfl dX6_scanNumber_93 ?_
          refine lv_aload_n hx hb dX6_scanNumber_96 rfl (lv_at hl 0 rfl) ?_
          have bσ5__3 : 0 ≤ (σ5_.1 3).toInt ∧ (σ5_.1 3).toInt ≤ 1000 := hIσ5_ 3
          refine va_get (D := (dC, dI)) (ci := 6) (v := .int (σ5_.1 3)) (C := RX6) (T := TX6) (N := 7) hx hb hts hin6 hown hK hP 1 rfl rfl 2 (Nat.le_of_ble_eq_true rfl) (ho (.fieldLink RX6 7 "NearEnough$Scanner" "next" "I") (List.mem_of_getElem? (i := 1) rfl)) (fun _ h9 => h9) rfl dX6_scanNumber_97 ?_
          have o2 : 0 ≤ (σ5_.1 3).toInt := by omega
          have o3 : (σ5_.1 3).toInt < ((1000 : Nat) : Int) := by omega
          refine va_bald hx hb hK hP 2 0 rfl rfl (ti_inx o2 o3) dX6_scanNumber_100 ?_
          refine lv_topi (fun z10_ ez10_ => ?_)
          refine lv_bipush (v := 97) hx hb dX6_scanNumber_101 rg_2 ?_
          refine lv_icmp_lt (tgt := 124) hx hb dX6_scanNumber_103 rfl (fun c11_ => ?_) (fun c11_ => ?_)
          · have tc11_ := (show z10_.toInt < 97 from ti_lt rfl rg_3 c11_)
            refine lv_iconst (v := 0) hx hb dX6_scanNumber_124 rg_0 ?_
            have kk12_ : (0 : Int32).toInt = 0 := rg_11
            exact pt125_  0 _ _ _  hP hD hS (lv_sub hl [0] rfl)
          · have tc11_ := (show 97 ≤ z10_.toInt from ti_nlt rfl rg_3 c11_)
            refine lv_aload_n hx hb dX6_scanNumber_106 rfl (lv_at hl 0 rfl) ?_
            refine va_get (D := (dC, dI)) (ci := 6) (v := .ref (kA κ 2)) (C := RX6) (T := TX6) (N := 7) hx hb hts hin6 hown hK hP 1 rfl rfl 0 (Nat.le_of_ble_eq_true rfl) (ho (.fieldLink RX6 26 "NearEnough$Scanner" "text" "[B") (List.mem_of_getElem? (i := 5) rfl)) (fun _ h9 => h9) rfl dX6_scanNumber_107 ?_
            refine lv_aload_n hx hb dX6_scanNumber_110 rfl (lv_at hl 0 rfl) ?_
            have bσ5__3 : 0 ≤ (σ5_.1 3).toInt ∧ (σ5_.1 3).toInt ≤ 1000 := hIσ5_ 3
            refine va_get (D := (dC, dI)) (ci := 6) (v := .int (σ5_.1 3)) (C := RX6) (T := TX6) (N := 7) hx hb hts hin6 hown hK hP 1 rfl rfl 2 (Nat.le_of_ble_eq_true rfl) (ho (.fieldLink RX6 7 "NearEnough$Scanner" "next" "I") (List.mem_of_getElem? (i := 1) rfl)) (fun _ h9 => h9) rfl dX6_scanNumber_111 ?_
            refine va_bald hx hb hK hP 2 0 rfl rfl (ti_inx o2 o3) dX6_scanNumber_114 ?_
            refine lv_topi (fun z13_ ez13_ => ?_)
            have qq14_ : z13_.toInt = z10_.toInt := congrArg Int32.toInt (ez13_.trans ez10_.symm)
            refine lv_bipush (v := 122) hx hb dX6_scanNumber_115 rg_4 ?_
            refine lv_icmp_gt (tgt := 124) hx hb dX6_scanNumber_117 rfl (fun c15_ => ?_) (fun c15_ => ?_)
            · have tc15_ := (show 122 < z13_.toInt from ti_lt rg_5 rfl c15_)
              refine lv_iconst (v := 0) hx hb dX6_scanNumber_124 rg_0 ?_
              have kk16_ : (0 : Int32).toInt = 0 := rg_11
              exact pt125_  0 _ _ _  hP hD hS (lv_sub hl [0] rfl)
            · have tc15_ := (show z13_.toInt ≤ 122 from ti_nlt rg_5 rfl c15_)
              refine lv_iconst (v := 1) hx hb dX6_scanNumber_120 rg_6 ?_
              refine lv_goto (tgt := 125) hx hb dX6_scanNumber_121 rfl ?_
              have kk17_ : (1 : Int32).toInt = 1 := rg_18
              exact pt125_  1 _ _ _  hP hD hS (lv_sub hl [0] rfl)
      · have tc1_ := (show (σ5_.1 3).toInt < (σ5_.1 0).toInt from ti_nle rfl rfl c1_)
        refine lv_aload_n hx hb dX6_scanNumber_16 rfl (lv_at hl 0 rfl) ?_
        refine va_get (D := (dC, dI)) (ci := 6) (v := .ref (kA κ 2)) (C := RX6) (T := TX6) (N := 7) hx hb hts hin6 hown hK hP 1 rfl rfl 0 (Nat.le_of_ble_eq_true rfl) (ho (.fieldLink RX6 26 "NearEnough$Scanner" "text" "[B") (List.mem_of_getElem? (i := 5) rfl)) (fun _ h9 => h9) rfl dX6_scanNumber_17 ?_
        refine lv_aload_n hx hb dX6_scanNumber_20 rfl (lv_at hl 0 rfl) ?_
        have bσ5__3 : 0 ≤ (σ5_.1 3).toInt ∧ (σ5_.1 3).toInt ≤ 1000 := hIσ5_ 3
        refine va_get (D := (dC, dI)) (ci := 6) (v := .int (σ5_.1 3)) (C := RX6) (T := TX6) (N := 7) hx hb hts hin6 hown hK hP 1 rfl rfl 2 (Nat.le_of_ble_eq_true rfl) (ho (.fieldLink RX6 7 "NearEnough$Scanner" "next" "I") (List.mem_of_getElem? (i := 1) rfl)) (fun _ h9 => h9) rfl dX6_scanNumber_21 ?_
        have o4 : 0 ≤ (σ5_.1 3).toInt := by omega
        have o5 : (σ5_.1 3).toInt < ((1000 : Nat) : Int) := by omega
        refine va_bald hx hb hK hP 2 0 rfl rfl (ti_inx o4 o5) dX6_scanNumber_24 ?_
        refine lv_topi (fun z18_ ez18_ => ?_)
        refine lv_bipush (v := 48) hx hb dX6_scanNumber_25 rg_7 ?_
        refine lv_icmp_lt (tgt := 81) hx hb dX6_scanNumber_27 rfl (fun c19_ => ?_) (fun c19_ => ?_)
        · have tc19_ := (show z18_.toInt < 48 from ti_lt rfl rg_8 c19_)
          have pt125_ : ∀ (s125_ : Int32) (H : Heap) (locs : List Loc) (ls : Array Slot), va_P (dC, dI) vwCl (rW κ σ5_) H → va_D A (rW κ σ5_) → va_S A s.heap H locs → lv_has ls 2 [(0, .ref (kA κ 1))] → W p l e (headSpec vs_r_scanNumber rm_r_scanNumber).room s m #[Value.ref (kA κ 1)] below meth c H locs 0 0 Q (F0 m 125 ls [.int s125_]) := by
            intro s125_ H locs ls hP hD hS hl
            have bσ5__0 : 0 ≤ (σ5_.1 0).toInt ∧ (σ5_.1 0).toInt ≤ 1000 := hIσ5_ 0
            have bσ5__3 : 0 ≤ (σ5_.1 3).toInt ∧ (σ5_.1 3).toInt ≤ 1000 := hIσ5_ 3
            refine lv_istore_n (lv' := [(1, .int s125_), (0, .ref (kA κ 1))]) hx hb dX6_scanNumber_125 rfl hl (Nat.le_of_ble_eq_true rfl) rfl (fun ls hl => ?_)
            refine lv_aload_n hx hb dX6_scanNumber_126 rfl (lv_at hl 1 rfl) ?_
            have pt149_ : ∀ (s149_ : Int32) (H : Heap) (locs : List Loc) (ls : Array Slot), va_P (dC, dI) vwCl (rW κ σ5_) H → va_D A (rW κ σ5_) → va_S A s.heap H locs → lv_has ls 2 [] → W p l e (headSpec vs_r_scanNumber rm_r_scanNumber).room s m #[Value.ref (kA κ 1)] below meth c H locs 0 0 Q (F0 m 149 ls [.int s149_, .ref (kA κ 1)]) := by
              intro s149_ H locs ls hP hD hS hl
              have bσ5__0 : 0 ≤ (σ5_.1 0).toInt ∧ (σ5_.1 0).toInt ≤ 1000 := hIσ5_ 0
              have bσ5__3 : 0 ≤ (σ5_.1 3).toInt ∧ (σ5_.1 3).toInt ≤ 1000 := hIσ5_ 3
              refine va_put (D := (dC, dI)) (ci := 6) (v := .int s149_) (ty := tyX6 3) (C := RX6) (T := TX6) (N := 7) hx hb hts hin6 tyX6 tyX6_ok nmX6 hown hK hP hD hS 1 rfl rfl 3 (Nat.le_of_ble_eq_true rfl) (ho (.fieldLink RX6 13 "NearEnough$Scanner" "kind" "I") (List.mem_of_getElem? (i := 3) rfl)) (fun _ h9 => h9) rfl (tyX6_ok 3 (Nat.le_of_ble_eq_true rfl)) rfl rfl (Nat.le_of_ble_eq_true rfl) dX6_scanNumber_149 (fun H locs hP hD hS => ?_)
              have hP : va_P (dC, dI) vwCl (rW κ (sI σ5_ 4 s149_)) H := hP
              have hD : va_D A (rW κ (sI σ5_ 4 s149_)) := hD
              have o6 : (σ5_.1 1).toInt = (σ.1 1).toInt := by omega
              rw [hQ]
              exact W.vret hx hb hr (fun t ht hW => ⟨⟨(sI σ5_ 4 s149_), rfl, ⟨(RInv.sI (k := 4) (v := s149_) hIσ5_ (Inv.any s149_)), o6⟩, wEn_of hP (hK.sub [] rfl) hD ht hW⟩, hS.F ht⟩) hS.2.2 dX6_scanNumber_152
            refine lv_aload_n hx hb dX6_scanNumber_127 rfl (lv_at hl 1 rfl) ?_
            have bσ5__3 : 0 ≤ (σ5_.1 3).toInt ∧ (σ5_.1 3).toInt ≤ 1000 := hIσ5_ 3
            refine va_get (D := (dC, dI)) (ci := 6) (v := .int (σ5_.1 3)) (C := RX6) (T := TX6) (N := 7) hx hb hts hin6 hown hK hP 1 rfl rfl 2 (Nat.le_of_ble_eq_true rfl) (ho (.fieldLink RX6 7 "NearEnough$Scanner" "next" "I") (List.mem_of_getElem? (i := 1) rfl)) (fun _ h9 => h9) rfl dX6_scanNumber_128 ?_
            refine lv_aload_n hx hb dX6_scanNumber_131 rfl (lv_at hl 1 rfl) ?_
            have bσ5__5 : 0 ≤ (σ5_.1 5).toInt ∧ (σ5_.1 5).toInt ≤ 1000 := hIσ5_ 5
            refine va_get (D := (dC, dI)) (ci := 6) (v := .int (σ5_.1 5)) (C := RX6) (T := TX6) (N := 7) hx hb hts hin6 hown hK hP 1 rfl rfl 4 (Nat.le_of_ble_eq_true rfl) (ho (.fieldLink RX6 16 "NearEnough$Scanner" "place" "I") (List.mem_of_getElem? (i := 4) rfl)) (fun _ h9 => h9) rfl dX6_scanNumber_132 ?_
            refine lv_isub hx hb dX6_scanNumber_135 ?_
            refine lv_topi (fun z20_ ez20_ => ?_)
            refine lv_iconst (v := 4) hx hb dX6_scanNumber_136 rg_31 ?_
            refine lv_icmp_gt (tgt := 148) hx hb dX6_scanNumber_137 rfl (fun c21_ => ?_) (fun c21_ => ?_)
            · have tc21_ := (show 4 < z20_.toInt from ti_lt rg_32 rfl c21_)
              refine lv_iconst (v := 0) hx hb dX6_scanNumber_148 rg_0 ?_
              have kk22_ : (0 : Int32).toInt = 0 := rg_11
              exact pt149_  0 _ _ _  hP hD hS (lv_sub hl [] rfl)
            · have tc21_ := (show z20_.toInt ≤ 4 from ti_nlt rg_32 rfl c21_)
              refine lv_iload_n hx hb dX6_scanNumber_140 rfl (lv_at hl 0 rfl) ?_
              refine lv_if_ne (tgt := 148) hx hb dX6_scanNumber_141 rfl (fun c23_ => ?_) (fun c23_ => ?_)
              · have tc23_ := (show s125_.toInt ≠ 0 from ti_ne rfl rg_11 c23_)
                refine lv_iconst (v := 0) hx hb dX6_scanNumber_148 rg_0 ?_
                have kk24_ : (0 : Int32).toInt = 0 := rg_11
                exact pt149_  0 _ _ _  hP hD hS (lv_sub hl [] rfl)
              · have tc23_ := (show s125_.toInt = 0 from ti_eq rfl rg_11 c23_)
                refine lv_iconst (v := 2) hx hb dX6_scanNumber_144 rg_19 ?_
                refine lv_goto (tgt := 149) hx hb dX6_scanNumber_145 rfl ?_
                have kk25_ : (2 : Int32).toInt = 2 := rg_20
                exact pt149_  2 _ _ _  hP hD hS (lv_sub hl [] rfl)
          refine lv_aload_n hx hb dX6_scanNumber_81 rfl (lv_at hl 0 rfl) ?_
          have bσ5__3 : 0 ≤ (σ5_.1 3).toInt ∧ (σ5_.1 3).toInt ≤ 1000 := hIσ5_ 3
          refine va_get (D := (dC, dI)) (ci := 6) (v := .int (σ5_.1 3)) (C := RX6) (T := TX6) (N := 7) hx hb hts hin6 hown hK hP 1 rfl rfl 2 (Nat.le_of_ble_eq_true rfl) (ho (.fieldLink RX6 7 "NearEnough$Scanner" "next" "I") (List.mem_of_getElem? (i := 1) rfl)) (fun _ h9 => h9) rfl dX6_scanNumber_82 ?_
          refine lv_aload_n hx hb dX6_scanNumber_85 rfl (lv_at hl 0 rfl) ?_
          have bσ5__0 : 0 ≤ (σ5_.1 0).toInt ∧ (σ5_.1 0).toInt ≤ 1000 := hIσ5_ 0
          refine va_get (D := (dC, dI)) (ci := 6) (v := .int (σ5_.1 0)) (C := RX6) (T := TX6) (N := 7) hx hb hts hin6 hown hK hP 1 rfl rfl 1 (Nat.le_of_ble_eq_true rfl) (ho (.fieldLink RX6 36 "NearEnough$Scanner" "length" "I") (List.mem_of_getElem? (i := 2) rfl)) (fun _ h9 => h9) rfl dX6_scanNumber_86 ?_
          refine lv_icmp_ge (tgt := 124) hx hb dX6_scanNumber_89 rfl (fun c26_ => ?_) (fun c26_ => ?_)
          · have tc26_ := (show (σ5_.1 0).toInt ≤ (σ5_.1 3).toInt from ti_le rfl rfl c26_)
            refine lv_iconst (v := 0) hx hb dX6_scanNumber_124 rg_0 ?_
            have kk27_ : (0 : Int32).toInt = 0 := rg_11
            exact pt125_  0 _ _ _  hP hD hS (lv_sub hl [0] rfl)
          · have tc26_ := (show (σ5_.1 3).toInt < (σ5_.1 0).toInt from ti_nle rfl rfl c26_)
            refine lv_aload_n hx hb dX6_scanNumber_92 rfl (lv_at hl 0 rfl) ?_
            refine va_get (D := (dC, dI)) (ci := 6) (v := .ref (kA κ 2)) (C := RX6) (T := TX6) (N := 7) hx hb hts hin6 hown hK hP 1 rfl rfl 0 (Nat.le_of_ble_eq_true rfl) (ho (.fieldLink RX6 26 "NearEnough$Scanner" "text" "[B") (List.mem_of_getElem? (i := 5) rfl)) (fun _ h9 => h9) rfl dX6_scanNumber_93 ?_
            refine lv_aload_n hx hb dX6_scanNumber_96 rfl (lv_at hl 0 rfl) ?_
            have bσ5__3 : 0 ≤ (σ5_.1 3).toInt ∧ (σ5_.1 3).toInt ≤ 1000 := hIσ5_ 3
            refine va_get (D := (dC, dI)) (ci := 6) (v := .int (σ5_.1 3)) (C := RX6) (T := TX6) (N := 7) hx hb hts hin6 hown hK hP 1 rfl rfl 2 (Nat.le_of_ble_eq_true rfl) (ho (.fieldLink RX6 7 "NearEnough$Scanner" "next" "I") (List.mem_of_getElem? (i := 1) rfl)) (fun _ h9 => h9) rfl dX6_scanNumber_97 ?_
            refine va_bald hx hb hK hP 2 0 rfl rfl (ti_inx o4 o5) dX6_scanNumber_100 ?_
            refine lv_topi (fun z28_ ez28_ => ?_)
            have qq29_ : z28_.toInt = z18_.toInt := congrArg Int32.toInt (ez28_.trans ez18_.symm)
            refine lv_bipush (v := 97) hx hb dX6_scanNumber_101 rg_2 ?_
            refine lv_icmp_lt (tgt := 124) hx hb dX6_scanNumber_103 rfl (fun c30_ => ?_) (fun c30_ => ?_)
            · have tc30_ := (show z28_.toInt < 97 from ti_lt rfl rg_3 c30_)
              refine lv_iconst (v := 0) hx hb dX6_scanNumber_124 rg_0 ?_
              have kk31_ : (0 : Int32).toInt = 0 := rg_11
              exact pt125_  0 _ _ _  hP hD hS (lv_sub hl [0] rfl)
            · have tc30_ := (show 97 ≤ z28_.toInt from ti_nlt rfl rg_3 c30_)
              refine lv_aload_n hx hb dX6_scanNumber_106 rfl (lv_at hl 0 rfl) ?_
              refine va_get (D := (dC, dI)) (ci := 6) (v := .ref (kA κ 2)) (C := RX6) (T := TX6) (N := 7) hx hb hts hin6 hown hK hP 1 rfl rfl 0 (Nat.le_of_ble_eq_true rfl) (ho (.fieldLink RX6 26 "NearEnough$Scanner" "text" "[B") (List.mem_of_getElem? (i := 5) rfl)) (fun _ h9 => h9) rfl dX6_scanNumber_107 ?_
              refine lv_aload_n hx hb dX6_scanNumber_110 rfl (lv_at hl 0 rfl) ?_
              have bσ5__3 : 0 ≤ (σ5_.1 3).toInt ∧ (σ5_.1 3).toInt ≤ 1000 := hIσ5_ 3
              refine va_get (D := (dC, dI)) (ci := 6) (v := .int (σ5_.1 3)) (C := RX6) (T := TX6) (N := 7) hx hb hts hin6 hown hK hP 1 rfl rfl 2 (Nat.le_of_ble_eq_true rfl) (ho (.fieldLink RX6 7 "NearEnough$Scanner" "next" "I") (List.mem_of_getElem? (i := 1) rfl)) (fun _ h9 => h9) rfl dX6_scanNumber_111 ?_
              refine va_bald hx hb hK hP 2 0 rfl rfl (ti_inx o4 o5) dX6_scanNumber_114 ?_
              refine lv_topi (fun z32_ ez32_ => ?_)
              have qq33_ : z32_.toInt = z18_.toInt := congrArg Int32.toInt (ez32_.trans ez18_.symm)
              refine lv_bipush (v := 122) hx hb dX6_scanNumber_115 rg_4 ?_
              refine lv_icmp_gt (tgt := 124) hx hb dX6_scanNumber_117 rfl (fun c34_ => ?_) (fun c34_ => ?_)
              · have tc34_ := (show 122 < z32_.toInt from ti_lt rg_5 rfl c34_)
                refine lv_iconst (v := 0) hx hb dX6_scanNumber_124 rg_0 ?_
                have kk35_ : (0 : Int32).toInt = 0 := rg_11
                exact pt125_  0 _ _ _  hP hD hS (lv_sub hl [0] rfl)
              · have tc34_ := (show z32_.toInt ≤ 122 from ti_nlt rg_5 rfl c34_)
                refine lv_iconst (v := 1) hx hb dX6_scanNumber_120 rg_6 ?_
                refine lv_goto (tgt := 125) hx hb dX6_scanNumber_121 rfl ?_
                have kk36_ : (1 : Int32).toInt = 1 := rg_18
                exact pt125_  1 _ _ _  hP hD hS (lv_sub hl [0] rfl)
        · have tc19_ := (show 48 ≤ z18_.toInt from ti_nlt rfl rg_8 c19_)
          refine lv_aload_n hx hb dX6_scanNumber_30 rfl (lv_at hl 0 rfl) ?_
          refine va_get (D := (dC, dI)) (ci := 6) (v := .ref (kA κ 2)) (C := RX6) (T := TX6) (N := 7) hx hb hts hin6 hown hK hP 1 rfl rfl 0 (Nat.le_of_ble_eq_true rfl) (ho (.fieldLink RX6 26 "NearEnough$Scanner" "text" "[B") (List.mem_of_getElem? (i := 5) rfl)) (fun _ h9 => h9) rfl dX6_scanNumber_31 ?_
          refine lv_aload_n hx hb dX6_scanNumber_34 rfl (lv_at hl 0 rfl) ?_
          have bσ5__3 : 0 ≤ (σ5_.1 3).toInt ∧ (σ5_.1 3).toInt ≤ 1000 := hIσ5_ 3
          refine va_get (D := (dC, dI)) (ci := 6) (v := .int (σ5_.1 3)) (C := RX6) (T := TX6) (N := 7) hx hb hts hin6 hown hK hP 1 rfl rfl 2 (Nat.le_of_ble_eq_true rfl) (ho (.fieldLink RX6 7 "NearEnough$Scanner" "next" "I") (List.mem_of_getElem? (i := 1) rfl)) (fun _ h9 => h9) rfl dX6_scanNumber_35 ?_
          refine va_bald hx hb hK hP 2 0 rfl rfl (ti_inx o4 o5) dX6_scanNumber_38 ?_
          refine lv_topi (fun z37_ ez37_ => ?_)
          have qq38_ : z37_.toInt = z18_.toInt := congrArg Int32.toInt (ez37_.trans ez18_.symm)
          refine lv_bipush (v := 57) hx hb dX6_scanNumber_39 rg_9 ?_
          refine lv_icmp_gt (tgt := 81) hx hb dX6_scanNumber_41 rfl (fun c39_ => ?_) (fun c39_ => ?_)
          · have tc39_ := (show 57 < z37_.toInt from ti_lt rg_10 rfl c39_)
            have pt125_ : ∀ (s125_ : Int32) (H : Heap) (locs : List Loc) (ls : Array Slot), va_P (dC, dI) vwCl (rW κ σ5_) H → va_D A (rW κ σ5_) → va_S A s.heap H locs → lv_has ls 2 [(0, .ref (kA κ 1))] → W p l e (headSpec vs_r_scanNumber rm_r_scanNumber).room s m #[Value.ref (kA κ 1)] below meth c H locs 0 0 Q (F0 m 125 ls [.int s125_]) := by
              intro s125_ H locs ls hP hD hS hl
              have bσ5__0 : 0 ≤ (σ5_.1 0).toInt ∧ (σ5_.1 0).toInt ≤ 1000 := hIσ5_ 0
              have bσ5__3 : 0 ≤ (σ5_.1 3).toInt ∧ (σ5_.1 3).toInt ≤ 1000 := hIσ5_ 3
              refine lv_istore_n (lv' := [(1, .int s125_), (0, .ref (kA κ 1))]) hx hb dX6_scanNumber_125 rfl hl (Nat.le_of_ble_eq_true rfl) rfl (fun ls hl => ?_)
              refine lv_aload_n hx hb dX6_scanNumber_126 rfl (lv_at hl 1 rfl) ?_
              have pt149_ : ∀ (s149_ : Int32) (H : Heap) (locs : List Loc) (ls : Array Slot), va_P (dC, dI) vwCl (rW κ σ5_) H → va_D A (rW κ σ5_) → va_S A s.heap H locs → lv_has ls 2 [] → W p l e (headSpec vs_r_scanNumber rm_r_scanNumber).room s m #[Value.ref (kA κ 1)] below meth c H locs 0 0 Q (F0 m 149 ls [.int s149_, .ref (kA κ 1)]) := by
                intro s149_ H locs ls hP hD hS hl
                have bσ5__0 : 0 ≤ (σ5_.1 0).toInt ∧ (σ5_.1 0).toInt ≤ 1000 := hIσ5_ 0
                have bσ5__3 : 0 ≤ (σ5_.1 3).toInt ∧ (σ5_.1 3).toInt ≤ 1000 := hIσ5_ 3
                refine va_put (D := (dC, dI)) (ci := 6) (v := .int s149_) (ty := tyX6 3) (C := RX6) (T := TX6) (N := 7) hx hb hts hin6 tyX6 tyX6_ok nmX6 hown hK hP hD hS 1 rfl rfl 3 (Nat.le_of_ble_eq_true rfl) (ho (.fieldLink RX6 13 "NearEnough$Scanner" "kind" "I") (List.mem_of_getElem? (i := 3) rfl)) (fun _ h9 => h9) rfl (tyX6_ok 3 (Nat.le_of_ble_eq_true rfl)) rfl rfl (Nat.le_of_ble_eq_true rfl) dX6_scanNumber_149 (fun H locs hP hD hS => ?_)
                have hP : va_P (dC, dI) vwCl (rW κ (sI σ5_ 4 s149_)) H := hP
                have hD : va_D A (rW κ (sI σ5_ 4 s149_)) := hD
                have o7 : (σ5_.1 1).toInt = (σ.1 1).toInt := by omega
                rw [hQ]
                exact W.vret hx hb hr (fun t ht hW => ⟨⟨(sI σ5_ 4 s149_), rfl, ⟨(RInv.sI (k := 4) (v := s149_) hIσ5_ (Inv.any s149_)), o7⟩, wEn_of hP (hK.sub [] rfl) hD ht hW⟩, hS.F ht⟩) hS.2.2 dX6_scanNumber_152
              refine lv_aload_n hx hb dX6_scanNumber_127 rfl (lv_at hl 1 rfl) ?_
              have bσ5__3 : 0 ≤ (σ5_.1 3).toInt ∧ (σ5_.1 3).toInt ≤ 1000 := hIσ5_ 3
              refine va_get (D := (dC, dI)) (ci := 6) (v := .int (σ5_.1 3)) (C := RX6) (T := TX6) (N := 7) hx hb hts hin6 hown hK hP 1 rfl rfl 2 (Nat.le_of_ble_eq_true rfl) (ho (.fieldLink RX6 7 "NearEnough$Scanner" "next" "I") (List.mem_of_getElem? (i := 1) rfl)) (fun _ h9 => h9) rfl dX6_scanNumber_128 ?_
              refine lv_aload_n hx hb dX6_scanNumber_131 rfl (lv_at hl 1 rfl) ?_
              have bσ5__5 : 0 ≤ (σ5_.1 5).toInt ∧ (σ5_.1 5).toInt ≤ 1000 := hIσ5_ 5
              refine va_get (D := (dC, dI)) (ci := 6) (v := .int (σ5_.1 5)) (C := RX6) (T := TX6) (N := 7) hx hb hts hin6 hown hK hP 1 rfl rfl 4 (Nat.le_of_ble_eq_true rfl) (ho (.fieldLink RX6 16 "NearEnough$Scanner" "place" "I") (List.mem_of_getElem? (i := 4) rfl)) (fun _ h9 => h9) rfl dX6_scanNumber_132 ?_
              refine lv_isub hx hb dX6_scanNumber_135 ?_
              refine lv_topi (fun z40_ ez40_ => ?_)
              refine lv_iconst (v := 4) hx hb dX6_scanNumber_136 rg_31 ?_
              refine lv_icmp_gt (tgt := 148) hx hb dX6_scanNumber_137 rfl (fun c41_ => ?_) (fun c41_ => ?_)
              · have tc41_ := (show 4 < z40_.toInt from ti_lt rg_32 rfl c41_)
                refine lv_iconst (v := 0) hx hb dX6_scanNumber_148 rg_0 ?_
                have kk42_ : (0 : Int32).toInt = 0 := rg_11
                exact pt149_  0 _ _ _  hP hD hS (lv_sub hl [] rfl)
              · have tc41_ := (show z40_.toInt ≤ 4 from ti_nlt rg_32 rfl c41_)
                refine lv_iload_n hx hb dX6_scanNumber_140 rfl (lv_at hl 0 rfl) ?_
                refine lv_if_ne (tgt := 148) hx hb dX6_scanNumber_141 rfl (fun c43_ => ?_) (fun c43_ => ?_)
                · have tc43_ := (show s125_.toInt ≠ 0 from ti_ne rfl rg_11 c43_)
                  refine lv_iconst (v := 0) hx hb dX6_scanNumber_148 rg_0 ?_
                  have kk44_ : (0 : Int32).toInt = 0 := rg_11
                  exact pt149_  0 _ _ _  hP hD hS (lv_sub hl [] rfl)
                · have tc43_ := (show s125_.toInt = 0 from ti_eq rfl rg_11 c43_)
                  refine lv_iconst (v := 2) hx hb dX6_scanNumber_144 rg_19 ?_
                  refine lv_goto (tgt := 149) hx hb dX6_scanNumber_145 rfl ?_
                  have kk45_ : (2 : Int32).toInt = 2 := rg_20
                  exact pt149_  2 _ _ _  hP hD hS (lv_sub hl [] rfl)
            refine lv_aload_n hx hb dX6_scanNumber_81 rfl (lv_at hl 0 rfl) ?_
            have bσ5__3 : 0 ≤ (σ5_.1 3).toInt ∧ (σ5_.1 3).toInt ≤ 1000 := hIσ5_ 3
            refine va_get (D := (dC, dI)) (ci := 6) (v := .int (σ5_.1 3)) (C := RX6) (T := TX6) (N := 7) hx hb hts hin6 hown hK hP 1 rfl rfl 2 (Nat.le_of_ble_eq_true rfl) (ho (.fieldLink RX6 7 "NearEnough$Scanner" "next" "I") (List.mem_of_getElem? (i := 1) rfl)) (fun _ h9 => h9) rfl dX6_scanNumber_82 ?_
            refine lv_aload_n hx hb dX6_scanNumber_85 rfl (lv_at hl 0 rfl) ?_
            have bσ5__0 : 0 ≤ (σ5_.1 0).toInt ∧ (σ5_.1 0).toInt ≤ 1000 := hIσ5_ 0
            refine va_get (D := (dC, dI)) (ci := 6) (v := .int (σ5_.1 0)) (C := RX6) (T := TX6) (N := 7) hx hb hts hin6 hown hK hP 1 rfl rfl 1 (Nat.le_of_ble_eq_true rfl) (ho (.fieldLink RX6 36 "NearEnough$Scanner" "length" "I") (List.mem_of_getElem? (i := 2) rfl)) (fun _ h9 => h9) rfl dX6_scanNumber_86 ?_
            refine lv_icmp_ge (tgt := 124) hx hb dX6_scanNumber_89 rfl (fun c46_ => ?_) (fun c46_ => ?_)
            · have tc46_ := (show (σ5_.1 0).toInt ≤ (σ5_.1 3).toInt from ti_le rfl rfl c46_)
              refine lv_iconst (v := 0) hx hb dX6_scanNumber_124 rg_0 ?_
              have kk47_ : (0 : Int32).toInt = 0 := rg_11
              exact pt125_  0 _ _ _  hP hD hS (lv_sub hl [0] rfl)
            · have tc46_ := (show (σ5_.1 3).toInt < (σ5_.1 0).toInt from ti_nle rfl rfl c46_)
              refine lv_aload_n hx hb dX6_scanNumber_92 rfl (lv_at hl 0 rfl) ?_
              refine va_get (D := (dC, dI)) (ci := 6) (v := .ref (kA κ 2)) (C := RX6) (T := TX6) (N := 7) hx hb hts hin6 hown hK hP 1 rfl rfl 0 (Nat.le_of_ble_eq_true rfl) (ho (.fieldLink RX6 26 "NearEnough$Scanner" "text" "[B") (List.mem_of_getElem? (i := 5) rfl)) (fun _ h9 => h9) rfl dX6_scanNumber_93 ?_
              refine lv_aload_n hx hb dX6_scanNumber_96 rfl (lv_at hl 0 rfl) ?_
              have bσ5__3 : 0 ≤ (σ5_.1 3).toInt ∧ (σ5_.1 3).toInt ≤ 1000 := hIσ5_ 3
              refine va_get (D := (dC, dI)) (ci := 6) (v := .int (σ5_.1 3)) (C := RX6) (T := TX6) (N := 7) hx hb hts hin6 hown hK hP 1 rfl rfl 2 (Nat.le_of_ble_eq_true rfl) (ho (.fieldLink RX6 7 "NearEnough$Scanner" "next" "I") (List.mem_of_getElem? (i := 1) rfl)) (fun _ h9 => h9) rfl dX6_scanNumber_97 ?_
              refine va_bald hx hb hK hP 2 0 rfl rfl (ti_inx o4 o5) dX6_scanNumber_100 ?_
              refine lv_topi (fun z48_ ez48_ => ?_)
              have qq49_ : z48_.toInt = z18_.toInt := congrArg Int32.toInt (ez48_.trans ez18_.symm)
              refine lv_bipush (v := 97) hx hb dX6_scanNumber_101 rg_2 ?_
              refine lv_icmp_lt (tgt := 124) hx hb dX6_scanNumber_103 rfl (fun c50_ => ?_) (fun c50_ => ?_)
              · have tc50_ := (show z48_.toInt < 97 from ti_lt rfl rg_3 c50_)
                refine lv_iconst (v := 0) hx hb dX6_scanNumber_124 rg_0 ?_
                have kk51_ : (0 : Int32).toInt = 0 := rg_11
                exact pt125_  0 _ _ _  hP hD hS (lv_sub hl [0] rfl)
              · have tc50_ := (show 97 ≤ z48_.toInt from ti_nlt rfl rg_3 c50_)
                refine lv_aload_n hx hb dX6_scanNumber_106 rfl (lv_at hl 0 rfl) ?_
                refine va_get (D := (dC, dI)) (ci := 6) (v := .ref (kA κ 2)) (C := RX6) (T := TX6) (N := 7) hx hb hts hin6 hown hK hP 1 rfl rfl 0 (Nat.le_of_ble_eq_true rfl) (ho (.fieldLink RX6 26 "NearEnough$Scanner" "text" "[B") (List.mem_of_getElem? (i := 5) rfl)) (fun _ h9 => h9) rfl dX6_scanNumber_107 ?_
                refine lv_aload_n hx hb dX6_scanNumber_110 rfl (lv_at hl 0 rfl) ?_
                have bσ5__3 : 0 ≤ (σ5_.1 3).toInt ∧ (σ5_.1 3).toInt ≤ 1000 := hIσ5_ 3
                refine va_get (D := (dC, dI)) (ci := 6) (v := .int (σ5_.1 3)) (C := RX6) (T := TX6) (N := 7) hx hb hts hin6 hown hK hP 1 rfl rfl 2 (Nat.le_of_ble_eq_true rfl) (ho (.fieldLink RX6 7 "NearEnough$Scanner" "next" "I") (List.mem_of_getElem? (i := 1) rfl)) (fun _ h9 => h9) rfl dX6_scanNumber_111 ?_
                refine va_bald hx hb hK hP 2 0 rfl rfl (ti_inx o4 o5) dX6_scanNumber_114 ?_
                refine lv_topi (fun z52_ ez52_ => ?_)
                have qq53_ : z52_.toInt = z18_.toInt := congrArg Int32.toInt (ez52_.trans ez18_.symm)
                refine lv_bipush (v := 122) hx hb dX6_scanNumber_115 rg_4 ?_
                refine lv_icmp_gt (tgt := 124) hx hb dX6_scanNumber_117 rfl (fun c54_ => ?_) (fun c54_ => ?_)
                · have tc54_ := (show 122 < z52_.toInt from ti_lt rg_5 rfl c54_)
                  refine lv_iconst (v := 0) hx hb dX6_scanNumber_124 rg_0 ?_
                  have kk55_ : (0 : Int32).toInt = 0 := rg_11
                  exact pt125_  0 _ _ _  hP hD hS (lv_sub hl [0] rfl)
                · have tc54_ := (show z52_.toInt ≤ 122 from ti_nlt rg_5 rfl c54_)
                  refine lv_iconst (v := 1) hx hb dX6_scanNumber_120 rg_6 ?_
                  refine lv_goto (tgt := 125) hx hb dX6_scanNumber_121 rfl ?_
                  have kk56_ : (1 : Int32).toInt = 1 := rg_18
                  exact pt125_  1 _ _ _  hP hD hS (lv_sub hl [0] rfl)
          · have tc39_ := (show z37_.toInt ≤ 57 from ti_nlt rg_10 rfl c39_)
            refine lv_aload_n hx hb dX6_scanNumber_44 rfl (lv_at hl 0 rfl) ?_
            refine lv_aload_n hx hb dX6_scanNumber_45 rfl (lv_at hl 0 rfl) ?_
            refine va_get (D := (dC, dI)) (ci := 6) (v := .int (σ5_.1 6)) (C := RX6) (T := TX6) (N := 7) hx hb hts hin6 hown hK hP 1 rfl rfl 6 (Nat.le_of_ble_eq_true rfl) (ho (.fieldLink RX6 23 "NearEnough$Scanner" "number" "I") (List.mem_of_getElem? (i := 0) rfl)) (fun _ h9 => h9) rfl dX6_scanNumber_46 ?_
            refine lv_bipush (v := 10) hx hb dX6_scanNumber_49 rg_34 ?_
            refine lv_imul hx hb dX6_scanNumber_51 ?_
            refine lv_topi (fun z57_ ez57_ => ?_)
            refine lv_aload_n hx hb dX6_scanNumber_52 rfl (lv_at hl 0 rfl) ?_
            refine va_get (D := (dC, dI)) (ci := 6) (v := .ref (kA κ 2)) (C := RX6) (T := TX6) (N := 7) hx hb hts hin6 hown hK hP 1 rfl rfl 0 (Nat.le_of_ble_eq_true rfl) (ho (.fieldLink RX6 26 "NearEnough$Scanner" "text" "[B") (List.mem_of_getElem? (i := 5) rfl)) (fun _ h9 => h9) rfl dX6_scanNumber_53 ?_
            refine lv_aload_n hx hb dX6_scanNumber_56 rfl (lv_at hl 0 rfl) ?_
            have bσ5__3 : 0 ≤ (σ5_.1 3).toInt ∧ (σ5_.1 3).toInt ≤ 1000 := hIσ5_ 3
            refine va_get (D := (dC, dI)) (ci := 6) (v := .int (σ5_.1 3)) (C := RX6) (T := TX6) (N := 7) hx hb hts hin6 hown hK hP 1 rfl rfl 2 (Nat.le_of_ble_eq_true rfl) (ho (.fieldLink RX6 7 "NearEnough$Scanner" "next" "I") (List.mem_of_getElem? (i := 1) rfl)) (fun _ h9 => h9) rfl dX6_scanNumber_57 ?_
            refine va_bald hx hb hK hP 2 0 rfl rfl (ti_inx o4 o5) dX6_scanNumber_60 ?_
            refine lv_topi (fun z58_ ez58_ => ?_)
            have qq59_ : z58_.toInt = z18_.toInt := congrArg Int32.toInt (ez58_.trans ez18_.symm)
            refine lv_bipush (v := 48) hx hb dX6_scanNumber_61 rg_7 ?_
            refine lv_isub hx hb dX6_scanNumber_63 ?_
            refine lv_topi (fun z60_ ez60_ => ?_)
            refine lv_iadd hx hb dX6_scanNumber_64 ?_
            refine lv_topi (fun z61_ ez61_ => ?_)
            refine va_put (D := (dC, dI)) (ci := 6) (v := .int z61_) (ty := tyX6 6) (C := RX6) (T := TX6) (N := 7) hx hb hts hin6 tyX6 tyX6_ok nmX6 hown hK hP hD hS 1 rfl rfl 6 (Nat.le_of_ble_eq_true rfl) (ho (.fieldLink RX6 23 "NearEnough$Scanner" "number" "I") (List.mem_of_getElem? (i := 0) rfl)) (fun _ h9 => h9) rfl (tyX6_ok 6 (Nat.le_of_ble_eq_true rfl)) rfl rfl (Nat.le_of_ble_eq_true rfl) dX6_scanNumber_65 (fun H locs hP hD hS => ?_)
            have hP : va_P (dC, dI) vwCl (rW κ (sI σ5_ 6 z61_)) H := hP
            have hD : va_D A (rW κ (sI σ5_ 6 z61_)) := hD
            refine lv_aload_n hx hb dX6_scanNumber_68 rfl (lv_at hl 0 rfl) ?_
            refine lv_dup hx hb dX6_scanNumber_69 rfl ?_
            have bσ5__3 : 0 ≤ (σ5_.1 3).toInt ∧ (σ5_.1 3).toInt ≤ 1000 := hIσ5_ 3
            refine va_get (D := (dC, dI)) (ci := 6) (v := .int (σ5_.1 3)) (C := RX6) (T := TX6) (N := 7) hx hb hts hin6 hown hK hP 1 rfl rfl 2 (Nat.le_of_ble_eq_true rfl) (ho (.fieldLink RX6 7 "NearEnough$Scanner" "next" "I") (List.mem_of_getElem? (i := 1) rfl)) (fun _ h9 => h9) rfl dX6_scanNumber_70 ?_
            refine lv_iconst (v := 1) hx hb dX6_scanNumber_73 rg_6 ?_
            refine lv_iadd hx hb dX6_scanNumber_74 ?_
            refine lv_topi (fun z62_ ez62_ => ?_)
            have o8 : -2147483648 ≤ (σ5_.1 3).toInt + 1 := by omega
            have o9 : (σ5_.1 3).toInt + 1 ≤ 2147483647 := by omega
            have tz62_ : z62_.toInt = (σ5_.1 3).toInt + 1 := ti_add ez62_ rfl rg_18 o8 o9
            refine va_put (D := (dC, dI)) (ci := 6) (v := .int z62_) (ty := tyX6 2) (C := RX6) (T := TX6) (N := 7) hx hb hts hin6 tyX6 tyX6_ok nmX6 hown hK hP hD hS 1 rfl rfl 2 (Nat.le_of_ble_eq_true rfl) (ho (.fieldLink RX6 7 "NearEnough$Scanner" "next" "I") (List.mem_of_getElem? (i := 1) rfl)) (fun _ h9 => h9) rfl (tyX6_ok 2 (Nat.le_of_ble_eq_true rfl)) rfl rfl (Nat.le_of_ble_eq_true rfl) dX6_scanNumber_75 (fun H locs hP hD hS => ?_)
            have hP : va_P (dC, dI) vwCl (rW κ (sI (sI σ5_ 6 z61_) 3 z62_)) H := hP
            have hD : va_D A (rW κ (sI (sI σ5_ 6 z61_) 3 z62_)) := hD
            refine lv_goto (tgt := 5) hx hb dX6_scanNumber_78 rfl ?_
            have o10 : (1000 - z62_.toInt).toNat < n5_ := by omega
            have o11 : 0 ≤ z62_.toInt := by omega
            have o12 : z62_.toInt ≤ 1000 := by omega
            have o13 : (σ5_.1 1).toInt = (σ.1 1).toInt := by omega
            exact ih5_ (sI (sI σ5_ 6 z61_) 3 z62_)  _ _ _ o10 (RInv.sI (k := 3) (v := z62_) (RInv.sI (k := 6) (v := z61_) hIσ5_ (Inv.any z61_)) ⟨o11, o12⟩) o13 hP hD hS (lv_sub hl [0] rfl)
  have o14 : (σ.1 1).toInt = (σ.1 1).toInt := by omega
  exact pt5_ _ (sI σ 6 0)  _ _ _ (Nat.lt_succ_self _) (RInv.sI (k := 6) (v := 0) hI (Inv.any 0)) o14 hP hD hS (lv_sub hl [0] rfl)
def ow_r_advance : List Cond := [.fieldLink RX6 7 "NearEnough$Scanner" "next" "I", .fieldLink RX6 36 "NearEnough$Scanner" "length" "I", .fieldLink RX6 16 "NearEnough$Scanner" "place" "I", .fieldLink RX6 26 "NearEnough$Scanner" "text" "[B", .fieldLink RX6 13 "NearEnough$Scanner" "kind" "I"]
def vs_r_advance : List Cond := .code yX6_advance cX6_advance 1 none :: (ow_r_advance ++ (([.methodLink RX6 45 yX6_scanSign, .instanceMethod yX6_scanSign, .selects RX6 yX6_scanSign yX6_scanSign, .initialized RX6] : List Cond) ++ (vs_r_scanSign ++ (([.methodLink RX6 42 yX6_scanNumber, .instanceMethod yX6_scanNumber, .selects RX6 yX6_scanNumber yX6_scanNumber, .initialized RX6] : List Cond) ++ (vs_r_scanNumber ++ (([.methodLink RX6 39 yX6_scanWord, .instanceMethod yX6_scanWord, .selects RX6 yX6_scanWord yX6_scanWord, .initialized RX6] : List Cond) ++ (vs_r_scanWord ++ (wsX60))))))))
theorem vg_r_advance : vs_r_advance.all goodWord = true := by decide +kernel
theorem dd_r_advance : yX6_advance.cls = RX6 ∧ yX6_advance.cls ≠ "java/lang/invoke/MethodHandle" ∧ yX6_advance.cls ≠ "java/lang/invoke/VarHandle" ∧ (parseMethodDescriptor yX6_advance.desc).map (fun d => d.parameters.length) = some 0 := by decide +kernel
def rm_r_advance : Room := { frames := 1, cells := 0, slots := 0, locals := 21 }
theorem gd_r_advance_45_r_scanSign : GoodIn vs_r_advance (wsV RX6 45 RX6 yX6_scanSign vs_r_scanSign) := goodIn_app (goodIn_sub (fun w h => (List.mem_cons_of_mem _ (List.mem_append_right _ (List.mem_append_left _ h)))) (by decide +kernel)) (goodIn_sub (fun w h => (List.mem_cons_of_mem _ (List.mem_append_right _ (List.mem_append_right _ (List.mem_append_left _ h))))) vg_r_scanSign)
theorem gd_r_advance_42_r_scanNumber : GoodIn vs_r_advance (wsV RX6 42 RX6 yX6_scanNumber vs_r_scanNumber) := goodIn_app (goodIn_sub (fun w h => (List.mem_cons_of_mem _ (List.mem_append_right _ (List.mem_append_right _ (List.mem_append_right _ (List.mem_append_left _ h)))))) (by decide +kernel)) (goodIn_sub (fun w h => (List.mem_cons_of_mem _ (List.mem_append_right _ (List.mem_append_right _ (List.mem_append_right _ (List.mem_append_right _ (List.mem_append_left _ h))))))) vg_r_scanNumber)
theorem gd_r_advance_39_r_scanWord : GoodIn vs_r_advance (wsV RX6 39 RX6 yX6_scanWord vs_r_scanWord) := goodIn_app (goodIn_sub (fun w h => (List.mem_cons_of_mem _ (List.mem_append_right _ (List.mem_append_right _ (List.mem_append_right _ (List.mem_append_right _ (List.mem_append_right _ (List.mem_append_left _ h)))))))) (by decide +kernel)) (goodIn_sub (fun w h => (List.mem_cons_of_mem _ (List.mem_append_right _ (List.mem_append_right _ (List.mem_append_right _ (List.mem_append_right _ (List.mem_append_right _ (List.mem_append_right _ (List.mem_append_left _ h))))))))) vg_r_scanWord)
set_option maxHeartbeats 4000000 in
set_option maxRecDepth 100000 in
theorem r_advance (l : Launch) (dC : Nat → ClassId) (dI : Nat → Nat → Nat) (adK adV : Nat → Nat) (κ : CE) (sz : Nat) (σ : MS) (hk : PInv κ) (hI : RInv σ)  : Met l yX6_advance vs_r_advance rm_r_advance (va_Pc [.ref (kA κ 1)] (wSr dC dI adK adV (rW κ σ) (rT κ) sz)) (va_Qv (fun (τ : MS) => RInv τ ∧ ((τ.1 1).toInt = (σ.1 1).toInt)) (fun (τ : MS) => wEn dC dI (va_A (rW κ σ) sz) (rW κ τ) []) (va_A (rW κ σ) sz)) 0 0 (va_A (rW κ σ) sz) := by
  refine Met.ofW (cc := cX6_advance) (maxL := 1) (ret := none) (by decide +kernel) rfl ?_
  intro p e s m args below meth c s₁ B hml hv
  obtain ⟨rfl, ⟨hsz, hP, hK, hD0, hE⟩, hZ, hR⟩ := hv
  have hx := B.exec
  have hb := B.bytes
  have hr := B.returns
  have hts := atoms_spec (ws := vs_r_advance) B.pre
  have hown : s.vm.findClass RX6 = some m.cls := findClass_of_methodNamed B.named
  have hlocks := B.notSynchronized
  subst hsz
  have hD := hD0.self (sz := s.heap.size)
  generalize hAe : va_A (rW κ σ) s.heap.size = A at hD hZ ⊢
  have hA : ∀ q : Nat, s.heap.size ≤ q → A q := fun q h => by rw [← hAe]; exact Or.inr h
  have hl := lv_entry ([.ref (kA κ 1)]) (n := 1) (Nat.le_of_ble_eq_true rfl)
  rw [lg_entry_eq]
  generalize (lg_sl ([.ref (kA κ 1)]) ++ List.replicate (1 - (lg_sl ([.ref (kA κ 1)])).length) Slot.unset).toArray = ls at hl ⊢
  have hl : lv_has ls 1 [(0, .ref (kA κ 1))] := hl
  have ho := fun w (h : w ∈ ow_r_advance) => hts w (List.mem_cons_of_mem _ (List.mem_append_left _ h))
  have hin6 : ∀ w ∈ u_ws RX6 TX6 7, w ∈ vs_r_advance := fun w h => (List.mem_cons_of_mem _ (List.mem_append_right _ (List.mem_append_right _ (List.mem_append_right _ (List.mem_append_right _ (List.mem_append_right _ (List.mem_append_right _ (List.mem_append_right _ h))))))))
  refine zQ (fun Q hQ => ?_)
  refine zH (A := A) (ws := (rW κ σ)) (fun H hP hS => ?_) hP
  have hk0 := hk.1
  have hk1 := hk.2.1
  have hk2 := hk.2.2.1
  have bσ_0 : 0 ≤ (σ.1 0).toInt ∧ (σ.1 0).toInt ≤ 1000 := hI 0
  have bσ_3 : 0 ≤ (σ.1 3).toInt ∧ (σ.1 3).toInt ≤ 1000 := hI 3
  have pt0_ : ∀ (n0_ : Nat) (σ0_ : MS) (H : Heap) (locs : List Loc) (ls : Array Slot), (1000 - (σ0_.1 3).toInt).toNat < n0_ → RInv σ0_ → ((σ0_.1 1).toInt = (σ.1 1).toInt) → va_P (dC, dI) vwCl (rW κ σ0_) H → va_D A (rW κ σ0_) → va_S A s.heap H locs → lv_has ls 1 [(0, .ref (kA κ 1))] → W p l e (headSpec vs_r_advance rm_r_advance).room s m #[Value.ref (kA κ 1)] below meth c H locs 0 0 Q (F0 m 0 ls []) := by
    intro n0_
    induction n0_ with
    | zero => intro σ0_ H locs ls hn0_ hIσ0_ hf0_0_ hP hD hS hl; exact absurd hn0_ (Nat.not_lt_zero _)
    | succ n0_ ih0_ =>
      intro σ0_ H locs ls hn0_ hIσ0_ hf0_0_ hP hD hS hl
      have bσ0__0 : 0 ≤ (σ0_.1 0).toInt ∧ (σ0_.1 0).toInt ≤ 1000 := hIσ0_ 0
      have bσ0__3 : 0 ≤ (σ0_.1 3).toInt ∧ (σ0_.1 3).toInt ≤ 1000 := hIσ0_ 3
      refine lv_aload_n hx hb dX6_advance_0 rfl (lv_at hl 0 rfl) ?_
      have bσ0__3 : 0 ≤ (σ0_.1 3).toInt ∧ (σ0_.1 3).toInt ≤ 1000 := hIσ0_ 3
      refine va_get (D := (dC, dI)) (ci := 6) (v := .int (σ0_.1 3)) (C := RX6) (T := TX6) (N := 7) hx hb hts hin6 hown hK hP 1 rfl rfl 2 (Nat.le_of_ble_eq_true rfl) (ho (.fieldLink RX6 7 "NearEnough$Scanner" "next" "I") (List.mem_of_getElem? (i := 0) rfl)) (fun _ h9 => h9) rfl dX6_advance_1 ?_
      refine lv_aload_n hx hb dX6_advance_4 rfl (lv_at hl 0 rfl) ?_
      have bσ0__0 : 0 ≤ (σ0_.1 0).toInt ∧ (σ0_.1 0).toInt ≤ 1000 := hIσ0_ 0
      refine va_get (D := (dC, dI)) (ci := 6) (v := .int (σ0_.1 0)) (C := RX6) (T := TX6) (N := 7) hx hb hts hin6 hown hK hP 1 rfl rfl 1 (Nat.le_of_ble_eq_true rfl) (ho (.fieldLink RX6 36 "NearEnough$Scanner" "length" "I") (List.mem_of_getElem? (i := 1) rfl)) (fun _ h9 => h9) rfl dX6_advance_5 ?_
      refine lv_icmp_ge (tgt := 52) hx hb dX6_advance_8 rfl (fun c1_ => ?_) (fun c1_ => ?_)
      · have tc1_ := (show (σ0_.1 0).toInt ≤ (σ0_.1 3).toInt from ti_le rfl rfl c1_)
        refine lv_aload_n hx hb dX6_advance_52 rfl (lv_at hl 0 rfl) ?_
        refine lv_aload_n hx hb dX6_advance_53 rfl (lv_at hl 0 rfl) ?_
        have bσ0__3 : 0 ≤ (σ0_.1 3).toInt ∧ (σ0_.1 3).toInt ≤ 1000 := hIσ0_ 3
        refine va_get (D := (dC, dI)) (ci := 6) (v := .int (σ0_.1 3)) (C := RX6) (T := TX6) (N := 7) hx hb hts hin6 hown hK hP 1 rfl rfl 2 (Nat.le_of_ble_eq_true rfl) (ho (.fieldLink RX6 7 "NearEnough$Scanner" "next" "I") (List.mem_of_getElem? (i := 0) rfl)) (fun _ h9 => h9) rfl dX6_advance_54 ?_
        refine va_put (D := (dC, dI)) (ci := 6) (v := .int (σ0_.1 3)) (ty := tyX6 4) (C := RX6) (T := TX6) (N := 7) hx hb hts hin6 tyX6 tyX6_ok nmX6 hown hK hP hD hS 1 rfl rfl 4 (Nat.le_of_ble_eq_true rfl) (ho (.fieldLink RX6 16 "NearEnough$Scanner" "place" "I") (List.mem_of_getElem? (i := 2) rfl)) (fun _ h9 => h9) rfl (tyX6_ok 4 (Nat.le_of_ble_eq_true rfl)) rfl rfl (Nat.le_of_ble_eq_true rfl) dX6_advance_57 (fun H locs hP hD hS => ?_)
        have hP : va_P (dC, dI) vwCl (rW κ (sI σ0_ 5 (σ0_.1 3))) H := hP
        have hD : va_D A (rW κ (sI σ0_ 5 (σ0_.1 3))) := hD
        refine lv_aload_n hx hb dX6_advance_60 rfl (lv_at hl 0 rfl) ?_
        have bσ0__3 : 0 ≤ (σ0_.1 3).toInt ∧ (σ0_.1 3).toInt ≤ 1000 := hIσ0_ 3
        refine va_get (D := (dC, dI)) (ci := 6) (v := .int (σ0_.1 3)) (C := RX6) (T := TX6) (N := 7) hx hb hts hin6 hown hK hP 1 rfl rfl 2 (Nat.le_of_ble_eq_true rfl) (ho (.fieldLink RX6 7 "NearEnough$Scanner" "next" "I") (List.mem_of_getElem? (i := 0) rfl)) (fun _ h9 => h9) rfl dX6_advance_61 ?_
        refine lv_aload_n hx hb dX6_advance_64 rfl (lv_at hl 0 rfl) ?_
        have bσ0__0 : 0 ≤ (σ0_.1 0).toInt ∧ (σ0_.1 0).toInt ≤ 1000 := hIσ0_ 0
        refine va_get (D := (dC, dI)) (ci := 6) (v := .int (σ0_.1 0)) (C := RX6) (T := TX6) (N := 7) hx hb hts hin6 hown hK hP 1 rfl rfl 1 (Nat.le_of_ble_eq_true rfl) (ho (.fieldLink RX6 36 "NearEnough$Scanner" "length" "I") (List.mem_of_getElem? (i := 1) rfl)) (fun _ h9 => h9) rfl dX6_advance_65 ?_
        refine lv_icmp_lt (tgt := 79) hx hb dX6_advance_68 rfl (fun c2_ => ?_) (fun c2_ => ?_)
        · have tc2_ := (show (σ0_.1 3).toInt < (σ0_.1 0).toInt from ti_lt rfl rfl c2_)
          refine lv_aload_n hx hb dX6_advance_79 rfl (lv_at hl 0 rfl) ?_
          refine va_get (D := (dC, dI)) (ci := 6) (v := .ref (kA κ 2)) (C := RX6) (T := TX6) (N := 7) hx hb hts hin6 hown hK hP 1 rfl rfl 0 (Nat.le_of_ble_eq_true rfl) (ho (.fieldLink RX6 26 "NearEnough$Scanner" "text" "[B") (List.mem_of_getElem? (i := 3) rfl)) (fun _ h9 => h9) rfl dX6_advance_80 ?_
          refine lv_aload_n hx hb dX6_advance_83 rfl (lv_at hl 0 rfl) ?_
          have bσ0__3 : 0 ≤ (σ0_.1 3).toInt ∧ (σ0_.1 3).toInt ≤ 1000 := hIσ0_ 3
          refine va_get (D := (dC, dI)) (ci := 6) (v := .int (σ0_.1 3)) (C := RX6) (T := TX6) (N := 7) hx hb hts hin6 hown hK hP 1 rfl rfl 2 (Nat.le_of_ble_eq_true rfl) (ho (.fieldLink RX6 7 "NearEnough$Scanner" "next" "I") (List.mem_of_getElem? (i := 0) rfl)) (fun _ h9 => h9) rfl dX6_advance_84 ?_
          have o1 : 0 ≤ (σ0_.1 3).toInt := by omega
          have o2 : (σ0_.1 3).toInt < ((1000 : Nat) : Int) := by omega
          refine va_bald hx hb hK hP 2 0 rfl rfl (ti_inx o1 o2) dX6_advance_87 ?_
          refine lv_topi (fun z3_ ez3_ => ?_)
          refine lv_bipush (v := 97) hx hb dX6_advance_88 rg_2 ?_
          refine lv_icmp_lt (tgt := 114) hx hb dX6_advance_90 rfl (fun c4_ => ?_) (fun c4_ => ?_)
          · have tc4_ := (show z3_.toInt < 97 from ti_lt rfl rg_3 c4_)
            refine lv_aload_n hx hb dX6_advance_114 rfl (lv_at hl 0 rfl) ?_
            refine va_get (D := (dC, dI)) (ci := 6) (v := .ref (kA κ 2)) (C := RX6) (T := TX6) (N := 7) hx hb hts hin6 hown hK hP 1 rfl rfl 0 (Nat.le_of_ble_eq_true rfl) (ho (.fieldLink RX6 26 "NearEnough$Scanner" "text" "[B") (List.mem_of_getElem? (i := 3) rfl)) (fun _ h9 => h9) rfl dX6_advance_115 ?_
            refine lv_aload_n hx hb dX6_advance_118 rfl (lv_at hl 0 rfl) ?_
            have bσ0__3 : 0 ≤ (σ0_.1 3).toInt ∧ (σ0_.1 3).toInt ≤ 1000 := hIσ0_ 3
            refine va_get (D := (dC, dI)) (ci := 6) (v := .int (σ0_.1 3)) (C := RX6) (T := TX6) (N := 7) hx hb hts hin6 hown hK hP 1 rfl rfl 2 (Nat.le_of_ble_eq_true rfl) (ho (.fieldLink RX6 7 "NearEnough$Scanner" "next" "I") (List.mem_of_getElem? (i := 0) rfl)) (fun _ h9 => h9) rfl dX6_advance_119 ?_
            refine va_bald hx hb hK hP 2 0 rfl rfl (ti_inx o1 o2) dX6_advance_122 ?_
            refine lv_topi (fun z5_ ez5_ => ?_)
            have qq6_ : z5_.toInt = z3_.toInt := congrArg Int32.toInt (ez5_.trans ez3_.symm)
            refine lv_bipush (v := 48) hx hb dX6_advance_123 rg_7 ?_
            refine lv_icmp_lt (tgt := 149) hx hb dX6_advance_125 rfl (fun c7_ => ?_) (fun c7_ => ?_)
            · have tc7_ := (show z5_.toInt < 48 from ti_lt rfl rg_8 c7_)
              refine lv_aload_n hx hb dX6_advance_149 rfl (lv_at hl 0 rfl) ?_
              have o3 : (σ0_.1 3).toInt < (σ0_.1 0).toInt := by omega
              have o4 : (σ0_.1 3).toInt ≤ 1000 := by omega
              refine zy_v (va_runV (As := []) (rest := []) ⟨hx, hb, hml, hown, hts⟩ (r_scanSign l dC dI adK adV κ H.size (sI σ0_ 5 (σ0_.1 3))  hk (RInv.sI (k := 5) (v := (σ0_.1 3)) hIσ0_ ⟨o1, o4⟩) o3) (cwV 0 hts gd_r_advance_45_r_scanSign rfl rfl rfl dd_r_scanSign ⟨Nat.le_of_ble_eq_true rfl, Nat.le_of_ble_eq_true rfl⟩) (preVr hP hK hD hE hZ hR hS hA (ci := 6) (q0 := 1) rfl rfl) rfl rfl hl.1 rfl (lv_room (Nat.le_of_ble_eq_true rfl)) dX6_advance_150 ⟨Nat.le_of_ble_eq_true rfl, Nat.le_of_ble_eq_true rfl⟩) hD hS hA (fun τ9_ H locs hq hP hD hS => ?_)
              obtain ⟨hτ9_, q10_⟩ := hq
              have bτ9__0 : 0 ≤ (τ9_.1 0).toInt ∧ (τ9_.1 0).toInt ≤ 1000 := hτ9_ 0
              have bτ9__3 : 0 ≤ (τ9_.1 3).toInt ∧ (τ9_.1 3).toInt ≤ 1000 := hτ9_ 3
              have q10_ : (τ9_.1 1).toInt = (σ0_.1 1).toInt := q10_
              refine W.widen (k := 0) (n := 0) (Nat.le_of_ble_eq_true rfl) (Nat.le_of_ble_eq_true rfl) ?_
              have o5 : (τ9_.1 1).toInt = (σ.1 1).toInt := by omega
              rw [hQ]
              exact W.vret hx hb hr (fun t ht hW => ⟨⟨τ9_, rfl, ⟨hτ9_, o5⟩, wEn_of hP (hK.sub [] rfl) hD ht hW⟩, hS.F ht⟩) hS.2.2 dX6_advance_153
            · have tc7_ := (show 48 ≤ z5_.toInt from ti_nlt rfl rg_8 c7_)
              refine lv_aload_n hx hb dX6_advance_128 rfl (lv_at hl 0 rfl) ?_
              refine va_get (D := (dC, dI)) (ci := 6) (v := .ref (kA κ 2)) (C := RX6) (T := TX6) (N := 7) hx hb hts hin6 hown hK hP 1 rfl rfl 0 (Nat.le_of_ble_eq_true rfl) (ho (.fieldLink RX6 26 "NearEnough$Scanner" "text" "[B") (List.mem_of_getElem? (i := 3) rfl)) (fun _ h9 => h9) rfl dX6_advance_129 ?_
              refine lv_aload_n hx hb dX6_advance_132 rfl (lv_at hl 0 rfl) ?_
              have bσ0__3 : 0 ≤ (σ0_.1 3).toInt ∧ (σ0_.1 3).toInt ≤ 1000 := hIσ0_ 3
              refine va_get (D := (dC, dI)) (ci := 6) (v := .int (σ0_.1 3)) (C := RX6) (T := TX6) (N := 7) hx hb hts hin6 hown hK hP 1 rfl rfl 2 (Nat.le_of_ble_eq_true rfl) (ho (.fieldLink RX6 7 "NearEnough$Scanner" "next" "I") (List.mem_of_getElem? (i := 0) rfl)) (fun _ h9 => h9) rfl dX6_advance_133 ?_
              refine va_bald hx hb hK hP 2 0 rfl rfl (ti_inx o1 o2) dX6_advance_136 ?_
              refine lv_topi (fun z11_ ez11_ => ?_)
              have qq12_ : z11_.toInt = z3_.toInt := congrArg Int32.toInt (ez11_.trans ez3_.symm)
              refine lv_bipush (v := 57) hx hb dX6_advance_137 rg_9 ?_
              refine lv_icmp_gt (tgt := 149) hx hb dX6_advance_139 rfl (fun c13_ => ?_) (fun c13_ => ?_)
              · have tc13_ := (show 57 < z11_.toInt from ti_lt rg_10 rfl c13_)
                refine lv_aload_n hx hb dX6_advance_149 rfl (lv_at hl 0 rfl) ?_
                have o6 : (σ0_.1 3).toInt < (σ0_.1 0).toInt := by omega
                have o7 : (σ0_.1 3).toInt ≤ 1000 := by omega
                refine zy_v (va_runV (As := []) (rest := []) ⟨hx, hb, hml, hown, hts⟩ (r_scanSign l dC dI adK adV κ H.size (sI σ0_ 5 (σ0_.1 3))  hk (RInv.sI (k := 5) (v := (σ0_.1 3)) hIσ0_ ⟨o1, o7⟩) o6) (cwV 0 hts gd_r_advance_45_r_scanSign rfl rfl rfl dd_r_scanSign ⟨Nat.le_of_ble_eq_true rfl, Nat.le_of_ble_eq_true rfl⟩) (preVr hP hK hD hE hZ hR hS hA (ci := 6) (q0 := 1) rfl rfl) rfl rfl hl.1 rfl (lv_room (Nat.le_of_ble_eq_true rfl)) dX6_advance_150 ⟨Nat.le_of_ble_eq_true rfl, Nat.le_of_ble_eq_true rfl⟩) hD hS hA (fun τ15_ H locs hq hP hD hS => ?_)
                obtain ⟨hτ15_, q16_⟩ := hq
                have bτ15__0 : 0 ≤ (τ15_.1 0).toInt ∧ (τ15_.1 0).toInt ≤ 1000 := hτ15_ 0
                have bτ15__3 : 0 ≤ (τ15_.1 3).toInt ∧ (τ15_.1 3).toInt ≤ 1000 := hτ15_ 3
                have q16_ : (τ15_.1 1).toInt = (σ0_.1 1).toInt := q16_
                refine W.widen (k := 0) (n := 0) (Nat.le_of_ble_eq_true rfl) (Nat.le_of_ble_eq_true rfl) ?_
                have o8 : (τ15_.1 1).toInt = (σ.1 1).toInt := by omega
                rw [hQ]
                exact W.vret hx hb hr (fun t ht hW => ⟨⟨τ15_, rfl, ⟨hτ15_, o8⟩, wEn_of hP (hK.sub [] rfl) hD ht hW⟩, hS.F ht⟩) hS.2.2 dX6_advance_153
              · have tc13_ := (show z11_.toInt ≤ 57 from ti_nlt rg_10 rfl c13_)
                refine lv_aload_n hx hb dX6_advance_142 rfl (lv_at hl 0 rfl) ?_
                have o9 : (σ0_.1 3).toInt ≤ 1000 := by omega
                refine zy_v (va_runV (As := []) (rest := []) ⟨hx, hb, hml, hown, hts⟩ (r_scanNumber l dC dI adK adV κ H.size (sI σ0_ 5 (σ0_.1 3))  hk (RInv.sI (k := 5) (v := (σ0_.1 3)) hIσ0_ ⟨o1, o9⟩) ) (cwV 0 hts gd_r_advance_42_r_scanNumber rfl rfl rfl dd_r_scanNumber ⟨Nat.le_of_ble_eq_true rfl, Nat.le_of_ble_eq_true rfl⟩) (preVr hP hK hD hE hZ hR hS hA (ci := 6) (q0 := 1) rfl rfl) rfl rfl hl.1 rfl (lv_room (Nat.le_of_ble_eq_true rfl)) dX6_advance_143 ⟨Nat.le_of_ble_eq_true rfl, Nat.le_of_ble_eq_true rfl⟩) hD hS hA (fun τ18_ H locs hq hP hD hS => ?_)
                obtain ⟨hτ18_, q19_⟩ := hq
                have bτ18__0 : 0 ≤ (τ18_.1 0).toInt ∧ (τ18_.1 0).toInt ≤ 1000 := hτ18_ 0
                have bτ18__3 : 0 ≤ (τ18_.1 3).toInt ∧ (τ18_.1 3).toInt ≤ 1000 := hτ18_ 3
                have q19_ : (τ18_.1 1).toInt = (σ0_.1 1).toInt := q19_
                refine W.widen (k := 0) (n := 0) (Nat.le_of_ble_eq_true rfl) (Nat.le_of_ble_eq_true rfl) ?_
                refine lv_goto (tgt := 153) hx hb dX6_advance_146 rfl ?_
                have o10 : (τ18_.1 1).toInt = (σ.1 1).toInt := by omega
                rw [hQ]
                exact W.vret hx hb hr (fun t ht hW => ⟨⟨τ18_, rfl, ⟨hτ18_, o10⟩, wEn_of hP (hK.sub [] rfl) hD ht hW⟩, hS.F ht⟩) hS.2.2 dX6_advance_153
          · have tc4_ := (show 97 ≤ z3_.toInt from ti_nlt rfl rg_3 c4_)
            refine lv_aload_n hx hb dX6_advance_93 rfl (lv_at hl 0 rfl) ?_
            refine va_get (D := (dC, dI)) (ci := 6) (v := .ref (kA κ 2)) (C := RX6) (T := TX6) (N := 7) hx hb hts hin6 hown hK hP 1 rfl rfl 0 (Nat.le_of_ble_eq_true rfl) (ho (.fieldLink RX6 26 "NearEnough$Scanner" "text" "[B") (List.mem_of_getElem? (i := 3) rfl)) (fun _ h9 => h9) rfl dX6_advance_94 ?_
            refine lv_aload_n hx hb dX6_advance_97 rfl (lv_at hl 0 rfl) ?_
            have bσ0__3 : 0 ≤ (σ0_.1 3).toInt ∧ (σ0_.1 3).toInt ≤ 1000 := hIσ0_ 3
            refine va_get (D := (dC, dI)) (ci := 6) (v := .int (σ0_.1 3)) (C := RX6) (T := TX6) (N := 7) hx hb hts hin6 hown hK hP 1 rfl rfl 2 (Nat.le_of_ble_eq_true rfl) (ho (.fieldLink RX6 7 "NearEnough$Scanner" "next" "I") (List.mem_of_getElem? (i := 0) rfl)) (fun _ h9 => h9) rfl dX6_advance_98 ?_
            refine va_bald hx hb hK hP 2 0 rfl rfl (ti_inx o1 o2) dX6_advance_101 ?_
            refine lv_topi (fun z20_ ez20_ => ?_)
            have qq21_ : z20_.toInt = z3_.toInt := congrArg Int32.toInt (ez20_.trans ez3_.symm)
            refine lv_bipush (v := 122) hx hb dX6_advance_102 rg_4 ?_
            refine lv_icmp_gt (tgt := 114) hx hb dX6_advance_104 rfl (fun c22_ => ?_) (fun c22_ => ?_)
            · have tc22_ := (show 122 < z20_.toInt from ti_lt rg_5 rfl c22_)
              refine lv_aload_n hx hb dX6_advance_114 rfl (lv_at hl 0 rfl) ?_
              refine va_get (D := (dC, dI)) (ci := 6) (v := .ref (kA κ 2)) (C := RX6) (T := TX6) (N := 7) hx hb hts hin6 hown hK hP 1 rfl rfl 0 (Nat.le_of_ble_eq_true rfl) (ho (.fieldLink RX6 26 "NearEnough$Scanner" "text" "[B") (List.mem_of_getElem? (i := 3) rfl)) (fun _ h9 => h9) rfl dX6_advance_115 ?_
              refine lv_aload_n hx hb dX6_advance_118 rfl (lv_at hl 0 rfl) ?_
              have bσ0__3 : 0 ≤ (σ0_.1 3).toInt ∧ (σ0_.1 3).toInt ≤ 1000 := hIσ0_ 3
              refine va_get (D := (dC, dI)) (ci := 6) (v := .int (σ0_.1 3)) (C := RX6) (T := TX6) (N := 7) hx hb hts hin6 hown hK hP 1 rfl rfl 2 (Nat.le_of_ble_eq_true rfl) (ho (.fieldLink RX6 7 "NearEnough$Scanner" "next" "I") (List.mem_of_getElem? (i := 0) rfl)) (fun _ h9 => h9) rfl dX6_advance_119 ?_
              refine va_bald hx hb hK hP 2 0 rfl rfl (ti_inx o1 o2) dX6_advance_122 ?_
              refine lv_topi (fun z23_ ez23_ => ?_)
              have qq24_ : z23_.toInt = z3_.toInt := congrArg Int32.toInt (ez23_.trans ez3_.symm)
              refine lv_bipush (v := 48) hx hb dX6_advance_123 rg_7 ?_
              refine lv_icmp_lt (tgt := 149) hx hb dX6_advance_125 rfl (fun c25_ => ?_) (fun c25_ => ?_)
              · have tc25_ := (show z23_.toInt < 48 from ti_lt rfl rg_8 c25_)
                refine lv_aload_n hx hb dX6_advance_149 rfl (lv_at hl 0 rfl) ?_
                have o11 : (σ0_.1 3).toInt < (σ0_.1 0).toInt := by omega
                have o12 : (σ0_.1 3).toInt ≤ 1000 := by omega
                refine zy_v (va_runV (As := []) (rest := []) ⟨hx, hb, hml, hown, hts⟩ (r_scanSign l dC dI adK adV κ H.size (sI σ0_ 5 (σ0_.1 3))  hk (RInv.sI (k := 5) (v := (σ0_.1 3)) hIσ0_ ⟨o1, o12⟩) o11) (cwV 0 hts gd_r_advance_45_r_scanSign rfl rfl rfl dd_r_scanSign ⟨Nat.le_of_ble_eq_true rfl, Nat.le_of_ble_eq_true rfl⟩) (preVr hP hK hD hE hZ hR hS hA (ci := 6) (q0 := 1) rfl rfl) rfl rfl hl.1 rfl (lv_room (Nat.le_of_ble_eq_true rfl)) dX6_advance_150 ⟨Nat.le_of_ble_eq_true rfl, Nat.le_of_ble_eq_true rfl⟩) hD hS hA (fun τ27_ H locs hq hP hD hS => ?_)
                obtain ⟨hτ27_, q28_⟩ := hq
                have bτ27__0 : 0 ≤ (τ27_.1 0).toInt ∧ (τ27_.1 0).toInt ≤ 1000 := hτ27_ 0
                have bτ27__3 : 0 ≤ (τ27_.1 3).toInt ∧ (τ27_.1 3).toInt ≤ 1000 := hτ27_ 3
                have q28_ : (τ27_.1 1).toInt = (σ0_.1 1).toInt := q28_
                refine W.widen (k := 0) (n := 0) (Nat.le_of_ble_eq_true rfl) (Nat.le_of_ble_eq_true rfl) ?_
                have o13 : (τ27_.1 1).toInt = (σ.1 1).toInt := by omega
                rw [hQ]
                exact W.vret hx hb hr (fun t ht hW => ⟨⟨τ27_, rfl, ⟨hτ27_, o13⟩, wEn_of hP (hK.sub [] rfl) hD ht hW⟩, hS.F ht⟩) hS.2.2 dX6_advance_153
              · have tc25_ := (show 48 ≤ z23_.toInt from ti_nlt rfl rg_8 c25_)
                refine lv_aload_n hx hb dX6_advance_128 rfl (lv_at hl 0 rfl) ?_
                refine va_get (D := (dC, dI)) (ci := 6) (v := .ref (kA κ 2)) (C := RX6) (T := TX6) (N := 7) hx hb hts hin6 hown hK hP 1 rfl rfl 0 (Nat.le_of_ble_eq_true rfl) (ho (.fieldLink RX6 26 "NearEnough$Scanner" "text" "[B") (List.mem_of_getElem? (i := 3) rfl)) (fun _ h9 => h9) rfl dX6_advance_129 ?_
                refine lv_aload_n hx hb dX6_advance_132 rfl (lv_at hl 0 rfl) ?_
                have bσ0__3 : 0 ≤ (σ0_.1 3).toInt ∧ (σ0_.1 3).toInt ≤ 1000 := hIσ0_ 3
                refine va_get (D := (dC, dI)) (ci := 6) (v := .int (σ0_.1 3)) (C := RX6) (T := TX6) (N := 7) hx hb hts hin6 hown hK hP 1 rfl rfl 2 (Nat.le_of_ble_eq_true rfl) (ho (.fieldLink RX6 7 "NearEnough$Scanner" "next" "I") (List.mem_of_getElem? (i := 0) rfl)) (fun _ h9 => h9) rfl dX6_advance_133 ?_
                refine va_bald hx hb hK hP 2 0 rfl rfl (ti_inx o1 o2) dX6_advance_136 ?_
                refine lv_topi (fun z29_ ez29_ => ?_)
                have qq30_ : z29_.toInt = z3_.toInt := congrArg Int32.toInt (ez29_.trans ez3_.symm)
                refine lv_bipush (v := 57) hx hb dX6_advance_137 rg_9 ?_
                refine lv_icmp_gt (tgt := 149) hx hb dX6_advance_139 rfl (fun c31_ => ?_) (fun c31_ => ?_)
                · have tc31_ := (show 57 < z29_.toInt from ti_lt rg_10 rfl c31_)
                  refine lv_aload_n hx hb dX6_advance_149 rfl (lv_at hl 0 rfl) ?_
                  have o14 : (σ0_.1 3).toInt < (σ0_.1 0).toInt := by omega
                  have o15 : (σ0_.1 3).toInt ≤ 1000 := by omega
                  refine zy_v (va_runV (As := []) (rest := []) ⟨hx, hb, hml, hown, hts⟩ (r_scanSign l dC dI adK adV κ H.size (sI σ0_ 5 (σ0_.1 3))  hk (RInv.sI (k := 5) (v := (σ0_.1 3)) hIσ0_ ⟨o1, o15⟩) o14) (cwV 0 hts gd_r_advance_45_r_scanSign rfl rfl rfl dd_r_scanSign ⟨Nat.le_of_ble_eq_true rfl, Nat.le_of_ble_eq_true rfl⟩) (preVr hP hK hD hE hZ hR hS hA (ci := 6) (q0 := 1) rfl rfl) rfl rfl hl.1 rfl (lv_room (Nat.le_of_ble_eq_true rfl)) dX6_advance_150 ⟨Nat.le_of_ble_eq_true rfl, Nat.le_of_ble_eq_true rfl⟩) hD hS hA (fun τ33_ H locs hq hP hD hS => ?_)
                  obtain ⟨hτ33_, q34_⟩ := hq
                  have bτ33__0 : 0 ≤ (τ33_.1 0).toInt ∧ (τ33_.1 0).toInt ≤ 1000 := hτ33_ 0
                  have bτ33__3 : 0 ≤ (τ33_.1 3).toInt ∧ (τ33_.1 3).toInt ≤ 1000 := hτ33_ 3
                  have q34_ : (τ33_.1 1).toInt = (σ0_.1 1).toInt := q34_
                  refine W.widen (k := 0) (n := 0) (Nat.le_of_ble_eq_true rfl) (Nat.le_of_ble_eq_true rfl) ?_
                  have o16 : (τ33_.1 1).toInt = (σ.1 1).toInt := by omega
                  rw [hQ]
                  exact W.vret hx hb hr (fun t ht hW => ⟨⟨τ33_, rfl, ⟨hτ33_, o16⟩, wEn_of hP (hK.sub [] rfl) hD ht hW⟩, hS.F ht⟩) hS.2.2 dX6_advance_153
                · have tc31_ := (show z29_.toInt ≤ 57 from ti_nlt rg_10 rfl c31_)
                  refine lv_aload_n hx hb dX6_advance_142 rfl (lv_at hl 0 rfl) ?_
                  have o17 : (σ0_.1 3).toInt ≤ 1000 := by omega
                  refine zy_v (va_runV (As := []) (rest := []) ⟨hx, hb, hml, hown, hts⟩ (r_scanNumber l dC dI adK adV κ H.size (sI σ0_ 5 (σ0_.1 3))  hk (RInv.sI (k := 5) (v := (σ0_.1 3)) hIσ0_ ⟨o1, o17⟩) ) (cwV 0 hts gd_r_advance_42_r_scanNumber rfl rfl rfl dd_r_scanNumber ⟨Nat.le_of_ble_eq_true rfl, Nat.le_of_ble_eq_true rfl⟩) (preVr hP hK hD hE hZ hR hS hA (ci := 6) (q0 := 1) rfl rfl) rfl rfl hl.1 rfl (lv_room (Nat.le_of_ble_eq_true rfl)) dX6_advance_143 ⟨Nat.le_of_ble_eq_true rfl, Nat.le_of_ble_eq_true rfl⟩) hD hS hA (fun τ36_ H locs hq hP hD hS => ?_)
                  obtain ⟨hτ36_, q37_⟩ := hq
                  have bτ36__0 : 0 ≤ (τ36_.1 0).toInt ∧ (τ36_.1 0).toInt ≤ 1000 := hτ36_ 0
                  have bτ36__3 : 0 ≤ (τ36_.1 3).toInt ∧ (τ36_.1 3).toInt ≤ 1000 := hτ36_ 3
                  have q37_ : (τ36_.1 1).toInt = (σ0_.1 1).toInt := q37_
                  refine W.widen (k := 0) (n := 0) (Nat.le_of_ble_eq_true rfl) (Nat.le_of_ble_eq_true rfl) ?_
                  refine lv_goto (tgt := 153) hx hb dX6_advance_146 rfl ?_
                  have o18 : (τ36_.1 1).toInt = (σ.1 1).toInt := by omega
                  rw [hQ]
                  exact W.vret hx hb hr (fun t ht hW => ⟨⟨τ36_, rfl, ⟨hτ36_, o18⟩, wEn_of hP (hK.sub [] rfl) hD ht hW⟩, hS.F ht⟩) hS.2.2 dX6_advance_153
            · have tc22_ := (show z20_.toInt ≤ 122 from ti_nlt rg_5 rfl c22_)
              refine lv_aload_n hx hb dX6_advance_107 rfl (lv_at hl 0 rfl) ?_
              have o19 : (σ0_.1 3).toInt ≤ 1000 := by omega
              refine zy_v (va_runV (As := []) (rest := []) ⟨hx, hb, hml, hown, hts⟩ (r_scanWord l dC dI adK adV κ H.size (sI σ0_ 5 (σ0_.1 3))  hk (RInv.sI (k := 5) (v := (σ0_.1 3)) hIσ0_ ⟨o1, o19⟩) ) (cwV 0 hts gd_r_advance_39_r_scanWord rfl rfl rfl dd_r_scanWord ⟨Nat.le_of_ble_eq_true rfl, Nat.le_of_ble_eq_true rfl⟩) (preVr hP hK hD hE hZ hR hS hA (ci := 6) (q0 := 1) rfl rfl) rfl rfl hl.1 rfl (lv_room (Nat.le_of_ble_eq_true rfl)) dX6_advance_108 ⟨Nat.le_of_ble_eq_true rfl, Nat.le_of_ble_eq_true rfl⟩) hD hS hA (fun τ39_ H locs hq hP hD hS => ?_)
              obtain ⟨hτ39_, q40_⟩ := hq
              have bτ39__0 : 0 ≤ (τ39_.1 0).toInt ∧ (τ39_.1 0).toInt ≤ 1000 := hτ39_ 0
              have bτ39__3 : 0 ≤ (τ39_.1 3).toInt ∧ (τ39_.1 3).toInt ≤ 1000 := hτ39_ 3
              have q40_ : (τ39_.1 1).toInt = (σ0_.1 1).toInt := q40_
              refine W.widen (k := 0) (n := 0) (Nat.le_of_ble_eq_true rfl) (Nat.le_of_ble_eq_true rfl) ?_
              refine lv_goto (tgt := 153) hx hb dX6_advance_111 rfl ?_
              have o20 : (τ39_.1 1).toInt = (σ.1 1).toInt := by omega
              rw [hQ]
              exact W.vret hx hb hr (fun t ht hW => ⟨⟨τ39_, rfl, ⟨hτ39_, o20⟩, wEn_of hP (hK.sub [] rfl) hD ht hW⟩, hS.F ht⟩) hS.2.2 dX6_advance_153
        · have tc2_ := (show (σ0_.1 0).toInt ≤ (σ0_.1 3).toInt from ti_nlt rfl rfl c2_)
          refine lv_aload_n hx hb dX6_advance_71 rfl (lv_at hl 0 rfl) ?_
          refine lv_iconst (v := 5) hx hb dX6_advance_72 rg_14 ?_
          refine va_put (D := (dC, dI)) (ci := 6) (v := .int 5) (ty := tyX6 3) (C := RX6) (T := TX6) (N := 7) hx hb hts hin6 tyX6 tyX6_ok nmX6 hown hK hP hD hS 1 rfl rfl 3 (Nat.le_of_ble_eq_true rfl) (ho (.fieldLink RX6 13 "NearEnough$Scanner" "kind" "I") (List.mem_of_getElem? (i := 4) rfl)) (fun _ h9 => h9) rfl (tyX6_ok 3 (Nat.le_of_ble_eq_true rfl)) rfl rfl (Nat.le_of_ble_eq_true rfl) dX6_advance_73 (fun H locs hP hD hS => ?_)
          have hP : va_P (dC, dI) vwCl (rW κ (sI (sI σ0_ 5 (σ0_.1 3)) 4 5)) H := hP
          have hD : va_D A (rW κ (sI (sI σ0_ 5 (σ0_.1 3)) 4 5)) := hD
          refine lv_goto (tgt := 153) hx hb dX6_advance_76 rfl ?_
          have o21 : (σ0_.1 1).toInt = (σ.1 1).toInt := by omega
          have o22 : 0 ≤ (σ0_.1 3).toInt := by omega
          have o23 : (σ0_.1 3).toInt ≤ 1000 := by omega
          rw [hQ]
          exact W.vret hx hb hr (fun t ht hW => ⟨⟨(sI (sI σ0_ 5 (σ0_.1 3)) 4 5), rfl, ⟨(RInv.sI (k := 4) (v := 5) (RInv.sI (k := 5) (v := (σ0_.1 3)) hIσ0_ ⟨o22, o23⟩) (Inv.any 5)), o21⟩, wEn_of hP (hK.sub [] rfl) hD ht hW⟩, hS.F ht⟩) hS.2.2 dX6_advance_153
      · have tc1_ := (show (σ0_.1 3).toInt < (σ0_.1 0).toInt from ti_nle rfl rfl c1_)
        refine lv_aload_n hx hb dX6_advance_11 rfl (lv_at hl 0 rfl) ?_
        refine va_get (D := (dC, dI)) (ci := 6) (v := .ref (kA κ 2)) (C := RX6) (T := TX6) (N := 7) hx hb hts hin6 hown hK hP 1 rfl rfl 0 (Nat.le_of_ble_eq_true rfl) (ho (.fieldLink RX6 26 "NearEnough$Scanner" "text" "[B") (List.mem_of_getElem? (i := 3) rfl)) (fun _ h9 => h9) rfl dX6_advance_12 ?_
        refine lv_aload_n hx hb dX6_advance_15 rfl (lv_at hl 0 rfl) ?_
        have bσ0__3 : 0 ≤ (σ0_.1 3).toInt ∧ (σ0_.1 3).toInt ≤ 1000 := hIσ0_ 3
        refine va_get (D := (dC, dI)) (ci := 6) (v := .int (σ0_.1 3)) (C := RX6) (T := TX6) (N := 7) hx hb hts hin6 hown hK hP 1 rfl rfl 2 (Nat.le_of_ble_eq_true rfl) (ho (.fieldLink RX6 7 "NearEnough$Scanner" "next" "I") (List.mem_of_getElem? (i := 0) rfl)) (fun _ h9 => h9) rfl dX6_advance_16 ?_
        have o24 : 0 ≤ (σ0_.1 3).toInt := by omega
        have o25 : (σ0_.1 3).toInt < ((1000 : Nat) : Int) := by omega
        refine va_bald hx hb hK hP 2 0 rfl rfl (ti_inx o24 o25) dX6_advance_19 ?_
        refine lv_topi (fun z41_ ez41_ => ?_)
        refine lv_bipush (v := 32) hx hb dX6_advance_20 rg_43 ?_
        refine lv_icmp_eq (tgt := 39) hx hb dX6_advance_22 rfl (fun c42_ => ?_) (fun c42_ => ?_)
        · have tc42_ := (show z41_.toInt = 32 from ti_eq rfl rg_44 c42_)
          refine lv_aload_n hx hb dX6_advance_39 rfl (lv_at hl 0 rfl) ?_
          refine lv_dup hx hb dX6_advance_40 rfl ?_
          have bσ0__3 : 0 ≤ (σ0_.1 3).toInt ∧ (σ0_.1 3).toInt ≤ 1000 := hIσ0_ 3
          refine va_get (D := (dC, dI)) (ci := 6) (v := .int (σ0_.1 3)) (C := RX6) (T := TX6) (N := 7) hx hb hts hin6 hown hK hP 1 rfl rfl 2 (Nat.le_of_ble_eq_true rfl) (ho (.fieldLink RX6 7 "NearEnough$Scanner" "next" "I") (List.mem_of_getElem? (i := 0) rfl)) (fun _ h9 => h9) rfl dX6_advance_41 ?_
          refine lv_iconst (v := 1) hx hb dX6_advance_44 rg_6 ?_
          refine lv_iadd hx hb dX6_advance_45 ?_
          refine lv_topi (fun z43_ ez43_ => ?_)
          have o26 : -2147483648 ≤ (σ0_.1 3).toInt + 1 := by omega
          have o27 : (σ0_.1 3).toInt + 1 ≤ 2147483647 := by omega
          have tz43_ : z43_.toInt = (σ0_.1 3).toInt + 1 := ti_add ez43_ rfl rg_18 o26 o27
          refine va_put (D := (dC, dI)) (ci := 6) (v := .int z43_) (ty := tyX6 2) (C := RX6) (T := TX6) (N := 7) hx hb hts hin6 tyX6 tyX6_ok nmX6 hown hK hP hD hS 1 rfl rfl 2 (Nat.le_of_ble_eq_true rfl) (ho (.fieldLink RX6 7 "NearEnough$Scanner" "next" "I") (List.mem_of_getElem? (i := 0) rfl)) (fun _ h9 => h9) rfl (tyX6_ok 2 (Nat.le_of_ble_eq_true rfl)) rfl rfl (Nat.le_of_ble_eq_true rfl) dX6_advance_46 (fun H locs hP hD hS => ?_)
          have hP : va_P (dC, dI) vwCl (rW κ (sI σ0_ 3 z43_)) H := hP
          have hD : va_D A (rW κ (sI σ0_ 3 z43_)) := hD
          refine lv_goto (tgt := 0) hx hb dX6_advance_49 rfl ?_
          have o28 : (1000 - z43_.toInt).toNat < n0_ := by omega
          have o29 : 0 ≤ z43_.toInt := by omega
          have o30 : z43_.toInt ≤ 1000 := by omega
          have o31 : (σ0_.1 1).toInt = (σ.1 1).toInt := by omega
          exact ih0_ (sI σ0_ 3 z43_)  _ _ _ o28 (RInv.sI (k := 3) (v := z43_) hIσ0_ ⟨o29, o30⟩) o31 hP hD hS (lv_sub hl [0] rfl)
        · have tc42_ := (show z41_.toInt ≠ 32 from ti_ne rfl rg_44 c42_)
          refine lv_aload_n hx hb dX6_advance_25 rfl (lv_at hl 0 rfl) ?_
          refine va_get (D := (dC, dI)) (ci := 6) (v := .ref (kA κ 2)) (C := RX6) (T := TX6) (N := 7) hx hb hts hin6 hown hK hP 1 rfl rfl 0 (Nat.le_of_ble_eq_true rfl) (ho (.fieldLink RX6 26 "NearEnough$Scanner" "text" "[B") (List.mem_of_getElem? (i := 3) rfl)) (fun _ h9 => h9) rfl dX6_advance_26 ?_
          refine lv_aload_n hx hb dX6_advance_29 rfl (lv_at hl 0 rfl) ?_
          have bσ0__3 : 0 ≤ (σ0_.1 3).toInt ∧ (σ0_.1 3).toInt ≤ 1000 := hIσ0_ 3
          refine va_get (D := (dC, dI)) (ci := 6) (v := .int (σ0_.1 3)) (C := RX6) (T := TX6) (N := 7) hx hb hts hin6 hown hK hP 1 rfl rfl 2 (Nat.le_of_ble_eq_true rfl) (ho (.fieldLink RX6 7 "NearEnough$Scanner" "next" "I") (List.mem_of_getElem? (i := 0) rfl)) (fun _ h9 => h9) rfl dX6_advance_30 ?_
          refine va_bald hx hb hK hP 2 0 rfl rfl (ti_inx o24 o25) dX6_advance_33 ?_
          refine lv_topi (fun z44_ ez44_ => ?_)
          have qq45_ : z44_.toInt = z41_.toInt := congrArg Int32.toInt (ez44_.trans ez41_.symm)
          refine lv_bipush (v := 10) hx hb dX6_advance_34 rg_34 ?_
          refine lv_icmp_ne (tgt := 52) hx hb dX6_advance_36 rfl (fun c46_ => ?_) (fun c46_ => ?_)
          · have tc46_ := (show z44_.toInt ≠ 10 from ti_ne rfl rg_45 c46_)
            refine lv_aload_n hx hb dX6_advance_52 rfl (lv_at hl 0 rfl) ?_
            refine lv_aload_n hx hb dX6_advance_53 rfl (lv_at hl 0 rfl) ?_
            have bσ0__3 : 0 ≤ (σ0_.1 3).toInt ∧ (σ0_.1 3).toInt ≤ 1000 := hIσ0_ 3
            refine va_get (D := (dC, dI)) (ci := 6) (v := .int (σ0_.1 3)) (C := RX6) (T := TX6) (N := 7) hx hb hts hin6 hown hK hP 1 rfl rfl 2 (Nat.le_of_ble_eq_true rfl) (ho (.fieldLink RX6 7 "NearEnough$Scanner" "next" "I") (List.mem_of_getElem? (i := 0) rfl)) (fun _ h9 => h9) rfl dX6_advance_54 ?_
            refine va_put (D := (dC, dI)) (ci := 6) (v := .int (σ0_.1 3)) (ty := tyX6 4) (C := RX6) (T := TX6) (N := 7) hx hb hts hin6 tyX6 tyX6_ok nmX6 hown hK hP hD hS 1 rfl rfl 4 (Nat.le_of_ble_eq_true rfl) (ho (.fieldLink RX6 16 "NearEnough$Scanner" "place" "I") (List.mem_of_getElem? (i := 2) rfl)) (fun _ h9 => h9) rfl (tyX6_ok 4 (Nat.le_of_ble_eq_true rfl)) rfl rfl (Nat.le_of_ble_eq_true rfl) dX6_advance_57 (fun H locs hP hD hS => ?_)
            have hP : va_P (dC, dI) vwCl (rW κ (sI σ0_ 5 (σ0_.1 3))) H := hP
            have hD : va_D A (rW κ (sI σ0_ 5 (σ0_.1 3))) := hD
            refine lv_aload_n hx hb dX6_advance_60 rfl (lv_at hl 0 rfl) ?_
            have bσ0__3 : 0 ≤ (σ0_.1 3).toInt ∧ (σ0_.1 3).toInt ≤ 1000 := hIσ0_ 3
            refine va_get (D := (dC, dI)) (ci := 6) (v := .int (σ0_.1 3)) (C := RX6) (T := TX6) (N := 7) hx hb hts hin6 hown hK hP 1 rfl rfl 2 (Nat.le_of_ble_eq_true rfl) (ho (.fieldLink RX6 7 "NearEnough$Scanner" "next" "I") (List.mem_of_getElem? (i := 0) rfl)) (fun _ h9 => h9) rfl dX6_advance_61 ?_
            refine lv_aload_n hx hb dX6_advance_64 rfl (lv_at hl 0 rfl) ?_
            have bσ0__0 : 0 ≤ (σ0_.1 0).toInt ∧ (σ0_.1 0).toInt ≤ 1000 := hIσ0_ 0
            refine va_get (D := (dC, dI)) (ci := 6) (v := .int (σ0_.1 0)) (C := RX6) (T := TX6) (N := 7) hx hb hts hin6 hown hK hP 1 rfl rfl 1 (Nat.le_of_ble_eq_true rfl) (ho (.fieldLink RX6 36 "NearEnough$Scanner" "length" "I") (List.mem_of_getElem? (i := 1) rfl)) (fun _ h9 => h9) rfl dX6_advance_65 ?_
            refine lv_icmp_lt (tgt := 79) hx hb dX6_advance_68 rfl (fun c47_ => ?_) (fun c47_ => ?_)
            · have tc47_ := (show (σ0_.1 3).toInt < (σ0_.1 0).toInt from ti_lt rfl rfl c47_)
              refine lv_aload_n hx hb dX6_advance_79 rfl (lv_at hl 0 rfl) ?_
              refine va_get (D := (dC, dI)) (ci := 6) (v := .ref (kA κ 2)) (C := RX6) (T := TX6) (N := 7) hx hb hts hin6 hown hK hP 1 rfl rfl 0 (Nat.le_of_ble_eq_true rfl) (ho (.fieldLink RX6 26 "NearEnough$Scanner" "text" "[B") (List.mem_of_getElem? (i := 3) rfl)) (fun _ h9 => h9) rfl dX6_advance_80 ?_
              refine lv_aload_n hx hb dX6_advance_83 rfl (lv_at hl 0 rfl) ?_
              have bσ0__3 : 0 ≤ (σ0_.1 3).toInt ∧ (σ0_.1 3).toInt ≤ 1000 := hIσ0_ 3
              refine va_get (D := (dC, dI)) (ci := 6) (v := .int (σ0_.1 3)) (C := RX6) (T := TX6) (N := 7) hx hb hts hin6 hown hK hP 1 rfl rfl 2 (Nat.le_of_ble_eq_true rfl) (ho (.fieldLink RX6 7 "NearEnough$Scanner" "next" "I") (List.mem_of_getElem? (i := 0) rfl)) (fun _ h9 => h9) rfl dX6_advance_84 ?_
              refine va_bald hx hb hK hP 2 0 rfl rfl (ti_inx o24 o25) dX6_advance_87 ?_
              refine lv_topi (fun z48_ ez48_ => ?_)
              have qq49_ : z48_.toInt = z41_.toInt := congrArg Int32.toInt (ez48_.trans ez41_.symm)
              refine lv_bipush (v := 97) hx hb dX6_advance_88 rg_2 ?_
              refine lv_icmp_lt (tgt := 114) hx hb dX6_advance_90 rfl (fun c50_ => ?_) (fun c50_ => ?_)
              · have tc50_ := (show z48_.toInt < 97 from ti_lt rfl rg_3 c50_)
                refine lv_aload_n hx hb dX6_advance_114 rfl (lv_at hl 0 rfl) ?_
                refine va_get (D := (dC, dI)) (ci := 6) (v := .ref (kA κ 2)) (C := RX6) (T := TX6) (N := 7) hx hb hts hin6 hown hK hP 1 rfl rfl 0 (Nat.le_of_ble_eq_true rfl) (ho (.fieldLink RX6 26 "NearEnough$Scanner" "text" "[B") (List.mem_of_getElem? (i := 3) rfl)) (fun _ h9 => h9) rfl dX6_advance_115 ?_
                refine lv_aload_n hx hb dX6_advance_118 rfl (lv_at hl 0 rfl) ?_
                have bσ0__3 : 0 ≤ (σ0_.1 3).toInt ∧ (σ0_.1 3).toInt ≤ 1000 := hIσ0_ 3
                refine va_get (D := (dC, dI)) (ci := 6) (v := .int (σ0_.1 3)) (C := RX6) (T := TX6) (N := 7) hx hb hts hin6 hown hK hP 1 rfl rfl 2 (Nat.le_of_ble_eq_true rfl) (ho (.fieldLink RX6 7 "NearEnough$Scanner" "next" "I") (List.mem_of_getElem? (i := 0) rfl)) (fun _ h9 => h9) rfl dX6_advance_119 ?_
                refine va_bald hx hb hK hP 2 0 rfl rfl (ti_inx o24 o25) dX6_advance_122 ?_
                refine lv_topi (fun z51_ ez51_ => ?_)
                have qq52_ : z51_.toInt = z41_.toInt := congrArg Int32.toInt (ez51_.trans ez41_.symm)
                refine lv_bipush (v := 48) hx hb dX6_advance_123 rg_7 ?_
                refine lv_icmp_lt (tgt := 149) hx hb dX6_advance_125 rfl (fun c53_ => ?_) (fun c53_ => ?_)
                · have tc53_ := (show z51_.toInt < 48 from ti_lt rfl rg_8 c53_)
                  refine lv_aload_n hx hb dX6_advance_149 rfl (lv_at hl 0 rfl) ?_
                  have o32 : (σ0_.1 3).toInt < (σ0_.1 0).toInt := by omega
                  have o33 : (σ0_.1 3).toInt ≤ 1000 := by omega
                  refine zy_v (va_runV (As := []) (rest := []) ⟨hx, hb, hml, hown, hts⟩ (r_scanSign l dC dI adK adV κ H.size (sI σ0_ 5 (σ0_.1 3))  hk (RInv.sI (k := 5) (v := (σ0_.1 3)) hIσ0_ ⟨o24, o33⟩) o32) (cwV 0 hts gd_r_advance_45_r_scanSign rfl rfl rfl dd_r_scanSign ⟨Nat.le_of_ble_eq_true rfl, Nat.le_of_ble_eq_true rfl⟩) (preVr hP hK hD hE hZ hR hS hA (ci := 6) (q0 := 1) rfl rfl) rfl rfl hl.1 rfl (lv_room (Nat.le_of_ble_eq_true rfl)) dX6_advance_150 ⟨Nat.le_of_ble_eq_true rfl, Nat.le_of_ble_eq_true rfl⟩) hD hS hA (fun τ55_ H locs hq hP hD hS => ?_)
                  obtain ⟨hτ55_, q56_⟩ := hq
                  have bτ55__0 : 0 ≤ (τ55_.1 0).toInt ∧ (τ55_.1 0).toInt ≤ 1000 := hτ55_ 0
                  have bτ55__3 : 0 ≤ (τ55_.1 3).toInt ∧ (τ55_.1 3).toInt ≤ 1000 := hτ55_ 3
                  have q56_ : (τ55_.1 1).toInt = (σ0_.1 1).toInt := q56_
                  refine W.widen (k := 0) (n := 0) (Nat.le_of_ble_eq_true rfl) (Nat.le_of_ble_eq_true rfl) ?_
                  have o34 : (τ55_.1 1).toInt = (σ.1 1).toInt := by omega
                  rw [hQ]
                  exact W.vret hx hb hr (fun t ht hW => ⟨⟨τ55_, rfl, ⟨hτ55_, o34⟩, wEn_of hP (hK.sub [] rfl) hD ht hW⟩, hS.F ht⟩) hS.2.2 dX6_advance_153
                · have tc53_ := (show 48 ≤ z51_.toInt from ti_nlt rfl rg_8 c53_)
                  refine lv_aload_n hx hb dX6_advance_128 rfl (lv_at hl 0 rfl) ?_
                  refine va_get (D := (dC, dI)) (ci := 6) (v := .ref (kA κ 2)) (C := RX6) (T := TX6) (N := 7) hx hb hts hin6 hown hK hP 1 rfl rfl 0 (Nat.le_of_ble_eq_true rfl) (ho (.fieldLink RX6 26 "NearEnough$Scanner" "text" "[B") (List.mem_of_getElem? (i := 3) rfl)) (fun _ h9 => h9) rfl dX6_advance_129 ?_
                  refine lv_aload_n hx hb dX6_advance_132 rfl (lv_at hl 0 rfl) ?_
                  have bσ0__3 : 0 ≤ (σ0_.1 3).toInt ∧ (σ0_.1 3).toInt ≤ 1000 := hIσ0_ 3
                  refine va_get (D := (dC, dI)) (ci := 6) (v := .int (σ0_.1 3)) (C := RX6) (T := TX6) (N := 7) hx hb hts hin6 hown hK hP 1 rfl rfl 2 (Nat.le_of_ble_eq_true rfl) (ho (.fieldLink RX6 7 "NearEnough$Scanner" "next" "I") (List.mem_of_getElem? (i := 0) rfl)) (fun _ h9 => h9) rfl dX6_advance_133 ?_
                  refine va_bald hx hb hK hP 2 0 rfl rfl (ti_inx o24 o25) dX6_advance_136 ?_
                  refine lv_topi (fun z57_ ez57_ => ?_)
                  have qq58_ : z57_.toInt = z41_.toInt := congrArg Int32.toInt (ez57_.trans ez41_.symm)
                  refine lv_bipush (v := 57) hx hb dX6_advance_137 rg_9 ?_
                  refine lv_icmp_gt (tgt := 149) hx hb dX6_advance_139 rfl (fun c59_ => ?_) (fun c59_ => ?_)
                  · have tc59_ := (show 57 < z57_.toInt from ti_lt rg_10 rfl c59_)
                    refine lv_aload_n hx hb dX6_advance_149 rfl (lv_at hl 0 rfl) ?_
                    have o35 : (σ0_.1 3).toInt < (σ0_.1 0).toInt := by omega
                    have o36 : (σ0_.1 3).toInt ≤ 1000 := by omega
                    refine zy_v (va_runV (As := []) (rest := []) ⟨hx, hb, hml, hown, hts⟩ (r_scanSign l dC dI adK adV κ H.size (sI σ0_ 5 (σ0_.1 3))  hk (RInv.sI (k := 5) (v := (σ0_.1 3)) hIσ0_ ⟨o24, o36⟩) o35) (cwV 0 hts gd_r_advance_45_r_scanSign rfl rfl rfl dd_r_scanSign ⟨Nat.le_of_ble_eq_true rfl, Nat.le_of_ble_eq_true rfl⟩) (preVr hP hK hD hE hZ hR hS hA (ci := 6) (q0 := 1) rfl rfl) rfl rfl hl.1 rfl (lv_room (Nat.le_of_ble_eq_true rfl)) dX6_advance_150 ⟨Nat.le_of_ble_eq_true rfl, Nat.le_of_ble_eq_true rfl⟩) hD hS hA (fun τ61_ H locs hq hP hD hS => ?_)
                    obtain ⟨hτ61_, q62_⟩ := hq
                    have bτ61__0 : 0 ≤ (τ61_.1 0).toInt ∧ (τ61_.1 0).toInt ≤ 1000 := hτ61_ 0
                    have bτ61__3 : 0 ≤ (τ61_.1 3).toInt ∧ (τ61_.1 3).toInt ≤ 1000 := hτ61_ 3
                    have q62_ : (τ61_.1 1).toInt = (σ0_.1 1).toInt := q62_
                    refine W.widen (k := 0) (n := 0) (Nat.le_of_ble_eq_true rfl) (Nat.le_of_ble_eq_true rfl) ?_
                    have o37 : (τ61_.1 1).toInt = (σ.1 1).toInt := by omega
                    rw [hQ]
                    exact W.vret hx hb hr (fun t ht hW => ⟨⟨τ61_, rfl, ⟨hτ61_, o37⟩, wEn_of hP (hK.sub [] rfl) hD ht hW⟩, hS.F ht⟩) hS.2.2 dX6_advance_153
                  · have tc59_ := (show z57_.toInt ≤ 57 from ti_nlt rg_10 rfl c59_)
                    refine lv_aload_n hx hb dX6_advance_142 rfl (lv_at hl 0 rfl) ?_
                    have o38 : (σ0_.1 3).toInt ≤ 1000 := by omega
                    refine zy_v (va_runV (As := []) (rest := []) ⟨hx, hb, hml, hown, hts⟩ (r_scanNumber l dC dI adK adV κ H.size (sI σ0_ 5 (σ0_.1 3))  hk (RInv.sI (k := 5) (v := (σ0_.1 3)) hIσ0_ ⟨o24, o38⟩) ) (cwV 0 hts gd_r_advance_42_r_scanNumber rfl rfl rfl dd_r_scanNumber ⟨Nat.le_of_ble_eq_true rfl, Nat.le_of_ble_eq_true rfl⟩) (preVr hP hK hD hE hZ hR hS hA (ci := 6) (q0 := 1) rfl rfl) rfl rfl hl.1 rfl (lv_room (Nat.le_of_ble_eq_true rfl)) dX6_advance_143 ⟨Nat.le_of_ble_eq_true rfl, Nat.le_of_ble_eq_true rfl⟩) hD hS hA (fun τ64_ H locs hq hP hD hS => ?_)
                    obtain ⟨hτ64_, q65_⟩ := hq
                    have bτ64__0 : 0 ≤ (τ64_.1 0).toInt ∧ (τ64_.1 0).toInt ≤ 1000 := hτ64_ 0
                    have bτ64__3 : 0 ≤ (τ64_.1 3).toInt ∧ (τ64_.1 3).toInt ≤ 1000 := hτ64_ 3
                    have q65_ : (τ64_.1 1).toInt = (σ0_.1 1).toInt := q65_
                    refine W.widen (k := 0) (n := 0) (Nat.le_of_ble_eq_true rfl) (Nat.le_of_ble_eq_true rfl) ?_
                    refine lv_goto (tgt := 153) hx hb dX6_advance_146 rfl ?_
                    have o39 : (τ64_.1 1).toInt = (σ.1 1).toInt := by omega
                    rw [hQ]
                    exact W.vret hx hb hr (fun t ht hW => ⟨⟨τ64_, rfl, ⟨hτ64_, o39⟩, wEn_of hP (hK.sub [] rfl) hD ht hW⟩, hS.F ht⟩) hS.2.2 dX6_advance_153
              · have tc50_ := (show 97 ≤ z48_.toInt from ti_nlt rfl rg_3 c50_)
                refine lv_aload_n hx hb dX6_advance_93 rfl (lv_at hl 0 rfl) ?_
                refine va_get (D := (dC, dI)) (ci := 6) (v := .ref (kA κ 2)) (C := RX6) (T := TX6) (N := 7) hx hb hts hin6 hown hK hP 1 rfl rfl 0 (Nat.le_of_ble_eq_true rfl) (ho (.fieldLink RX6 26 "NearEnough$Scanner" "text" "[B") (List.mem_of_getElem? (i := 3) rfl)) (fun _ h9 => h9) rfl dX6_advance_94 ?_
                refine lv_aload_n hx hb dX6_advance_97 rfl (lv_at hl 0 rfl) ?_
                have bσ0__3 : 0 ≤ (σ0_.1 3).toInt ∧ (σ0_.1 3).toInt ≤ 1000 := hIσ0_ 3
                refine va_get (D := (dC, dI)) (ci := 6) (v := .int (σ0_.1 3)) (C := RX6) (T := TX6) (N := 7) hx hb hts hin6 hown hK hP 1 rfl rfl 2 (Nat.le_of_ble_eq_true rfl) (ho (.fieldLink RX6 7 "NearEnough$Scanner" "next" "I") (List.mem_of_getElem? (i := 0) rfl)) (fun _ h9 => h9) rfl dX6_advance_98 ?_
                refine va_bald hx hb hK hP 2 0 rfl rfl (ti_inx o24 o25) dX6_advance_101 ?_
                refine lv_topi (fun z66_ ez66_ => ?_)
                have qq67_ : z66_.toInt = z41_.toInt := congrArg Int32.toInt (ez66_.trans ez41_.symm)
                refine lv_bipush (v := 122) hx hb dX6_advance_102 rg_4 ?_
                refine lv_icmp_gt (tgt := 114) hx hb dX6_advance_104 rfl (fun c68_ => ?_) (fun c68_ => ?_)
                · have tc68_ := (show 122 < z66_.toInt from ti_lt rg_5 rfl c68_)
                  refine lv_aload_n hx hb dX6_advance_114 rfl (lv_at hl 0 rfl) ?_
                  refine va_get (D := (dC, dI)) (ci := 6) (v := .ref (kA κ 2)) (C := RX6) (T := TX6) (N := 7) hx hb hts hin6 hown hK hP 1 rfl rfl 0 (Nat.le_of_ble_eq_true rfl) (ho (.fieldLink RX6 26 "NearEnough$Scanner" "text" "[B") (List.mem_of_getElem? (i := 3) rfl)) (fun _ h9 => h9) rfl dX6_advance_115 ?_
                  refine lv_aload_n hx hb dX6_advance_118 rfl (lv_at hl 0 rfl) ?_
                  have bσ0__3 : 0 ≤ (σ0_.1 3).toInt ∧ (σ0_.1 3).toInt ≤ 1000 := hIσ0_ 3
                  refine va_get (D := (dC, dI)) (ci := 6) (v := .int (σ0_.1 3)) (C := RX6) (T := TX6) (N := 7) hx hb hts hin6 hown hK hP 1 rfl rfl 2 (Nat.le_of_ble_eq_true rfl) (ho (.fieldLink RX6 7 "NearEnough$Scanner" "next" "I") (List.mem_of_getElem? (i := 0) rfl)) (fun _ h9 => h9) rfl dX6_advance_119 ?_
                  refine va_bald hx hb hK hP 2 0 rfl rfl (ti_inx o24 o25) dX6_advance_122 ?_
                  refine lv_topi (fun z69_ ez69_ => ?_)
                  have qq70_ : z69_.toInt = z41_.toInt := congrArg Int32.toInt (ez69_.trans ez41_.symm)
                  refine lv_bipush (v := 48) hx hb dX6_advance_123 rg_7 ?_
                  refine lv_icmp_lt (tgt := 149) hx hb dX6_advance_125 rfl (fun c71_ => ?_) (fun c71_ => ?_)
                  · have tc71_ := (show z69_.toInt < 48 from ti_lt rfl rg_8 c71_)
                    refine lv_aload_n hx hb dX6_advance_149 rfl (lv_at hl 0 rfl) ?_
                    have o40 : (σ0_.1 3).toInt < (σ0_.1 0).toInt := by omega
                    have o41 : (σ0_.1 3).toInt ≤ 1000 := by omega
                    refine zy_v (va_runV (As := []) (rest := []) ⟨hx, hb, hml, hown, hts⟩ (r_scanSign l dC dI adK adV κ H.size (sI σ0_ 5 (σ0_.1 3))  hk (RInv.sI (k := 5) (v := (σ0_.1 3)) hIσ0_ ⟨o24, o41⟩) o40) (cwV 0 hts gd_r_advance_45_r_scanSign rfl rfl rfl dd_r_scanSign ⟨Nat.le_of_ble_eq_true rfl, Nat.le_of_ble_eq_true rfl⟩) (preVr hP hK hD hE hZ hR hS hA (ci := 6) (q0 := 1) rfl rfl) rfl rfl hl.1 rfl (lv_room (Nat.le_of_ble_eq_true rfl)) dX6_advance_150 ⟨Nat.le_of_ble_eq_true rfl, Nat.le_of_ble_eq_true rfl⟩) hD hS hA (fun τ73_ H locs hq hP hD hS => ?_)
                    obtain ⟨hτ73_, q74_⟩ := hq
                    have bτ73__0 : 0 ≤ (τ73_.1 0).toInt ∧ (τ73_.1 0).toInt ≤ 1000 := hτ73_ 0
                    have bτ73__3 : 0 ≤ (τ73_.1 3).toInt ∧ (τ73_.1 3).toInt ≤ 1000 := hτ73_ 3
                    have q74_ : (τ73_.1 1).toInt = (σ0_.1 1).toInt := q74_
                    refine W.widen (k := 0) (n := 0) (Nat.le_of_ble_eq_true rfl) (Nat.le_of_ble_eq_true rfl) ?_
                    have o42 : (τ73_.1 1).toInt = (σ.1 1).toInt := by omega
                    rw [hQ]
                    exact W.vret hx hb hr (fun t ht hW => ⟨⟨τ73_, rfl, ⟨hτ73_, o42⟩, wEn_of hP (hK.sub [] rfl) hD ht hW⟩, hS.F ht⟩) hS.2.2 dX6_advance_153
                  · have tc71_ := (show 48 ≤ z69_.toInt from ti_nlt rfl rg_8 c71_)
                    refine lv_aload_n hx hb dX6_advance_128 rfl (lv_at hl 0 rfl) ?_
                    refine va_get (D := (dC, dI)) (ci := 6) (v := .ref (kA κ 2)) (C := RX6) (T := TX6) (N := 7) hx hb hts hin6 hown hK hP 1 rfl rfl 0 (Nat.le_of_ble_eq_true rfl) (ho (.fieldLink RX6 26 "NearEnough$Scanner" "text" "[B") (List.mem_of_getElem? (i := 3) rfl)) (fun _ h9 => h9) rfl dX6_advance_129 ?_
                    refine lv_aload_n hx hb dX6_advance_132 rfl (lv_at hl 0 rfl) ?_
                    have bσ0__3 : 0 ≤ (σ0_.1 3).toInt ∧ (σ0_.1 3).toInt ≤ 1000 := hIσ0_ 3
                    refine va_get (D := (dC, dI)) (ci := 6) (v := .int (σ0_.1 3)) (C := RX6) (T := TX6) (N := 7) hx hb hts hin6 hown hK hP 1 rfl rfl 2 (Nat.le_of_ble_eq_true rfl) (ho (.fieldLink RX6 7 "NearEnough$Scanner" "next" "I") (List.mem_of_getElem? (i := 0) rfl)) (fun _ h9 => h9) rfl dX6_advance_133 ?_
                    refine va_bald hx hb hK hP 2 0 rfl rfl (ti_inx o24 o25) dX6_advance_136 ?_
                    refine lv_topi (fun z75_ ez75_ => ?_)
                    have qq76_ : z75_.toInt = z41_.toInt := congrArg Int32.toInt (ez75_.trans ez41_.symm)
                    refine lv_bipush (v := 57) hx hb dX6_advance_137 rg_9 ?_
                    refine lv_icmp_gt (tgt := 149) hx hb dX6_advance_139 rfl (fun c77_ => ?_) (fun c77_ => ?_)
                    · have tc77_ := (show 57 < z75_.toInt from ti_lt rg_10 rfl c77_)
                      refine lv_aload_n hx hb dX6_advance_149 rfl (lv_at hl 0 rfl) ?_
                      have o43 : (σ0_.1 3).toInt < (σ0_.1 0).toInt := by omega
                      have o44 : (σ0_.1 3).toInt ≤ 1000 := by omega
                      refine zy_v (va_runV (As := []) (rest := []) ⟨hx, hb, hml, hown, hts⟩ (r_scanSign l dC dI adK adV κ H.size (sI σ0_ 5 (σ0_.1 3))  hk (RInv.sI (k := 5) (v := (σ0_.1 3)) hIσ0_ ⟨o24, o44⟩) o43) (cwV 0 hts gd_r_advance_45_r_scanSign rfl rfl rfl dd_r_scanSign ⟨Nat.le_of_ble_eq_true rfl, Nat.le_of_ble_eq_true rfl⟩) (preVr hP hK hD hE hZ hR hS hA (ci := 6) (q0 := 1) rfl rfl) rfl rfl hl.1 rfl (lv_room (Nat.le_of_ble_eq_true rfl)) dX6_advance_150 ⟨Nat.le_of_ble_eq_true rfl, Nat.le_of_ble_eq_true rfl⟩) hD hS hA (fun τ79_ H locs hq hP hD hS => ?_)
                      obtain ⟨hτ79_, q80_⟩ := hq
                      have bτ79__0 : 0 ≤ (τ79_.1 0).toInt ∧ (τ79_.1 0).toInt ≤ 1000 := hτ79_ 0
                      have bτ79__3 : 0 ≤ (τ79_.1 3).toInt ∧ (τ79_.1 3).toInt ≤ 1000 := hτ79_ 3
                      have q80_ : (τ79_.1 1).toInt = (σ0_.1 1).toInt := q80_
                      refine W.widen (k := 0) (n := 0) (Nat.le_of_ble_eq_true rfl) (Nat.le_of_ble_eq_true rfl) ?_
                      have o45 : (τ79_.1 1).toInt = (σ.1 1).toInt := by omega
                      rw [hQ]
                      exact W.vret hx hb hr (fun t ht hW => ⟨⟨τ79_, rfl, ⟨hτ79_, o45⟩, wEn_of hP (hK.sub [] rfl) hD ht hW⟩, hS.F ht⟩) hS.2.2 dX6_advance_153
                    · have tc77_ := (show z75_.toInt ≤ 57 from ti_nlt rg_10 rfl c77_)
                      refine lv_aload_n hx hb dX6_advance_142 rfl (lv_at hl 0 rfl) ?_
                      have o46 : (σ0_.1 3).toInt ≤ 1000 := by omega
                      refine zy_v (va_runV (As := []) (rest := []) ⟨hx, hb, hml, hown, hts⟩ (r_scanNumber l dC dI adK adV κ H.size (sI σ0_ 5 (σ0_.1 3))  hk (RInv.sI (k := 5) (v := (σ0_.1 3)) hIσ0_ ⟨o24, o46⟩) ) (cwV 0 hts gd_r_advance_42_r_scanNumber rfl rfl rfl dd_r_scanNumber ⟨Nat.le_of_ble_eq_true rfl, Nat.le_of_ble_eq_true rfl⟩) (preVr hP hK hD hE hZ hR hS hA (ci := 6) (q0 := 1) rfl rfl) rfl rfl hl.1 rfl (lv_room (Nat.le_of_ble_eq_true rfl)) dX6_advance_143 ⟨Nat.le_of_ble_eq_true rfl, Nat.le_of_ble_eq_true rfl⟩) hD hS hA (fun τ82_ H locs hq hP hD hS => ?_)
                      obtain ⟨hτ82_, q83_⟩ := hq
                      have bτ82__0 : 0 ≤ (τ82_.1 0).toInt ∧ (τ82_.1 0).toInt ≤ 1000 := hτ82_ 0
                      have bτ82__3 : 0 ≤ (τ82_.1 3).toInt ∧ (τ82_.1 3).toInt ≤ 1000 := hτ82_ 3
                      have q83_ : (τ82_.1 1).toInt = (σ0_.1 1).toInt := q83_
                      refine W.widen (k := 0) (n := 0) (Nat.le_of_ble_eq_true rfl) (Nat.le_of_ble_eq_true rfl) ?_
                      refine lv_goto (tgt := 153) hx hb dX6_advance_146 rfl ?_
                      have o47 : (τ82_.1 1).toInt = (σ.1 1).toInt := by omega
                      rw [hQ]
                      exact W.vret hx hb hr (fun t ht hW => ⟨⟨τ82_, rfl, ⟨hτ82_, o47⟩, wEn_of hP (hK.sub [] rfl) hD ht hW⟩, hS.F ht⟩) hS.2.2 dX6_advance_153
                · have tc68_ := (show z66_.toInt ≤ 122 from ti_nlt rg_5 rfl c68_)
                  refine lv_aload_n hx hb dX6_advance_107 rfl (lv_at hl 0 rfl) ?_
                  have o48 : (σ0_.1 3).toInt ≤ 1000 := by omega
                  refine zy_v (va_runV (As := []) (rest := []) ⟨hx, hb, hml, hown, hts⟩ (r_scanWord l dC dI adK adV κ H.size (sI σ0_ 5 (σ0_.1 3))  hk (RInv.sI (k := 5) (v := (σ0_.1 3)) hIσ0_ ⟨o24, o48⟩) ) (cwV 0 hts gd_r_advance_39_r_scanWord rfl rfl rfl dd_r_scanWord ⟨Nat.le_of_ble_eq_true rfl, Nat.le_of_ble_eq_true rfl⟩) (preVr hP hK hD hE hZ hR hS hA (ci := 6) (q0 := 1) rfl rfl) rfl rfl hl.1 rfl (lv_room (Nat.le_of_ble_eq_true rfl)) dX6_advance_108 ⟨Nat.le_of_ble_eq_true rfl, Nat.le_of_ble_eq_true rfl⟩) hD hS hA (fun τ85_ H locs hq hP hD hS => ?_)
                  obtain ⟨hτ85_, q86_⟩ := hq
                  have bτ85__0 : 0 ≤ (τ85_.1 0).toInt ∧ (τ85_.1 0).toInt ≤ 1000 := hτ85_ 0
                  have bτ85__3 : 0 ≤ (τ85_.1 3).toInt ∧ (τ85_.1 3).toInt ≤ 1000 := hτ85_ 3
                  have q86_ : (τ85_.1 1).toInt = (σ0_.1 1).toInt := q86_
                  refine W.widen (k := 0) (n := 0) (Nat.le_of_ble_eq_true rfl) (Nat.le_of_ble_eq_true rfl) ?_
                  refine lv_goto (tgt := 153) hx hb dX6_advance_111 rfl ?_
                  have o49 : (τ85_.1 1).toInt = (σ.1 1).toInt := by omega
                  rw [hQ]
                  exact W.vret hx hb hr (fun t ht hW => ⟨⟨τ85_, rfl, ⟨hτ85_, o49⟩, wEn_of hP (hK.sub [] rfl) hD ht hW⟩, hS.F ht⟩) hS.2.2 dX6_advance_153
            · have tc47_ := (show (σ0_.1 0).toInt ≤ (σ0_.1 3).toInt from ti_nlt rfl rfl c47_)
              refine lv_aload_n hx hb dX6_advance_71 rfl (lv_at hl 0 rfl) ?_
              refine lv_iconst (v := 5) hx hb dX6_advance_72 rg_14 ?_
              refine va_put (D := (dC, dI)) (ci := 6) (v := .int 5) (ty := tyX6 3) (C := RX6) (T := TX6) (N := 7) hx hb hts hin6 tyX6 tyX6_ok nmX6 hown hK hP hD hS 1 rfl rfl 3 (Nat.le_of_ble_eq_true rfl) (ho (.fieldLink RX6 13 "NearEnough$Scanner" "kind" "I") (List.mem_of_getElem? (i := 4) rfl)) (fun _ h9 => h9) rfl (tyX6_ok 3 (Nat.le_of_ble_eq_true rfl)) rfl rfl (Nat.le_of_ble_eq_true rfl) dX6_advance_73 (fun H locs hP hD hS => ?_)
              have hP : va_P (dC, dI) vwCl (rW κ (sI (sI σ0_ 5 (σ0_.1 3)) 4 5)) H := hP
              have hD : va_D A (rW κ (sI (sI σ0_ 5 (σ0_.1 3)) 4 5)) := hD
              refine lv_goto (tgt := 153) hx hb dX6_advance_76 rfl ?_
              have o50 : (σ0_.1 1).toInt = (σ.1 1).toInt := by omega
              have o51 : (σ0_.1 3).toInt ≤ 1000 := by omega
              rw [hQ]
              exact W.vret hx hb hr (fun t ht hW => ⟨⟨(sI (sI σ0_ 5 (σ0_.1 3)) 4 5), rfl, ⟨(RInv.sI (k := 4) (v := 5) (RInv.sI (k := 5) (v := (σ0_.1 3)) hIσ0_ ⟨o24, o51⟩) (Inv.any 5)), o50⟩, wEn_of hP (hK.sub [] rfl) hD ht hW⟩, hS.F ht⟩) hS.2.2 dX6_advance_153
          · have tc46_ := (show z44_.toInt = 10 from ti_eq rfl rg_45 c46_)
            refine lv_aload_n hx hb dX6_advance_39 rfl (lv_at hl 0 rfl) ?_
            refine lv_dup hx hb dX6_advance_40 rfl ?_
            have bσ0__3 : 0 ≤ (σ0_.1 3).toInt ∧ (σ0_.1 3).toInt ≤ 1000 := hIσ0_ 3
            refine va_get (D := (dC, dI)) (ci := 6) (v := .int (σ0_.1 3)) (C := RX6) (T := TX6) (N := 7) hx hb hts hin6 hown hK hP 1 rfl rfl 2 (Nat.le_of_ble_eq_true rfl) (ho (.fieldLink RX6 7 "NearEnough$Scanner" "next" "I") (List.mem_of_getElem? (i := 0) rfl)) (fun _ h9 => h9) rfl dX6_advance_41 ?_
            refine lv_iconst (v := 1) hx hb dX6_advance_44 rg_6 ?_
            refine lv_iadd hx hb dX6_advance_45 ?_
            refine lv_topi (fun z87_ ez87_ => ?_)
            have o52 : -2147483648 ≤ (σ0_.1 3).toInt + 1 := by omega
            have o53 : (σ0_.1 3).toInt + 1 ≤ 2147483647 := by omega
            have tz87_ : z87_.toInt = (σ0_.1 3).toInt + 1 := ti_add ez87_ rfl rg_18 o52 o53
            refine va_put (D := (dC, dI)) (ci := 6) (v := .int z87_) (ty := tyX6 2) (C := RX6) (T := TX6) (N := 7) hx hb hts hin6 tyX6 tyX6_ok nmX6 hown hK hP hD hS 1 rfl rfl 2 (Nat.le_of_ble_eq_true rfl) (ho (.fieldLink RX6 7 "NearEnough$Scanner" "next" "I") (List.mem_of_getElem? (i := 0) rfl)) (fun _ h9 => h9) rfl (tyX6_ok 2 (Nat.le_of_ble_eq_true rfl)) rfl rfl (Nat.le_of_ble_eq_true rfl) dX6_advance_46 (fun H locs hP hD hS => ?_)
            have hP : va_P (dC, dI) vwCl (rW κ (sI σ0_ 3 z87_)) H := hP
            have hD : va_D A (rW κ (sI σ0_ 3 z87_)) := hD
            refine lv_goto (tgt := 0) hx hb dX6_advance_49 rfl ?_
            have o54 : (1000 - z87_.toInt).toNat < n0_ := by omega
            have o55 : 0 ≤ z87_.toInt := by omega
            have o56 : z87_.toInt ≤ 1000 := by omega
            have o57 : (σ0_.1 1).toInt = (σ.1 1).toInt := by omega
            exact ih0_ (sI σ0_ 3 z87_)  _ _ _ o54 (RInv.sI (k := 3) (v := z87_) hIσ0_ ⟨o55, o56⟩) o57 hP hD hS (lv_sub hl [0] rfl)
  have o58 : (σ.1 1).toInt = (σ.1 1).toInt := by omega
  exact pt0_ _ σ  _ _ _ (Nat.lt_succ_self _) hI o58 hP hD hS (lv_sub hl [0] rfl)
def ow_r_isOneOf : List Cond := [.fieldLink RX6 7 "NearEnough$Scanner" "next" "I", .fieldLink RX6 16 "NearEnough$Scanner" "place" "I", .fieldLink RX6 26 "NearEnough$Scanner" "text" "[B"]
def vs_r_isOneOf : List Cond := .code yX6_isOneOf cX6_isOneOf 6 (some .boolean) :: (ow_r_isOneOf ++ (([.methodLink RX6 48 yJ0_length_8abf5, .instanceMethod yJ0_length_8abf5, .selects RJ0 yJ0_length_8abf5 yJ0_length_8abf5, .initialized RJ0] : List Cond) ++ (vs_k_strlen ++ (([.methodLink RX6 53 yJ0_charAt_5068e, .instanceMethod yJ0_charAt_5068e, .selects RJ0 yJ0_charAt_5068e yJ0_charAt_5068e, .initialized RJ0] : List Cond) ++ (vs_k_charAt ++ (wsX60))))))
theorem vg_r_isOneOf : vs_r_isOneOf.all goodWord = true := by decide +kernel
theorem dd_r_isOneOf : yX6_isOneOf.cls = RX6 ∧ yX6_isOneOf.cls ≠ "java/lang/invoke/MethodHandle" ∧ yX6_isOneOf.cls ≠ "java/lang/invoke/VarHandle" ∧ (parseMethodDescriptor yX6_isOneOf.desc).map (fun d => d.parameters.length) = some 1 := by decide +kernel
def rm_r_isOneOf : Room := { frames := 4, cells := 0, slots := 0, locals := 85 }
theorem gd_r_isOneOf_48_k_strlen : GoodIn vs_r_isOneOf (wsV RX6 48 RJ0 yJ0_length_8abf5 vs_k_strlen) := goodIn_app (goodIn_sub (fun w h => (List.mem_cons_of_mem _ (List.mem_append_right _ (List.mem_append_left _ h)))) (by decide +kernel)) (goodIn_sub (fun w h => (List.mem_cons_of_mem _ (List.mem_append_right _ (List.mem_append_right _ (List.mem_append_left _ h))))) vg_k_strlen)
theorem gd_r_isOneOf_53_k_charAt : GoodIn vs_r_isOneOf (wsV RX6 53 RJ0 yJ0_charAt_5068e vs_k_charAt) := goodIn_app (goodIn_sub (fun w h => (List.mem_cons_of_mem _ (List.mem_append_right _ (List.mem_append_right _ (List.mem_append_right _ (List.mem_append_left _ h)))))) (by decide +kernel)) (goodIn_sub (fun w h => (List.mem_cons_of_mem _ (List.mem_append_right _ (List.mem_append_right _ (List.mem_append_right _ (List.mem_append_right _ (List.mem_append_left _ h))))))) vg_k_charAt)
set_option maxHeartbeats 4000000 in
set_option maxRecDepth 100000 in
theorem r_isOneOf (l : Launch) (dC : Nat → ClassId) (dI : Nat → Nat → Nat) (adK adV : Nat → Nat) (κ : CE) (sz : Nat) (σ : MS) (sn : Nat) (hsn : sn < 24) (hk : PInv κ) (hI : RInv σ)  : Met l yX6_isOneOf vs_r_isOneOf rm_r_isOneOf (va_Pc [.ref (kA κ 1), .ref (adK sn)] (wSr dC dI adK adV (rW κ σ) (rT κ) sz)) (va_Qi (fun (r : Int32) (τ : MS) => τ = σ ∧ (r.toInt = 0 ∨ r.toInt = 1)) (fun (τ : MS) => wEn dC dI (va_A (rW κ σ) sz) (rW κ τ) []) (va_A (rW κ σ) sz)) 0 0 (va_A (rW κ σ) sz) := by
  refine Met.ofW (cc := cX6_isOneOf) (maxL := 6) (ret := (some .boolean)) (by decide +kernel) rfl ?_
  intro p e s m args below meth c s₁ B hml hv
  obtain ⟨rfl, ⟨hsz, hP, hK, hD0, hE⟩, hZ, hR⟩ := hv
  have hx := B.exec
  have hb := B.bytes
  have hr := B.returns
  have hts := atoms_spec (ws := vs_r_isOneOf) B.pre
  have hown : s.vm.findClass RX6 = some m.cls := findClass_of_methodNamed B.named
  have hlocks := B.notSynchronized
  subst hsz
  have hD := hD0.self (sz := s.heap.size)
  generalize hAe : va_A (rW κ σ) s.heap.size = A at hD hZ ⊢
  have hA : ∀ q : Nat, s.heap.size ≤ q → A q := fun q h => by rw [← hAe]; exact Or.inr h
  have hl := lv_entry ([.ref (kA κ 1), .ref (adK sn)]) (n := 6) (Nat.le_of_ble_eq_true rfl)
  rw [lg_entry_eq]
  generalize (lg_sl ([.ref (kA κ 1), .ref (adK sn)]) ++ List.replicate (6 - (lg_sl ([.ref (kA κ 1), .ref (adK sn)])).length) Slot.unset).toArray = ls at hl ⊢
  have hl : lv_has ls 6 [(0, .ref (kA κ 1)), (1, .ref (adK sn))] := hl
  have ho := fun w (h : w ∈ ow_r_isOneOf) => hts w (List.mem_cons_of_mem _ (List.mem_append_left _ h))
  have hin6 : ∀ w ∈ u_ws RX6 TX6 7, w ∈ vs_r_isOneOf := fun w h => (List.mem_cons_of_mem _ (List.mem_append_right _ (List.mem_append_right _ (List.mem_append_right _ (List.mem_append_right _ (List.mem_append_right _ h))))))
  refine zQ (fun Q hQ => ?_)
  refine zH (A := A) (ws := (rW κ σ)) (fun H hP hS => ?_) hP
  have hk0 := hk.1
  have hk1 := hk.2.1
  have hk2 := hk.2.2.1
  have bσ_3 : 0 ≤ (σ.1 3).toInt ∧ (σ.1 3).toInt ≤ 1000 := hI 3
  have bσ_5 : 0 ≤ (σ.1 5).toInt ∧ (σ.1 5).toInt ≤ 1000 := hI 5
  have ls_ := lS_lt sn
  refine lv_aload_n hx hb dX6_isOneOf_0 rfl (lv_at hl 0 rfl) ?_
  have bσ_3 : 0 ≤ (σ.1 3).toInt ∧ (σ.1 3).toInt ≤ 1000 := hI 3
  refine va_get (D := (dC, dI)) (ci := 6) (v := .int (σ.1 3)) (C := RX6) (T := TX6) (N := 7) hx hb hts hin6 hown hK hP 1 rfl rfl 2 (Nat.le_of_ble_eq_true rfl) (ho (.fieldLink RX6 7 "NearEnough$Scanner" "next" "I") (List.mem_of_getElem? (i := 0) rfl)) (fun _ h9 => h9) rfl dX6_isOneOf_1 ?_
  refine lv_aload_n hx hb dX6_isOneOf_4 rfl (lv_at hl 0 rfl) ?_
  have bσ_5 : 0 ≤ (σ.1 5).toInt ∧ (σ.1 5).toInt ≤ 1000 := hI 5
  refine va_get (D := (dC, dI)) (ci := 6) (v := .int (σ.1 5)) (C := RX6) (T := TX6) (N := 7) hx hb hts hin6 hown hK hP 1 rfl rfl 4 (Nat.le_of_ble_eq_true rfl) (ho (.fieldLink RX6 16 "NearEnough$Scanner" "place" "I") (List.mem_of_getElem? (i := 1) rfl)) (fun _ h9 => h9) rfl dX6_isOneOf_5 ?_
  refine lv_isub hx hb dX6_isOneOf_8 ?_
  refine lv_topi (fun z1_ ez1_ => ?_)
  have o1 : -2147483648 ≤ (σ.1 3).toInt - (σ.1 5).toInt := by omega
  have o2 : (σ.1 3).toInt - (σ.1 5).toInt ≤ 2147483647 := by omega
  have tz1_ : z1_.toInt = (σ.1 3).toInt - (σ.1 5).toInt := ti_sub ez1_ rfl rfl o1 o2
  refine lv_istore_n (lv' := [(2, .int z1_), (0, .ref (kA κ 1)), (1, .ref (adK sn))]) hx hb dX6_isOneOf_9 rfl hl (Nat.le_of_ble_eq_true rfl) rfl (fun ls hl => ?_)
  refine lv_iconst (v := 0) hx hb dX6_isOneOf_10 rg_0 ?_
  refine lv_istore_n (lv' := [(3, .int 0), (2, .int z1_), (0, .ref (kA κ 1)), (1, .ref (adK sn))]) hx hb dX6_isOneOf_11 rfl hl (Nat.le_of_ble_eq_true rfl) rfl (fun ls hl => ?_)
  refine lv_iconst (v := 1) hx hb dX6_isOneOf_12 rg_6 ?_
  refine lv_istore (lv' := [(4, .int 1), (3, .int 0), (2, .int z1_), (0, .ref (kA κ 1)), (1, .ref (adK sn))]) hx hb dX6_isOneOf_13 hl (Nat.le_of_ble_eq_true rfl) rfl (fun ls hl => ?_)
  refine lv_iconst (v := 0) hx hb dX6_isOneOf_15 rg_0 ?_
  refine lv_istore (lv' := [(5, .int 0), (4, .int 1), (3, .int 0), (2, .int z1_), (0, .ref (kA κ 1)), (1, .ref (adK sn))]) hx hb dX6_isOneOf_16 hl (Nat.le_of_ble_eq_true rfl) rfl (fun ls hl => ?_)
  have pt18_ : ∀ (n18_ : Nat) (v3_ : Int32) (v4_ : Int32) (v5_ : Int32) (H : Heap) (locs : List Loc) (ls : Array Slot), (1000 - v5_.toInt).toNat < n18_ → (0 ≤ v5_.toInt ∧ v5_.toInt ≤ 1000 ∧ 0 ≤ v3_.toInt ∧ v3_.toInt ≤ v5_.toInt) → va_P (dC, dI) vwCl (rW κ σ) H → va_D A (rW κ σ) → va_S A s.heap H locs → lv_has ls 6 [(3, .int v3_), (4, .int v4_), (5, .int v5_), (2, .int z1_), (0, .ref (kA κ 1)), (1, .ref (adK sn))] → W p l e (headSpec vs_r_isOneOf rm_r_isOneOf).room s m #[Value.ref (kA κ 1), Value.ref (adK sn)] below meth c H locs 0 0 Q (F0 m 18 ls []) := by
    intro n18_
    induction n18_ with
    | zero => intro v3_ v4_ v5_ H locs ls hn18_ hf18_0_ hP hD hS hl; exact absurd hn18_ (Nat.not_lt_zero _)
    | succ n18_ ih18_ =>
      intro v3_ v4_ v5_ H locs ls hn18_ hf18_0_ hP hD hS hl
      have bσ_3 : 0 ≤ (σ.1 3).toInt ∧ (σ.1 3).toInt ≤ 1000 := hI 3
      have bσ_5 : 0 ≤ (σ.1 5).toInt ∧ (σ.1 5).toInt ≤ 1000 := hI 5
      refine lv_iload hx hb dX6_isOneOf_18 (lv_at hl 2 rfl) ?_
      refine lv_aload_n hx hb dX6_isOneOf_20 rfl (lv_at hl 5 rfl) ?_
      refine zs_i (va_runV (As := []) (rest := [.int v5_]) ⟨hx, hb, hml, hown, hts⟩ (k_strlen l dC dI adK adV sn hsn  H.size) (cwV 0 hts gd_r_isOneOf_48_k_strlen rfl rfl rfl dd_k_strlen ⟨Nat.le_of_ble_eq_true rfl, Nat.le_of_ble_eq_true rfl⟩) (preVz hK hE.x hZ hS hA hsn) rfl rfl hl.1 rfl (lv_room (Nat.le_of_ble_eq_true rfl)) dX6_isOneOf_21 ⟨Nat.le_of_ble_eq_true rfl, Nat.le_of_ble_eq_true rfl⟩) hP hD hS hA (fun z2_ H locs hq hP hD hS => ?_)
      have q3_ : z2_.toInt = ((lS.getD sn 0 : Nat) : Int) := hq
      refine W.widen (k := 0) (n := 0) (Nat.le_of_ble_eq_true rfl) (Nat.le_of_ble_eq_true rfl) ?_
      refine lv_icmp_ge (tgt := 104) hx hb dX6_isOneOf_24 rfl (fun c4_ => ?_) (fun c4_ => ?_)
      · have tc4_ := (show z2_.toInt ≤ v5_.toInt from ti_le rfl rfl c4_)
        refine lv_iconst (v := 0) hx hb dX6_isOneOf_104 rg_0 ?_
        have kk5_ : (0 : Int32).toInt = 0 := rg_11
        have o3 : (0 : Int32).toInt = 0 ∨ (0 : Int32).toInt = 1 := by omega
        rw [hQ]
        exact W.zret (v := 0) hx hb hr rfl (fun t ht hW => ⟨⟨0, σ, rfl, ⟨rfl, o3⟩, wEn_of hP (hK.sub [] rfl) hD ht hW⟩, hS.F ht⟩) hS.2.2 dX6_isOneOf_105
      · have tc4_ := (show v5_.toInt < z2_.toInt from ti_nle rfl rfl c4_)
        refine lv_aload_n hx hb dX6_isOneOf_27 rfl (lv_at hl 5 rfl) ?_
        refine lv_iload hx hb dX6_isOneOf_28 (lv_at hl 2 rfl) ?_
        have o4 : 0 ≤ v5_.toInt := by omega
        have o5 : v5_.toInt < ((lS.getD sn 0 : Nat) : Int) := by omega
        refine zs_i (va_runV (As := [.int v5_]) (rest := []) ⟨hx, hb, hml, hown, hts⟩ (k_charAt l dC dI adK adV sn hsn v5_ ⟨o4, o5⟩ H.size) (cwV 1 hts gd_r_isOneOf_53_k_charAt rfl rfl rfl dd_k_charAt ⟨Nat.le_of_ble_eq_true rfl, Nat.le_of_ble_eq_true rfl⟩) (preVz hK hE.x hZ hS hA hsn) rfl rfl hl.1 rfl (lv_room (Nat.le_of_ble_eq_true rfl)) dX6_isOneOf_30 ⟨Nat.le_of_ble_eq_true rfl, Nat.le_of_ble_eq_true rfl⟩) hP hD hS hA (fun z6_ H locs hq hP hD hS => ?_)
        have q7_ : True := hq
        refine W.widen (k := 0) (n := 0) (Nat.le_of_ble_eq_true rfl) (Nat.le_of_ble_eq_true rfl) ?_
        refine lv_bipush (v := 32) hx hb dX6_isOneOf_33 rg_43 ?_
        refine lv_icmp_eq (tgt := 81) hx hb dX6_isOneOf_35 rfl (fun c8_ => ?_) (fun c8_ => ?_)
        · have tc8_ := (show z6_.toInt = 32 from ti_eq rfl rg_44 c8_)
          refine lv_iload hx hb dX6_isOneOf_81 (lv_at hl 1 rfl) ?_
          refine lv_if_eq (tgt := 93) hx hb dX6_isOneOf_83 rfl (fun c9_ => ?_) (fun c9_ => ?_)
          · have tc9_ := (show v4_.toInt = 0 from ti_eq rfl rg_11 c9_)
            refine lv_iconst (v := 0) hx hb dX6_isOneOf_93 rg_0 ?_
            refine lv_istore_n (lv' := [(3, .int 0), (4, .int v4_), (5, .int v5_), (2, .int z1_), (0, .ref (kA κ 1)), (1, .ref (adK sn))]) hx hb dX6_isOneOf_94 rfl hl (Nat.le_of_ble_eq_true rfl) rfl (fun ls hl => ?_)
            refine lv_iconst (v := 1) hx hb dX6_isOneOf_95 rg_6 ?_
            refine lv_istore (lv' := [(4, .int 1), (3, .int 0), (5, .int v5_), (2, .int z1_), (0, .ref (kA κ 1)), (1, .ref (adK sn))]) hx hb dX6_isOneOf_96 hl (Nat.le_of_ble_eq_true rfl) rfl (fun ls hl => ?_)
            obtain ⟨z10_, ez10_⟩ : ∃ y : Int32, y = v5_ + 1 := ⟨_, rfl⟩
            have o6 : -2147483648 ≤ v5_.toInt + 1 := by omega
            have o7 : v5_.toInt + 1 ≤ 2147483647 := by omega
            have tz10_ := ti_add ez10_ rfl rg_18 o6 o7
            refine lv_iinc (v := z10_) (lv' := [(5, .int z10_), (4, .int 1), (3, .int 0), (2, .int z1_), (0, .ref (kA κ 1)), (1, .ref (adK sn))]) hx hb dX6_isOneOf_98 hl (k := 2) rfl (iincp ez10_ rg_6) (Nat.le_of_ble_eq_true rfl) rfl (fun ls hl => ?_)
            refine lv_goto (tgt := 18) hx hb dX6_isOneOf_101 rfl ?_
            have kk11_ : (0 : Int32).toInt = 0 := rg_11
            have kk12_ : (1 : Int32).toInt = 1 := rg_18
            have o8 : (1000 - z10_.toInt).toNat < n18_ := by omega
            have o9 : 0 ≤ z10_.toInt := by omega
            have o10 : z10_.toInt ≤ 1000 := by omega
            have o11 : 0 ≤ (0 : Int32).toInt := by omega
            have o12 : (0 : Int32).toInt ≤ z10_.toInt := by omega
            exact ih18_  0 1 z10_ _ _ _ o8 ⟨o9, o10, o11, o12⟩ hP hD hS (lv_sub hl [2, 1, 0, 3, 4, 5] rfl)
          · have tc9_ := (show v4_.toInt ≠ 0 from ti_ne rfl rg_11 c9_)
            refine lv_iload_n hx hb dX6_isOneOf_86 rfl (lv_at hl 0 rfl) ?_
            refine lv_iload_n hx hb dX6_isOneOf_87 rfl (lv_at hl 3 rfl) ?_
            refine lv_icmp_ne (tgt := 93) hx hb dX6_isOneOf_88 rfl (fun c13_ => ?_) (fun c13_ => ?_)
            · have tc13_ := (show v3_.toInt ≠ z1_.toInt from ti_ne rfl rfl c13_)
              refine lv_iconst (v := 0) hx hb dX6_isOneOf_93 rg_0 ?_
              refine lv_istore_n (lv' := [(3, .int 0), (4, .int v4_), (5, .int v5_), (2, .int z1_), (0, .ref (kA κ 1)), (1, .ref (adK sn))]) hx hb dX6_isOneOf_94 rfl hl (Nat.le_of_ble_eq_true rfl) rfl (fun ls hl => ?_)
              refine lv_iconst (v := 1) hx hb dX6_isOneOf_95 rg_6 ?_
              refine lv_istore (lv' := [(4, .int 1), (3, .int 0), (5, .int v5_), (2, .int z1_), (0, .ref (kA κ 1)), (1, .ref (adK sn))]) hx hb dX6_isOneOf_96 hl (Nat.le_of_ble_eq_true rfl) rfl (fun ls hl => ?_)
              obtain ⟨z14_, ez14_⟩ : ∃ y : Int32, y = v5_ + 1 := ⟨_, rfl⟩
              have o13 : -2147483648 ≤ v5_.toInt + 1 := by omega
              have o14 : v5_.toInt + 1 ≤ 2147483647 := by omega
              have tz14_ := ti_add ez14_ rfl rg_18 o13 o14
              refine lv_iinc (v := z14_) (lv' := [(5, .int z14_), (4, .int 1), (3, .int 0), (2, .int z1_), (0, .ref (kA κ 1)), (1, .ref (adK sn))]) hx hb dX6_isOneOf_98 hl (k := 2) rfl (iincp ez14_ rg_6) (Nat.le_of_ble_eq_true rfl) rfl (fun ls hl => ?_)
              refine lv_goto (tgt := 18) hx hb dX6_isOneOf_101 rfl ?_
              have kk15_ : (0 : Int32).toInt = 0 := rg_11
              have kk16_ : (1 : Int32).toInt = 1 := rg_18
              have o15 : (1000 - z14_.toInt).toNat < n18_ := by omega
              have o16 : 0 ≤ z14_.toInt := by omega
              have o17 : z14_.toInt ≤ 1000 := by omega
              have o18 : 0 ≤ (0 : Int32).toInt := by omega
              have o19 : (0 : Int32).toInt ≤ z14_.toInt := by omega
              exact ih18_  0 1 z14_ _ _ _ o15 ⟨o16, o17, o18, o19⟩ hP hD hS (lv_sub hl [2, 1, 0, 3, 4, 5] rfl)
            · have tc13_ := (show v3_.toInt = z1_.toInt from ti_eq rfl rfl c13_)
              refine lv_iconst (v := 1) hx hb dX6_isOneOf_91 rg_6 ?_
              have kk17_ : (1 : Int32).toInt = 1 := rg_18
              have o20 : (1 : Int32).toInt = 0 ∨ (1 : Int32).toInt = 1 := by omega
              rw [hQ]
              exact W.zret (v := 1) hx hb hr rfl (fun t ht hW => ⟨⟨1, σ, rfl, ⟨rfl, o20⟩, wEn_of hP (hK.sub [] rfl) hD ht hW⟩, hS.F ht⟩) hS.2.2 dX6_isOneOf_92
        · have tc8_ := (show z6_.toInt ≠ 32 from ti_ne rfl rg_44 c8_)
          refine lv_iload hx hb dX6_isOneOf_38 (lv_at hl 1 rfl) ?_
          refine lv_if_eq (tgt := 72) hx hb dX6_isOneOf_40 rfl (fun c18_ => ?_) (fun c18_ => ?_)
          · have tc18_ := (show v4_.toInt = 0 from ti_eq rfl rg_11 c18_)
            refine lv_iconst (v := 0) hx hb dX6_isOneOf_72 rg_0 ?_
            refine lv_istore (lv' := [(4, .int 0), (3, .int v3_), (5, .int v5_), (2, .int z1_), (0, .ref (kA κ 1)), (1, .ref (adK sn))]) hx hb dX6_isOneOf_73 hl (Nat.le_of_ble_eq_true rfl) rfl (fun ls hl => ?_)
            obtain ⟨z19_, ez19_⟩ : ∃ y : Int32, y = v3_ + 1 := ⟨_, rfl⟩
            have o21 : -2147483648 ≤ v3_.toInt + 1 := by omega
            have o22 : v3_.toInt + 1 ≤ 2147483647 := by omega
            have tz19_ := ti_add ez19_ rfl rg_18 o21 o22
            refine lv_iinc (v := z19_) (lv' := [(3, .int z19_), (4, .int 0), (5, .int v5_), (2, .int z1_), (0, .ref (kA κ 1)), (1, .ref (adK sn))]) hx hb dX6_isOneOf_75 hl (k := 1) rfl (iincp ez19_ rg_6) (Nat.le_of_ble_eq_true rfl) rfl (fun ls hl => ?_)
            refine lv_goto (tgt := 98) hx hb dX6_isOneOf_78 rfl ?_
            obtain ⟨z20_, ez20_⟩ : ∃ y : Int32, y = v5_ + 1 := ⟨_, rfl⟩
            have o23 : -2147483648 ≤ v5_.toInt + 1 := by omega
            have o24 : v5_.toInt + 1 ≤ 2147483647 := by omega
            have tz20_ := ti_add ez20_ rfl rg_18 o23 o24
            refine lv_iinc (v := z20_) (lv' := [(5, .int z20_), (3, .int z19_), (4, .int 0), (2, .int z1_), (0, .ref (kA κ 1)), (1, .ref (adK sn))]) hx hb dX6_isOneOf_98 hl (k := 2) rfl (iincp ez20_ rg_6) (Nat.le_of_ble_eq_true rfl) rfl (fun ls hl => ?_)
            refine lv_goto (tgt := 18) hx hb dX6_isOneOf_101 rfl ?_
            have kk21_ : (0 : Int32).toInt = 0 := rg_11
            have o25 : (1000 - z20_.toInt).toNat < n18_ := by omega
            have o26 : 0 ≤ z20_.toInt := by omega
            have o27 : z20_.toInt ≤ 1000 := by omega
            have o28 : 0 ≤ z19_.toInt := by omega
            have o29 : z19_.toInt ≤ z20_.toInt := by omega
            exact ih18_  z19_ 0 z20_ _ _ _ o25 ⟨o26, o27, o28, o29⟩ hP hD hS (lv_sub hl [1, 2, 0, 3, 4, 5] rfl)
          · have tc18_ := (show v4_.toInt ≠ 0 from ti_ne rfl rg_11 c18_)
            refine lv_iload_n hx hb dX6_isOneOf_43 rfl (lv_at hl 0 rfl) ?_
            refine lv_iload_n hx hb dX6_isOneOf_44 rfl (lv_at hl 3 rfl) ?_
            refine lv_icmp_ge (tgt := 72) hx hb dX6_isOneOf_45 rfl (fun c22_ => ?_) (fun c22_ => ?_)
            · have tc22_ := (show z1_.toInt ≤ v3_.toInt from ti_le rfl rfl c22_)
              refine lv_iconst (v := 0) hx hb dX6_isOneOf_72 rg_0 ?_
              refine lv_istore (lv' := [(4, .int 0), (3, .int v3_), (5, .int v5_), (2, .int z1_), (0, .ref (kA κ 1)), (1, .ref (adK sn))]) hx hb dX6_isOneOf_73 hl (Nat.le_of_ble_eq_true rfl) rfl (fun ls hl => ?_)
              obtain ⟨z23_, ez23_⟩ : ∃ y : Int32, y = v3_ + 1 := ⟨_, rfl⟩
              have o30 : -2147483648 ≤ v3_.toInt + 1 := by omega
              have o31 : v3_.toInt + 1 ≤ 2147483647 := by omega
              have tz23_ := ti_add ez23_ rfl rg_18 o30 o31
              refine lv_iinc (v := z23_) (lv' := [(3, .int z23_), (4, .int 0), (5, .int v5_), (2, .int z1_), (0, .ref (kA κ 1)), (1, .ref (adK sn))]) hx hb dX6_isOneOf_75 hl (k := 1) rfl (iincp ez23_ rg_6) (Nat.le_of_ble_eq_true rfl) rfl (fun ls hl => ?_)
              refine lv_goto (tgt := 98) hx hb dX6_isOneOf_78 rfl ?_
              obtain ⟨z24_, ez24_⟩ : ∃ y : Int32, y = v5_ + 1 := ⟨_, rfl⟩
              have o32 : -2147483648 ≤ v5_.toInt + 1 := by omega
              have o33 : v5_.toInt + 1 ≤ 2147483647 := by omega
              have tz24_ := ti_add ez24_ rfl rg_18 o32 o33
              refine lv_iinc (v := z24_) (lv' := [(5, .int z24_), (3, .int z23_), (4, .int 0), (2, .int z1_), (0, .ref (kA κ 1)), (1, .ref (adK sn))]) hx hb dX6_isOneOf_98 hl (k := 2) rfl (iincp ez24_ rg_6) (Nat.le_of_ble_eq_true rfl) rfl (fun ls hl => ?_)
              refine lv_goto (tgt := 18) hx hb dX6_isOneOf_101 rfl ?_
              have kk25_ : (0 : Int32).toInt = 0 := rg_11
              have o34 : (1000 - z24_.toInt).toNat < n18_ := by omega
              have o35 : 0 ≤ z24_.toInt := by omega
              have o36 : z24_.toInt ≤ 1000 := by omega
              have o37 : 0 ≤ z23_.toInt := by omega
              have o38 : z23_.toInt ≤ z24_.toInt := by omega
              exact ih18_  z23_ 0 z24_ _ _ _ o34 ⟨o35, o36, o37, o38⟩ hP hD hS (lv_sub hl [1, 2, 0, 3, 4, 5] rfl)
            · have tc22_ := (show v3_.toInt < z1_.toInt from ti_nle rfl rfl c22_)
              refine lv_aload_n hx hb dX6_isOneOf_48 rfl (lv_at hl 4 rfl) ?_
              refine va_get (D := (dC, dI)) (ci := 6) (v := .ref (kA κ 2)) (C := RX6) (T := TX6) (N := 7) hx hb hts hin6 hown hK hP 1 rfl rfl 0 (Nat.le_of_ble_eq_true rfl) (ho (.fieldLink RX6 26 "NearEnough$Scanner" "text" "[B") (List.mem_of_getElem? (i := 2) rfl)) (fun _ h9 => h9) rfl dX6_isOneOf_49 ?_
              refine lv_aload_n hx hb dX6_isOneOf_52 rfl (lv_at hl 4 rfl) ?_
              have bσ_5 : 0 ≤ (σ.1 5).toInt ∧ (σ.1 5).toInt ≤ 1000 := hI 5
              refine va_get (D := (dC, dI)) (ci := 6) (v := .int (σ.1 5)) (C := RX6) (T := TX6) (N := 7) hx hb hts hin6 hown hK hP 1 rfl rfl 4 (Nat.le_of_ble_eq_true rfl) (ho (.fieldLink RX6 16 "NearEnough$Scanner" "place" "I") (List.mem_of_getElem? (i := 1) rfl)) (fun _ h9 => h9) rfl dX6_isOneOf_53 ?_
              refine lv_iload_n hx hb dX6_isOneOf_56 rfl (lv_at hl 0 rfl) ?_
              refine lv_iadd hx hb dX6_isOneOf_57 ?_
              refine lv_topi (fun z26_ ez26_ => ?_)
              have o39 : -2147483648 ≤ (σ.1 5).toInt + v3_.toInt := by omega
              have o40 : (σ.1 5).toInt + v3_.toInt ≤ 2147483647 := by omega
              have tz26_ : z26_.toInt = (σ.1 5).toInt + v3_.toInt := ti_add ez26_ rfl rfl o39 o40
              have o41 : 0 ≤ z26_.toInt := by omega
              have o42 : z26_.toInt < ((1000 : Nat) : Int) := by omega
              refine va_bald hx hb hK hP 2 0 rfl rfl (ti_inx o41 o42) dX6_isOneOf_58 ?_
              refine lv_topi (fun z27_ ez27_ => ?_)
              refine lv_aload_n hx hb dX6_isOneOf_59 rfl (lv_at hl 5 rfl) ?_
              refine lv_iload hx hb dX6_isOneOf_60 (lv_at hl 2 rfl) ?_
              refine zs_i (va_runV (As := [.int v5_]) (rest := [.int z27_]) ⟨hx, hb, hml, hown, hts⟩ (k_charAt l dC dI adK adV sn hsn v5_ ⟨o4, o5⟩ H.size) (cwV 1 hts gd_r_isOneOf_53_k_charAt rfl rfl rfl dd_k_charAt ⟨Nat.le_of_ble_eq_true rfl, Nat.le_of_ble_eq_true rfl⟩) (preVz hK hE.x hZ hS hA hsn) rfl rfl hl.1 rfl (lv_room (Nat.le_of_ble_eq_true rfl)) dX6_isOneOf_62 ⟨Nat.le_of_ble_eq_true rfl, Nat.le_of_ble_eq_true rfl⟩) hP hD hS hA (fun z28_ H locs hq hP hD hS => ?_)
              have q29_ : True := hq
              refine W.widen (k := 0) (n := 0) (Nat.le_of_ble_eq_true rfl) (Nat.le_of_ble_eq_true rfl) ?_
              refine lv_icmp_ne (tgt := 72) hx hb dX6_isOneOf_65 rfl (fun c30_ => ?_) (fun c30_ => ?_)
              · have tc30_ := (show z27_.toInt ≠ z28_.toInt from ti_ne rfl rfl c30_)
                refine lv_iconst (v := 0) hx hb dX6_isOneOf_72 rg_0 ?_
                refine lv_istore (lv' := [(4, .int 0), (3, .int v3_), (5, .int v5_), (2, .int z1_), (0, .ref (kA κ 1)), (1, .ref (adK sn))]) hx hb dX6_isOneOf_73 hl (Nat.le_of_ble_eq_true rfl) rfl (fun ls hl => ?_)
                obtain ⟨z31_, ez31_⟩ : ∃ y : Int32, y = v3_ + 1 := ⟨_, rfl⟩
                have o43 : -2147483648 ≤ v3_.toInt + 1 := by omega
                have o44 : v3_.toInt + 1 ≤ 2147483647 := by omega
                have tz31_ := ti_add ez31_ rfl rg_18 o43 o44
                refine lv_iinc (v := z31_) (lv' := [(3, .int z31_), (4, .int 0), (5, .int v5_), (2, .int z1_), (0, .ref (kA κ 1)), (1, .ref (adK sn))]) hx hb dX6_isOneOf_75 hl (k := 1) rfl (iincp ez31_ rg_6) (Nat.le_of_ble_eq_true rfl) rfl (fun ls hl => ?_)
                refine lv_goto (tgt := 98) hx hb dX6_isOneOf_78 rfl ?_
                obtain ⟨z32_, ez32_⟩ : ∃ y : Int32, y = v5_ + 1 := ⟨_, rfl⟩
                have o45 : -2147483648 ≤ v5_.toInt + 1 := by omega
                have o46 : v5_.toInt + 1 ≤ 2147483647 := by omega
                have tz32_ := ti_add ez32_ rfl rg_18 o45 o46
                refine lv_iinc (v := z32_) (lv' := [(5, .int z32_), (3, .int z31_), (4, .int 0), (2, .int z1_), (0, .ref (kA κ 1)), (1, .ref (adK sn))]) hx hb dX6_isOneOf_98 hl (k := 2) rfl (iincp ez32_ rg_6) (Nat.le_of_ble_eq_true rfl) rfl (fun ls hl => ?_)
                refine lv_goto (tgt := 18) hx hb dX6_isOneOf_101 rfl ?_
                have kk33_ : (0 : Int32).toInt = 0 := rg_11
                have o47 : (1000 - z32_.toInt).toNat < n18_ := by omega
                have o48 : 0 ≤ z32_.toInt := by omega
                have o49 : z32_.toInt ≤ 1000 := by omega
                have o50 : 0 ≤ z31_.toInt := by omega
                have o51 : z31_.toInt ≤ z32_.toInt := by omega
                exact ih18_  z31_ 0 z32_ _ _ _ o47 ⟨o48, o49, o50, o51⟩ hP hD hS (lv_sub hl [1, 2, 0, 3, 4, 5] rfl)
              · have tc30_ := (show z27_.toInt = z28_.toInt from ti_eq rfl rfl c30_)
                refine lv_iconst (v := 1) hx hb dX6_isOneOf_68 rg_6 ?_
                refine lv_goto (tgt := 73) hx hb dX6_isOneOf_69 rfl ?_
                refine lv_istore (lv' := [(4, .int 1), (3, .int v3_), (5, .int v5_), (2, .int z1_), (0, .ref (kA κ 1)), (1, .ref (adK sn))]) hx hb dX6_isOneOf_73 hl (Nat.le_of_ble_eq_true rfl) rfl (fun ls hl => ?_)
                obtain ⟨z34_, ez34_⟩ : ∃ y : Int32, y = v3_ + 1 := ⟨_, rfl⟩
                have o52 : -2147483648 ≤ v3_.toInt + 1 := by omega
                have o53 : v3_.toInt + 1 ≤ 2147483647 := by omega
                have tz34_ := ti_add ez34_ rfl rg_18 o52 o53
                refine lv_iinc (v := z34_) (lv' := [(3, .int z34_), (4, .int 1), (5, .int v5_), (2, .int z1_), (0, .ref (kA κ 1)), (1, .ref (adK sn))]) hx hb dX6_isOneOf_75 hl (k := 1) rfl (iincp ez34_ rg_6) (Nat.le_of_ble_eq_true rfl) rfl (fun ls hl => ?_)
                refine lv_goto (tgt := 98) hx hb dX6_isOneOf_78 rfl ?_
                obtain ⟨z35_, ez35_⟩ : ∃ y : Int32, y = v5_ + 1 := ⟨_, rfl⟩
                have o54 : -2147483648 ≤ v5_.toInt + 1 := by omega
                have o55 : v5_.toInt + 1 ≤ 2147483647 := by omega
                have tz35_ := ti_add ez35_ rfl rg_18 o54 o55
                refine lv_iinc (v := z35_) (lv' := [(5, .int z35_), (3, .int z34_), (4, .int 1), (2, .int z1_), (0, .ref (kA κ 1)), (1, .ref (adK sn))]) hx hb dX6_isOneOf_98 hl (k := 2) rfl (iincp ez35_ rg_6) (Nat.le_of_ble_eq_true rfl) rfl (fun ls hl => ?_)
                refine lv_goto (tgt := 18) hx hb dX6_isOneOf_101 rfl ?_
                have kk36_ : (1 : Int32).toInt = 1 := rg_18
                have o56 : (1000 - z35_.toInt).toNat < n18_ := by omega
                have o57 : 0 ≤ z35_.toInt := by omega
                have o58 : z35_.toInt ≤ 1000 := by omega
                have o59 : 0 ≤ z34_.toInt := by omega
                have o60 : z34_.toInt ≤ z35_.toInt := by omega
                exact ih18_  z34_ 1 z35_ _ _ _ o56 ⟨o57, o58, o59, o60⟩ hP hD hS (lv_sub hl [1, 2, 0, 3, 4, 5] rfl)
  have kk37_ : (0 : Int32).toInt = 0 := rg_11
  have kk38_ : (1 : Int32).toInt = 1 := rg_18
  have kk39_ : (0 : Int32).toInt = 0 := rg_11
  have o61 : 0 ≤ (0 : Int32).toInt := by omega
  have o62 : (0 : Int32).toInt ≤ 1000 := by omega
  have o63 : (0 : Int32).toInt ≤ (0 : Int32).toInt := by omega
  exact pt18_ _  0 1 0 _ _ _ (Nat.lt_succ_self _) ⟨o61, o62, o61, o63⟩ hP hD hS (lv_sub hl [2, 1, 0, 3, 4, 5] rfl)
