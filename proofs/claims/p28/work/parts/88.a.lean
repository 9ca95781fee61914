theorem dX4_refuse_0 : decode cX4_refuse 0 = .ok (.aload_n 0, 1) := by decide +kernel
theorem dX4_refuse_1 : decode cX4_refuse 1 = .ok (.getfield 18, 3) := by decide +kernel
theorem dX4_refuse_4 : decode cX4_refuse 4 = .ok (.ifCond .ne 13, 3) := by decide +kernel
theorem dX4_refuse_17 : decode cX4_refuse 17 = .ok (.return_, 1) := by decide +kernel
theorem dX4_refuse_7 : decode cX4_refuse 7 = .ok (.aload_n 0, 1) := by decide +kernel
theorem dX4_refuse_8 : decode cX4_refuse 8 = .ok (.iload_n 1, 1) := by decide +kernel
theorem dX4_refuse_9 : decode cX4_refuse 9 = .ok (.putfield 18, 3) := by decide +kernel
theorem dX4_refuse_12 : decode cX4_refuse 12 = .ok (.aload_n 0, 1) := by decide +kernel
theorem dX4_refuse_13 : decode cX4_refuse 13 = .ok (.iload_n 2, 1) := by decide +kernel
theorem dX4_refuse_14 : decode cX4_refuse 14 = .ok (.putfield 22, 3) := by decide +kernel
theorem dX4_expects_0 : decode cX4_expects 0 = .ok (.aload_n 0, 1) := by decide +kernel
theorem dX4_expects_1 : decode cX4_expects 1 = .ok (.getfield 18, 3) := by decide +kernel
theorem dX4_expects_4 : decode cX4_expects 4 = .ok (.ifCond .ne 44, 3) := by decide +kernel
theorem dX4_expects_48 : decode cX4_expects 48 = .ok (.aload_n 0, 1) := by decide +kernel
theorem dX4_expects_49 : decode cX4_expects 49 = .ok (.getfield 18, 3) := by decide +kernel
theorem dX4_expects_52 : decode cX4_expects 52 = .ok (.ifCond .ne 7, 3) := by decide +kernel
theorem dX4_expects_59 : decode cX4_expects 59 = .ok (.iconst 0, 1) := by decide +kernel
theorem dX4_expects_60 : decode cX4_expects 60 = .ok (.ireturn, 1) := by decide +kernel
theorem dX4_expects_55 : decode cX4_expects 55 = .ok (.iconst 1, 1) := by decide +kernel
theorem dX4_expects_56 : decode cX4_expects 56 = .ok (.goto 4, 3) := by decide +kernel
theorem dX4_expects_7 : decode cX4_expects 7 = .ok (.aload_n 0, 1) := by decide +kernel
theorem dX4_expects_8 : decode cX4_expects 8 = .ok (.getfield 30, 3) := by decide +kernel
theorem dX4_expects_11 : decode cX4_expects 11 = .ok (.getfield 37, 3) := by decide +kernel
theorem dX4_expects_14 : decode cX4_expects 14 = .ok (.iload_n 1, 1) := by decide +kernel
theorem dX4_expects_15 : decode cX4_expects 15 = .ok (.if_icmp .eq 33, 3) := by decide +kernel
theorem dX4_expects_18 : decode cX4_expects 18 = .ok (.aload_n 0, 1) := by decide +kernel
theorem dX4_expects_19 : decode cX4_expects 19 = .ok (.aload_n 0, 1) := by decide +kernel
theorem dX4_expects_20 : decode cX4_expects 20 = .ok (.getfield 30, 3) := by decide +kernel
theorem dX4_expects_23 : decode cX4_expects 23 = .ok (.getfield 37, 3) := by decide +kernel
theorem dX4_expects_26 : decode cX4_expects 26 = .ok (.ifCond .ne 7, 3) := by decide +kernel
theorem dX4_expects_33 : decode cX4_expects 33 = .ok (.iconst 2, 1) := by decide +kernel
theorem dX4_expects_34 : decode cX4_expects 34 = .ok (.putfield 18, 3) := by decide +kernel
theorem dX4_expects_37 : decode cX4_expects 37 = .ok (.aload_n 0, 1) := by decide +kernel
theorem dX4_expects_38 : decode cX4_expects 38 = .ok (.aload_n 0, 1) := by decide +kernel
theorem dX4_expects_39 : decode cX4_expects 39 = .ok (.getfield 30, 3) := by decide +kernel
theorem dX4_expects_42 : decode cX4_expects 42 = .ok (.getfield 61, 3) := by decide +kernel
theorem dX4_expects_45 : decode cX4_expects 45 = .ok (.putfield 22, 3) := by decide +kernel
theorem dX4_expects_29 : decode cX4_expects 29 = .ok (.iconst 1, 1) := by decide +kernel
theorem dX4_expects_30 : decode cX4_expects 30 = .ok (.goto 4, 3) := by decide +kernel
theorem dX4_pass_0 : decode cX4_pass 0 = .ok (.iload_n 1, 1) := by decide +kernel
theorem dX4_pass_1 : decode cX4_pass 1 = .ok (.ifCond .eq 13, 3) := by decide +kernel
theorem dX4_pass_14 : decode cX4_pass 14 = .ok (.aload_n 0, 1) := by decide +kernel
theorem dX4_pass_15 : decode cX4_pass 15 = .ok (.iconst 2, 1) := by decide +kernel
theorem dX4_pass_16 : decode cX4_pass 16 = .ok (.aload_n 0, 1) := by decide +kernel
theorem dX4_pass_17 : decode cX4_pass 17 = .ok (.getfield 30, 3) := by decide +kernel
theorem dX4_pass_20 : decode cX4_pass 20 = .ok (.getfield 61, 3) := by decide +kernel
theorem dX4_pass_23 : decode cX4_pass 23 = .ok (.invokevirtual 64, 3) := by decide +kernel
theorem dX4_pass_26 : decode cX4_pass 26 = .ok (.return_, 1) := by decide +kernel
theorem dX4_pass_4 : decode cX4_pass 4 = .ok (.aload_n 0, 1) := by decide +kernel
theorem dX4_pass_5 : decode cX4_pass 5 = .ok (.getfield 30, 3) := by decide +kernel
theorem dX4_pass_8 : decode cX4_pass 8 = .ok (.invokevirtual 34, 3) := by decide +kernel
theorem dX4_pass_11 : decode cX4_pass 11 = .ok (.goto 15, 3) := by decide +kernel
theorem dX4_needWord_0 : decode cX4_needWord 0 = .ok (.aload_n 0, 1) := by decide +kernel
theorem dX4_needWord_1 : decode cX4_needWord 1 = .ok (.iconst 1, 1) := by decide +kernel
theorem dX4_needWord_2 : decode cX4_needWord 2 = .ok (.invokevirtual 40, 3) := by decide +kernel
theorem dX4_needWord_5 : decode cX4_needWord 5 = .ok (.ifCond .eq 15, 3) := by decide +kernel
theorem dX4_needWord_20 : decode cX4_needWord 20 = .ok (.return_, 1) := by decide +kernel
theorem dX4_needWord_8 : decode cX4_needWord 8 = .ok (.aload_n 0, 1) := by decide +kernel
theorem dX4_needWord_9 : decode cX4_needWord 9 = .ok (.aload_n 0, 1) := by decide +kernel
theorem dX4_needWord_10 : decode cX4_needWord 10 = .ok (.getfield 30, 3) := by decide +kernel
theorem dX4_needWord_13 : decode cX4_needWord 13 = .ok (.aload_n 1, 1) := by decide +kernel
theorem dX4_needWord_14 : decode cX4_needWord 14 = .ok (.invokevirtual 46, 3) := by decide +kernel
theorem dX4_needWord_17 : decode cX4_needWord 17 = .ok (.invokevirtual 68, 3) := by decide +kernel
theorem dX4_needSemicolon_0 : decode cX4_needSemicolon 0 = .ok (.aload_n 0, 1) := by decide +kernel
theorem dX4_needSemicolon_1 : decode cX4_needSemicolon 1 = .ok (.iconst 3, 1) := by decide +kernel
theorem dX4_needSemicolon_2 : decode cX4_needSemicolon 2 = .ok (.invokevirtual 40, 3) := by decide +kernel
theorem dX4_needSemicolon_5 : decode cX4_needSemicolon 5 = .ok (.ifCond .eq 10, 3) := by decide +kernel
theorem dX4_needSemicolon_15 : decode cX4_needSemicolon 15 = .ok (.return_, 1) := by decide +kernel
theorem dX4_needSemicolon_8 : decode cX4_needSemicolon 8 = .ok (.aload_n 0, 1) := by decide +kernel
theorem dX4_needSemicolon_9 : decode cX4_needSemicolon 9 = .ok (.getfield 30, 3) := by decide +kernel
theorem dX4_needSemicolon_12 : decode cX4_needSemicolon 12 = .ok (.invokevirtual 34, 3) := by decide +kernel
theorem dX4_needNumber_0 : decode cX4_needNumber 0 = .ok (.aload_n 0, 1) := by decide +kernel
theorem dX4_needNumber_1 : decode cX4_needNumber 1 = .ok (.getfield 30, 3) := by decide +kernel
theorem dX4_needNumber_4 : decode cX4_needNumber 4 = .ok (.getfield 61, 3) := by decide +kernel
theorem dX4_needNumber_7 : decode cX4_needNumber 7 = .ok (.istore 4, 2) := by decide +kernel
theorem dX4_needNumber_36 : decode cX4_needNumber 36 = .ok (.istore 5, 2) := by decide +kernel
theorem dX4_needNumber_50 : decode cX4_needNumber 50 = .ok (.aload_n 0, 1) := by decide +kernel
theorem dX4_needNumber_51 : decode cX4_needNumber 51 = .ok (.iconst 2, 1) := by decide +kernel
theorem dX4_needNumber_52 : decode cX4_needNumber 52 = .ok (.invokevirtual 40, 3) := by decide +kernel
theorem dX4_needNumber_55 : decode cX4_needNumber 55 = .ok (.ifCond .ne 5, 3) := by decide +kernel
theorem dX4_needNumber_83 : decode cX4_needNumber 83 = .ok (.istore 6, 2) := by decide +kernel
theorem dX4_needNumber_85 : decode cX4_needNumber 85 = .ok (.iload 6, 2) := by decide +kernel
theorem dX4_needNumber_87 : decode cX4_needNumber 87 = .ok (.iload_n 1, 1) := by decide +kernel
theorem dX4_needNumber_88 : decode cX4_needNumber 88 = .ok (.if_icmp .lt 9, 3) := by decide +kernel
theorem dX4_needNumber_97 : decode cX4_needNumber 97 = .ok (.aload_n 0, 1) := by decide +kernel
theorem dX4_needNumber_98 : decode cX4_needNumber 98 = .ok (.iconst 4, 1) := by decide +kernel
theorem dX4_needNumber_99 : decode cX4_needNumber 99 = .ok (.iload 4, 2) := by decide +kernel
theorem dX4_needNumber_101 : decode cX4_needNumber 101 = .ok (.invokevirtual 64, 3) := by decide +kernel
theorem dX4_needNumber_104 : decode cX4_needNumber 104 = .ok (.iconst 0, 1) := by decide +kernel
theorem dX4_needNumber_105 : decode cX4_needNumber 105 = .ok (.ireturn, 1) := by decide +kernel
theorem dX4_needNumber_91 : decode cX4_needNumber 91 = .ok (.iload 6, 2) := by decide +kernel
theorem dX4_needNumber_93 : decode cX4_needNumber 93 = .ok (.iload_n 2, 1) := by decide +kernel
theorem dX4_needNumber_94 : decode cX4_needNumber 94 = .ok (.if_icmp .le 12, 3) := by decide +kernel
theorem dX4_needNumber_106 : decode cX4_needNumber 106 = .ok (.aload_n 0, 1) := by decide +kernel
theorem dX4_needNumber_107 : decode cX4_needNumber 107 = .ok (.getfield 30, 3) := by decide +kernel
theorem dX4_needNumber_110 : decode cX4_needNumber 110 = .ok (.invokevirtual 34, 3) := by decide +kernel
theorem dX4_needNumber_113 : decode cX4_needNumber 113 = .ok (.iload 6, 2) := by decide +kernel
theorem dX4_needNumber_115 : decode cX4_needNumber 115 = .ok (.ireturn, 1) := by decide +kernel
theorem dX4_needNumber_60 : decode cX4_needNumber 60 = .ok (.iload 5, 2) := by decide +kernel
theorem dX4_needNumber_62 : decode cX4_needNumber 62 = .ok (.ifCond .eq 14, 3) := by decide +kernel
theorem dX4_needNumber_76 : decode cX4_needNumber 76 = .ok (.aload_n 0, 1) := by decide +kernel
theorem dX4_needNumber_77 : decode cX4_needNumber 77 = .ok (.getfield 30, 3) := by decide +kernel
theorem dX4_needNumber_80 : decode cX4_needNumber 80 = .ok (.getfield 72, 3) := by decide +kernel
theorem dX4_needNumber_65 : decode cX4_needNumber 65 = .ok (.aload_n 0, 1) := by decide +kernel
theorem dX4_needNumber_66 : decode cX4_needNumber 66 = .ok (.getfield 30, 3) := by decide +kernel
theorem dX4_needNumber_69 : decode cX4_needNumber 69 = .ok (.getfield 72, 3) := by decide +kernel
theorem dX4_needNumber_72 : decode cX4_needNumber 72 = .ok (.ineg, 1) := by decide +kernel
theorem dX4_needNumber_73 : decode cX4_needNumber 73 = .ok (.goto 10, 3) := by decide +kernel
theorem dX4_needNumber_58 : decode cX4_needNumber 58 = .ok (.iconst 0, 1) := by decide +kernel
theorem dX4_needNumber_59 : decode cX4_needNumber 59 = .ok (.ireturn, 1) := by decide +kernel
theorem dX4_needNumber_38 : decode cX4_needNumber 38 = .ok (.iload 5, 2) := by decide +kernel
theorem dX4_needNumber_40 : decode cX4_needNumber 40 = .ok (.ifCond .eq 10, 3) := by decide +kernel
theorem dX4_needNumber_43 : decode cX4_needNumber 43 = .ok (.aload_n 0, 1) := by decide +kernel
theorem dX4_needNumber_44 : decode cX4_needNumber 44 = .ok (.getfield 30, 3) := by decide +kernel
theorem dX4_needNumber_47 : decode cX4_needNumber 47 = .ok (.invokevirtual 34, 3) := by decide +kernel
theorem dX4_needNumber_9 : decode cX4_needNumber 9 = .ok (.iload_n 3, 1) := by decide +kernel
theorem dX4_needNumber_10 : decode cX4_needNumber 10 = .ok (.ifCond .eq 25, 3) := by decide +kernel
theorem dX4_needNumber_35 : decode cX4_needNumber 35 = .ok (.iconst 0, 1) := by decide +kernel
theorem dX4_needNumber_13 : decode cX4_needNumber 13 = .ok (.aload_n 0, 1) := by decide +kernel
theorem dX4_needNumber_14 : decode cX4_needNumber 14 = .ok (.getfield 18, 3) := by decide +kernel
theorem dX4_needNumber_17 : decode cX4_needNumber 17 = .ok (.ifCond .ne 18, 3) := by decide +kernel
theorem dX4_needNumber_20 : decode cX4_needNumber 20 = .ok (.aload_n 0, 1) := by decide +kernel
theorem dX4_needNumber_21 : decode cX4_needNumber 21 = .ok (.getfield 30, 3) := by decide +kernel
theorem dX4_needNumber_24 : decode cX4_needNumber 24 = .ok (.getfield 37, 3) := by decide +kernel
theorem dX4_needNumber_27 : decode cX4_needNumber 27 = .ok (.iconst 4, 1) := by decide +kernel
theorem dX4_needNumber_28 : decode cX4_needNumber 28 = .ok (.if_icmp .ne 7, 3) := by decide +kernel
theorem dX4_needNumber_31 : decode cX4_needNumber 31 = .ok (.iconst 1, 1) := by decide +kernel
theorem dX4_needNumber_32 : decode cX4_needNumber 32 = .ok (.goto 4, 3) := by decide +kernel
theorem dX4_expectsName_0 : decode cX4_expectsName 0 = .ok (.aload_n 0, 1) := by decide +kernel
theorem dX4_expectsName_1 : decode cX4_expectsName 1 = .ok (.iconst 1, 1) := by decide +kernel
theorem dX4_expectsName_2 : decode cX4_expectsName 2 = .ok (.invokevirtual 40, 3) := by decide +kernel
theorem dX4_expectsName_5 : decode cX4_expectsName 5 = .ok (.ifCond .eq 27, 3) := by decide +kernel
theorem dX4_expectsName_32 : decode cX4_expectsName 32 = .ok (.aload_n 0, 1) := by decide +kernel
theorem dX4_expectsName_33 : decode cX4_expectsName 33 = .ok (.getfield 18, 3) := by decide +kernel
theorem dX4_expectsName_36 : decode cX4_expectsName 36 = .ok (.ifCond .ne 7, 3) := by decide +kernel
theorem dX4_expectsName_43 : decode cX4_expectsName 43 = .ok (.iconst 0, 1) := by decide +kernel
theorem dX4_expectsName_44 : decode cX4_expectsName 44 = .ok (.ireturn, 1) := by decide +kernel
theorem dX4_expectsName_39 : decode cX4_expectsName 39 = .ok (.iconst 1, 1) := by decide +kernel
theorem dX4_expectsName_40 : decode cX4_expectsName 40 = .ok (.goto 4, 3) := by decide +kernel
theorem dX4_expectsName_8 : decode cX4_expectsName 8 = .ok (.aload_n 0, 1) := by decide +kernel
theorem dX4_expectsName_9 : decode cX4_expectsName 9 = .ok (.getfield 30, 3) := by decide +kernel
theorem dX4_expectsName_12 : decode cX4_expectsName 12 = .ok (.ldc 75, 2) := by decide +kernel
theorem dX4_expectsName_14 : decode cX4_expectsName 14 = .ok (.invokevirtual 46, 3) := by decide +kernel
theorem dX4_expectsName_17 : decode cX4_expectsName 17 = .ok (.ifCond .eq 15, 3) := by decide +kernel
theorem dX4_expectsName_20 : decode cX4_expectsName 20 = .ok (.aload_n 0, 1) := by decide +kernel
theorem dX4_expectsName_21 : decode cX4_expectsName 21 = .ok (.iconst 2, 1) := by decide +kernel
theorem dX4_expectsName_22 : decode cX4_expectsName 22 = .ok (.aload_n 0, 1) := by decide +kernel
theorem dX4_expectsName_23 : decode cX4_expectsName 23 = .ok (.getfield 30, 3) := by decide +kernel
theorem dX4_expectsName_26 : decode cX4_expectsName 26 = .ok (.getfield 61, 3) := by decide +kernel
theorem dX4_expectsName_29 : decode cX4_expectsName 29 = .ok (.invokevirtual 64, 3) := by decide +kernel
theorem dX3_hasEndOf_0 : decode cX3_hasEndOf 0 = .ok (.iconst 0, 1) := by decide +kernel
theorem dX3_hasEndOf_1 : decode cX3_hasEndOf 1 = .ok (.istore_n 2, 1) := by decide +kernel
theorem dX3_hasEndOf_2 : decode cX3_hasEndOf 2 = .ok (.iload_n 2, 1) := by decide +kernel
theorem dX3_hasEndOf_3 : decode cX3_hasEndOf 3 = .ok (.aload_n 0, 1) := by decide +kernel
theorem dX3_hasEndOf_4 : decode cX3_hasEndOf 4 = .ok (.getfield 40, 3) := by decide +kernel
theorem dX3_hasEndOf_7 : decode cX3_hasEndOf 7 = .ok (.if_icmp .ge 21, 3) := by decide +kernel
theorem dX3_hasEndOf_28 : decode cX3_hasEndOf 28 = .ok (.iconst 0, 1) := by decide +kernel
theorem dX3_hasEndOf_29 : decode cX3_hasEndOf 29 = .ok (.ireturn, 1) := by decide +kernel
theorem dX3_hasEndOf_10 : decode cX3_hasEndOf 10 = .ok (.aload_n 0, 1) := by decide +kernel
theorem dX3_hasEndOf_11 : decode cX3_hasEndOf 11 = .ok (.getfield 23, 3) := by decide +kernel
theorem dX3_hasEndOf_14 : decode cX3_hasEndOf 14 = .ok (.iload_n 2, 1) := by decide +kernel
theorem dX3_hasEndOf_15 : decode cX3_hasEndOf 15 = .ok (.iaload, 1) := by decide +kernel
theorem dX3_hasEndOf_16 : decode cX3_hasEndOf 16 = .ok (.iload_n 1, 1) := by decide +kernel
theorem dX3_hasEndOf_17 : decode cX3_hasEndOf 17 = .ok (.if_icmp .ne 5, 3) := by decide +kernel
theorem dX3_hasEndOf_22 : decode cX3_hasEndOf 22 = .ok (.iinc 2 1, 3) := by decide +kernel
theorem dX3_hasEndOf_25 : decode cX3_hasEndOf 25 = .ok (.goto (-23), 3) := by decide +kernel
theorem dX3_hasEndOf_20 : decode cX3_hasEndOf 20 = .ok (.iconst 1, 1) := by decide +kernel
theorem dX3_hasEndOf_21 : decode cX3_hasEndOf 21 = .ok (.ireturn, 1) := by decide +kernel
theorem dX3_stepNamed_0 : decode cX3_stepNamed 0 = .ok (.iconst 0, 1) := by decide +kernel
theorem dX3_stepNamed_1 : decode cX3_stepNamed 1 = .ok (.istore_n 3, 1) := by decide +kernel
theorem dX3_stepNamed_2 : decode cX3_stepNamed 2 = .ok (.iload_n 3, 1) := by decide +kernel
theorem dX3_stepNamed_3 : decode cX3_stepNamed 3 = .ok (.aload_n 0, 1) := by decide +kernel
theorem dX3_stepNamed_4 : decode cX3_stepNamed 4 = .ok (.getfield 37, 3) := by decide +kernel
theorem dX3_stepNamed_7 : decode cX3_stepNamed 7 = .ok (.if_icmp .ge 25, 3) := by decide +kernel
theorem dX3_stepNamed_32 : decode cX3_stepNamed 32 = .ok (.iconst (-1), 1) := by decide +kernel
theorem dX3_stepNamed_33 : decode cX3_stepNamed 33 = .ok (.ireturn, 1) := by decide +kernel
theorem dX3_stepNamed_10 : decode cX3_stepNamed 10 = .ok (.aload_n 0, 1) := by decide +kernel
theorem dX3_stepNamed_11 : decode cX3_stepNamed 11 = .ok (.getfield 19, 3) := by decide +kernel
theorem dX3_stepNamed_14 : decode cX3_stepNamed 14 = .ok (.iload_n 3, 1) := by decide +kernel
theorem dX3_stepNamed_15 : decode cX3_stepNamed 15 = .ok (.aaload, 1) := by decide +kernel
theorem dX3_stepNamed_16 : decode cX3_stepNamed 16 = .ok (.getfield 56, 3) := by decide +kernel
theorem dX3_stepNamed_19 : decode cX3_stepNamed 19 = .ok (.lload_n 1, 1) := by decide +kernel
theorem dX3_stepNamed_20 : decode cX3_stepNamed 20 = .ok (.lcmp, 1) := by decide +kernel
theorem dX3_stepNamed_21 : decode cX3_stepNamed 21 = .ok (.ifCond .ne 5, 3) := by decide +kernel
theorem dX3_stepNamed_26 : decode cX3_stepNamed 26 = .ok (.iinc 3 1, 3) := by decide +kernel
theorem dX3_stepNamed_29 : decode cX3_stepNamed 29 = .ok (.goto (-27), 3) := by decide +kernel
theorem dX3_stepNamed_24 : decode cX3_stepNamed 24 = .ok (.iload_n 3, 1) := by decide +kernel
theorem dX3_stepNamed_25 : decode cX3_stepNamed 25 = .ok (.ireturn, 1) := by decide +kernel
theorem dX3_rowNamed_0 : decode cX3_rowNamed 0 = .ok (.iconst 0, 1) := by decide +kernel
theorem dX3_rowNamed_1 : decode cX3_rowNamed 1 = .ok (.istore_n 3, 1) := by decide +kernel
theorem dX3_rowNamed_2 : decode cX3_rowNamed 2 = .ok (.iload_n 3, 1) := by decide +kernel
theorem dX3_rowNamed_3 : decode cX3_rowNamed 3 = .ok (.aload_n 0, 1) := by decide +kernel
theorem dX3_rowNamed_4 : decode cX3_rowNamed 4 = .ok (.getfield 33, 3) := by decide +kernel
theorem dX3_rowNamed_7 : decode cX3_rowNamed 7 = .ok (.if_icmp .ge 30, 3) := by decide +kernel
theorem dX3_rowNamed_37 : decode cX3_rowNamed 37 = .ok (.aconst_null, 1) := by decide +kernel
theorem dX3_rowNamed_38 : decode cX3_rowNamed 38 = .ok (.areturn, 1) := by decide +kernel
theorem dX3_rowNamed_10 : decode cX3_rowNamed 10 = .ok (.aload_n 0, 1) := by decide +kernel
theorem dX3_rowNamed_11 : decode cX3_rowNamed 11 = .ok (.getfield 11, 3) := by decide +kernel
theorem dX3_rowNamed_14 : decode cX3_rowNamed 14 = .ok (.iload_n 3, 1) := by decide +kernel
theorem dX3_rowNamed_15 : decode cX3_rowNamed 15 = .ok (.aaload, 1) := by decide +kernel
theorem dX3_rowNamed_16 : decode cX3_rowNamed 16 = .ok (.getfield 52, 3) := by decide +kernel
theorem dX3_rowNamed_19 : decode cX3_rowNamed 19 = .ok (.lload_n 1, 1) := by decide +kernel
theorem dX3_rowNamed_20 : decode cX3_rowNamed 20 = .ok (.lcmp, 1) := by decide +kernel
theorem dX3_rowNamed_21 : decode cX3_rowNamed 21 = .ok (.ifCond .ne 10, 3) := by decide +kernel
theorem dX3_rowNamed_31 : decode cX3_rowNamed 31 = .ok (.iinc 3 1, 3) := by decide +kernel
theorem dX3_rowNamed_34 : decode cX3_rowNamed 34 = .ok (.goto (-32), 3) := by decide +kernel
theorem dX3_rowNamed_24 : decode cX3_rowNamed 24 = .ok (.aload_n 0, 1) := by decide +kernel
theorem dX3_rowNamed_25 : decode cX3_rowNamed 25 = .ok (.getfield 11, 3) := by decide +kernel
theorem dX3_rowNamed_28 : decode cX3_rowNamed 28 = .ok (.iload_n 3, 1) := by decide +kernel
theorem dX3_rowNamed_29 : decode cX3_rowNamed 29 = .ok (.aaload, 1) := by decide +kernel
theorem dX3_rowNamed_30 : decode cX3_rowNamed 30 = .ok (.areturn, 1) := by decide +kernel
theorem dX4_needNewName_0 : decode cX4_needNewName 0 = .ok (.aload_n 0, 1) := by decide +kernel
theorem dX4_needNewName_1 : decode cX4_needNewName 1 = .ok (.invokevirtual 77, 3) := by decide +kernel
theorem dX4_needNewName_4 : decode cX4_needNewName 4 = .ok (.ifCond .ne 5, 3) := by decide +kernel
theorem dX4_needNewName_9 : decode cX4_needNewName 9 = .ok (.aload_n 0, 1) := by decide +kernel
theorem dX4_needNewName_10 : decode cX4_needNewName 10 = .ok (.getfield 30, 3) := by decide +kernel
theorem dX4_needNewName_13 : decode cX4_needNewName 13 = .ok (.getfield 81, 3) := by decide +kernel
theorem dX4_needNewName_16 : decode cX4_needNewName 16 = .ok (.lstore_n 1, 1) := by decide +kernel
theorem dX4_needNewName_17 : decode cX4_needNewName 17 = .ok (.aload_n 0, 1) := by decide +kernel
theorem dX4_needNewName_18 : decode cX4_needNewName 18 = .ok (.getfield 12, 3) := by decide +kernel
theorem dX4_needNewName_21 : decode cX4_needNewName 21 = .ok (.lload_n 1, 1) := by decide +kernel
theorem dX4_needNewName_22 : decode cX4_needNewName 22 = .ok (.invokevirtual 85, 3) := by decide +kernel
theorem dX4_needNewName_25 : decode cX4_needNewName 25 = .ok (.ifnonnull 15, 3) := by decide +kernel
theorem dX4_needNewName_28 : decode cX4_needNewName 28 = .ok (.aload_n 0, 1) := by decide +kernel
theorem dX4_needNewName_29 : decode cX4_needNewName 29 = .ok (.getfield 12, 3) := by decide +kernel
theorem dX4_needNewName_32 : decode cX4_needNewName 32 = .ok (.lload_n 1, 1) := by decide +kernel
theorem dX4_needNewName_33 : decode cX4_needNewName 33 = .ok (.invokevirtual 89, 3) := by decide +kernel
theorem dX4_needNewName_36 : decode cX4_needNewName 36 = .ok (.iconst (-1), 1) := by decide +kernel
theorem dX4_needNewName_37 : decode cX4_needNewName 37 = .ok (.if_icmp .eq 17, 3) := by decide +kernel
theorem dX4_needNewName_54 : decode cX4_needNewName 54 = .ok (.aload_n 0, 1) := by decide +kernel
theorem dX4_needNewName_55 : decode cX4_needNewName 55 = .ok (.getfield 30, 3) := by decide +kernel
theorem dX4_needNewName_58 : decode cX4_needNewName 58 = .ok (.invokevirtual 34, 3) := by decide +kernel
theorem dX4_needNewName_61 : decode cX4_needNewName 61 = .ok (.lload_n 1, 1) := by decide +kernel
theorem dX4_needNewName_62 : decode cX4_needNewName 62 = .ok (.lreturn, 1) := by decide +kernel
theorem dX4_needNewName_40 : decode cX4_needNewName 40 = .ok (.aload_n 0, 1) := by decide +kernel
theorem dX4_needNewName_41 : decode cX4_needNewName 41 = .ok (.iconst 3, 1) := by decide +kernel
theorem dX4_needNewName_42 : decode cX4_needNewName 42 = .ok (.aload_n 0, 1) := by decide +kernel
theorem dX4_needNewName_43 : decode cX4_needNewName 43 = .ok (.getfield 30, 3) := by decide +kernel
theorem dX4_needNewName_46 : decode cX4_needNewName 46 = .ok (.getfield 61, 3) := by decide +kernel
theorem dX4_needNewName_49 : decode cX4_needNewName 49 = .ok (.invokevirtual 64, 3) := by decide +kernel
theorem dX4_needNewName_52 : decode cX4_needNewName 52 = .ok (.lconst 0, 1) := by decide +kernel
theorem dX4_needNewName_53 : decode cX4_needNewName 53 = .ok (.lreturn, 1) := by decide +kernel
theorem dX4_needNewName_7 : decode cX4_needNewName 7 = .ok (.lconst 0, 1) := by decide +kernel
theorem dX4_needNewName_8 : decode cX4_needNewName 8 = .ok (.lreturn, 1) := by decide +kernel
theorem dX4_needStep_0 : decode cX4_needStep 0 = .ok (.aload_n 0, 1) := by decide +kernel
theorem dX4_needStep_1 : decode cX4_needStep 1 = .ok (.invokevirtual 77, 3) := by decide +kernel
theorem dX4_needStep_4 : decode cX4_needStep 4 = .ok (.ifCond .ne 5, 3) := by decide +kernel
theorem dX4_needStep_9 : decode cX4_needStep 9 = .ok (.aload_n 0, 1) := by decide +kernel
theorem dX4_needStep_10 : decode cX4_needStep 10 = .ok (.getfield 12, 3) := by decide +kernel
theorem dX4_needStep_13 : decode cX4_needStep 13 = .ok (.aload_n 0, 1) := by decide +kernel
theorem dX4_needStep_14 : decode cX4_needStep 14 = .ok (.getfield 30, 3) := by decide +kernel
theorem dX4_needStep_17 : decode cX4_needStep 17 = .ok (.getfield 81, 3) := by decide +kernel
theorem dX4_needStep_20 : decode cX4_needStep 20 = .ok (.invokevirtual 89, 3) := by decide +kernel
theorem dX4_needStep_23 : decode cX4_needStep 23 = .ok (.istore_n 1, 1) := by decide +kernel
theorem dX4_needStep_24 : decode cX4_needStep 24 = .ok (.iload_n 1, 1) := by decide +kernel
theorem dX4_needStep_25 : decode cX4_needStep 25 = .ok (.iconst (-1), 1) := by decide +kernel
theorem dX4_needStep_26 : decode cX4_needStep 26 = .ok (.if_icmp .ne 17, 3) := by decide +kernel
theorem dX4_needStep_43 : decode cX4_needStep 43 = .ok (.aload_n 0, 1) := by decide +kernel
theorem dX4_needStep_44 : decode cX4_needStep 44 = .ok (.getfield 30, 3) := by decide +kernel
theorem dX4_needStep_47 : decode cX4_needStep 47 = .ok (.invokevirtual 34, 3) := by decide +kernel
theorem dX4_needStep_50 : decode cX4_needStep 50 = .ok (.iload_n 1, 1) := by decide +kernel
theorem dX4_needStep_51 : decode cX4_needStep 51 = .ok (.ireturn, 1) := by decide +kernel
theorem dX4_needStep_29 : decode cX4_needStep 29 = .ok (.aload_n 0, 1) := by decide +kernel
theorem dX4_needStep_30 : decode cX4_needStep 30 = .ok (.iconst 5, 1) := by decide +kernel
theorem dX4_needStep_31 : decode cX4_needStep 31 = .ok (.aload_n 0, 1) := by decide +kernel
theorem dX4_needStep_32 : decode cX4_needStep 32 = .ok (.getfield 30, 3) := by decide +kernel
theorem dX4_needStep_35 : decode cX4_needStep 35 = .ok (.getfield 61, 3) := by decide +kernel
theorem dX4_needStep_38 : decode cX4_needStep 38 = .ok (.invokevirtual 64, 3) := by decide +kernel
theorem dX4_needStep_41 : decode cX4_needStep 41 = .ok (.iconst 0, 1) := by decide +kernel
theorem dX4_needStep_42 : decode cX4_needStep 42 = .ok (.ireturn, 1) := by decide +kernel
theorem dX4_needStep_7 : decode cX4_needStep 7 = .ok (.iconst 0, 1) := by decide +kernel
theorem dX4_needStep_8 : decode cX4_needStep 8 = .ok (.ireturn, 1) := by decide +kernel
theorem dX4_needRow_0 : decode cX4_needRow 0 = .ok (.aload_n 0, 1) := by decide +kernel
theorem dX4_needRow_1 : decode cX4_needRow 1 = .ok (.invokevirtual 77, 3) := by decide +kernel
theorem dX4_needRow_4 : decode cX4_needRow 4 = .ok (.ifCond .ne 5, 3) := by decide +kernel
theorem dX4_needRow_9 : decode cX4_needRow 9 = .ok (.aload_n 0, 1) := by decide +kernel
theorem dX4_needRow_10 : decode cX4_needRow 10 = .ok (.getfield 12, 3) := by decide +kernel
theorem dX4_needRow_13 : decode cX4_needRow 13 = .ok (.aload_n 0, 1) := by decide +kernel
theorem dX4_needRow_14 : decode cX4_needRow 14 = .ok (.getfield 30, 3) := by decide +kernel
theorem dX4_needRow_17 : decode cX4_needRow 17 = .ok (.getfield 81, 3) := by decide +kernel
theorem dX4_needRow_20 : decode cX4_needRow 20 = .ok (.invokevirtual 85, 3) := by decide +kernel
theorem dX4_needRow_23 : decode cX4_needRow 23 = .ok (.astore_n 1, 1) := by decide +kernel
theorem dX4_needRow_24 : decode cX4_needRow 24 = .ok (.aload_n 1, 1) := by decide +kernel
theorem dX4_needRow_25 : decode cX4_needRow 25 = .ok (.ifnonnull 18, 3) := by decide +kernel
theorem dX4_needRow_28 : decode cX4_needRow 28 = .ok (.aload_n 0, 1) := by decide +kernel
theorem dX4_needRow_29 : decode cX4_needRow 29 = .ok (.iconst 5, 1) := by decide +kernel
theorem dX4_needRow_30 : decode cX4_needRow 30 = .ok (.aload_n 0, 1) := by decide +kernel
theorem dX4_needRow_31 : decode cX4_needRow 31 = .ok (.getfield 30, 3) := by decide +kernel
theorem dX4_needRow_34 : decode cX4_needRow 34 = .ok (.getfield 61, 3) := by decide +kernel
theorem dX4_needRow_37 : decode cX4_needRow 37 = .ok (.invokevirtual 64, 3) := by decide +kernel
theorem dX4_needRow_40 : decode cX4_needRow 40 = .ok (.goto 10, 3) := by decide +kernel
theorem dX4_needRow_50 : decode cX4_needRow 50 = .ok (.aload_n 1, 1) := by decide +kernel
theorem dX4_needRow_51 : decode cX4_needRow 51 = .ok (.areturn, 1) := by decide +kernel
theorem dX4_needRow_43 : decode cX4_needRow 43 = .ok (.aload_n 0, 1) := by decide +kernel
theorem dX4_needRow_44 : decode cX4_needRow 44 = .ok (.getfield 30, 3) := by decide +kernel
theorem dX4_needRow_47 : decode cX4_needRow 47 = .ok (.invokevirtual 34, 3) := by decide +kernel
theorem dX4_needRow_7 : decode cX4_needRow 7 = .ok (.aconst_null, 1) := by decide +kernel
theorem dX4_needRow_8 : decode cX4_needRow 8 = .ok (.areturn, 1) := by decide +kernel
theorem dX4_needEndKind_0 : decode cX4_needEndKind 0 = .ok (.aload_n 0, 1) := by decide +kernel
theorem dX4_needEndKind_1 : decode cX4_needEndKind 1 = .ok (.iconst 1, 1) := by decide +kernel
theorem dX4_needEndKind_2 : decode cX4_needEndKind 2 = .ok (.invokevirtual 40, 3) := by decide +kernel
theorem dX4_needEndKind_5 : decode cX4_needEndKind 5 = .ok (.ifCond .ne 5, 3) := by decide +kernel
theorem dX4_needEndKind_10 : decode cX4_needEndKind 10 = .ok (.aload_n 0, 1) := by decide +kernel
theorem dX4_needEndKind_11 : decode cX4_needEndKind 11 = .ok (.getfield 30, 3) := by decide +kernel
theorem dX4_needEndKind_14 : decode cX4_needEndKind 14 = .ok (.ldc 140, 2) := by decide +kernel
theorem dX4_needEndKind_16 : decode cX4_needEndKind 16 = .ok (.invokevirtual 46, 3) := by decide +kernel
theorem dX4_needEndKind_19 : decode cX4_needEndKind 19 = .ok (.ifCond .eq 7, 3) := by decide +kernel
theorem dX4_needEndKind_26 : decode cX4_needEndKind 26 = .ok (.aload_n 0, 1) := by decide +kernel
theorem dX4_needEndKind_27 : decode cX4_needEndKind 27 = .ok (.getfield 30, 3) := by decide +kernel
theorem dX4_needEndKind_30 : decode cX4_needEndKind 30 = .ok (.ldc 142, 2) := by decide +kernel
theorem dX4_needEndKind_32 : decode cX4_needEndKind 32 = .ok (.invokevirtual 46, 3) := by decide +kernel
theorem dX4_needEndKind_35 : decode cX4_needEndKind 35 = .ok (.ifCond .eq 7, 3) := by decide +kernel
theorem dX4_needEndKind_42 : decode cX4_needEndKind 42 = .ok (.iconst 0, 1) := by decide +kernel
theorem dX4_needEndKind_43 : decode cX4_needEndKind 43 = .ok (.istore_n 1, 1) := by decide +kernel
theorem dX4_needEndKind_44 : decode cX4_needEndKind 44 = .ok (.aload_n 0, 1) := by decide +kernel
theorem dX4_needEndKind_45 : decode cX4_needEndKind 45 = .ok (.ldc 144, 2) := by decide +kernel
theorem dX4_needEndKind_47 : decode cX4_needEndKind 47 = .ok (.invokevirtual 102, 3) := by decide +kernel
theorem dX4_needEndKind_50 : decode cX4_needEndKind 50 = .ok (.iload_n 1, 1) := by decide +kernel
theorem dX4_needEndKind_51 : decode cX4_needEndKind 51 = .ok (.ireturn, 1) := by decide +kernel
theorem dX4_needEndKind_38 : decode cX4_needEndKind 38 = .ok (.iconst 2, 1) := by decide +kernel
theorem dX4_needEndKind_39 : decode cX4_needEndKind 39 = .ok (.goto 4, 3) := by decide +kernel
theorem dX4_needEndKind_22 : decode cX4_needEndKind 22 = .ok (.iconst 1, 1) := by decide +kernel
theorem dX4_needEndKind_23 : decode cX4_needEndKind 23 = .ok (.goto 20, 3) := by decide +kernel
theorem dX4_needEndKind_8 : decode cX4_needEndKind 8 = .ok (.iconst 0, 1) := by decide +kernel
theorem dX4_needEndKind_9 : decode cX4_needEndKind 9 = .ok (.ireturn, 1) := by decide +kernel
theorem dX4_stepKind_0 : decode cX4_stepKind 0 = .ok (.aload_n 0, 1) := by decide +kernel
theorem dX4_stepKind_1 : decode cX4_stepKind 1 = .ok (.getfield 30, 3) := by decide +kernel
theorem dX4_stepKind_4 : decode cX4_stepKind 4 = .ok (.ldc 177, 2) := by decide +kernel
theorem dX4_stepKind_6 : decode cX4_stepKind 6 = .ok (.invokevirtual 46, 3) := by decide +kernel
theorem dX4_stepKind_9 : decode cX4_stepKind 9 = .ok (.ifCond .eq 5, 3) := by decide +kernel
theorem dX4_stepKind_14 : decode cX4_stepKind 14 = .ok (.aload_n 0, 1) := by decide +kernel
theorem dX4_stepKind_15 : decode cX4_stepKind 15 = .ok (.getfield 30, 3) := by decide +kernel
theorem dX4_stepKind_18 : decode cX4_stepKind 18 = .ok (.ldc 179, 2) := by decide +kernel
theorem dX4_stepKind_20 : decode cX4_stepKind 20 = .ok (.invokevirtual 46, 3) := by decide +kernel
theorem dX4_stepKind_23 : decode cX4_stepKind 23 = .ok (.ifCond .eq 5, 3) := by decide +kernel
theorem dX4_stepKind_28 : decode cX4_stepKind 28 = .ok (.aload_n 0, 1) := by decide +kernel
theorem dX4_stepKind_29 : decode cX4_stepKind 29 = .ok (.getfield 30, 3) := by decide +kernel
theorem dX4_stepKind_32 : decode cX4_stepKind 32 = .ok (.ldc 181, 2) := by decide +kernel
theorem dX4_stepKind_34 : decode cX4_stepKind 34 = .ok (.invokevirtual 46, 3) := by decide +kernel
theorem dX4_stepKind_37 : decode cX4_stepKind 37 = .ok (.ifCond .eq 5, 3) := by decide +kernel
theorem dX4_stepKind_42 : decode cX4_stepKind 42 = .ok (.aload_n 0, 1) := by decide +kernel
theorem dX4_stepKind_43 : decode cX4_stepKind 43 = .ok (.getfield 30, 3) := by decide +kernel
theorem dX4_stepKind_46 : decode cX4_stepKind 46 = .ok (.ldc 183, 2) := by decide +kernel
theorem dX4_stepKind_48 : decode cX4_stepKind 48 = .ok (.invokevirtual 46, 3) := by decide +kernel
theorem dX4_stepKind_51 : decode cX4_stepKind 51 = .ok (.ifCond .eq 5, 3) := by decide +kernel
theorem dX4_stepKind_56 : decode cX4_stepKind 56 = .ok (.aload_n 0, 1) := by decide +kernel
theorem dX4_stepKind_57 : decode cX4_stepKind 57 = .ok (.getfield 30, 3) := by decide +kernel
theorem dX4_stepKind_60 : decode cX4_stepKind 60 = .ok (.ldc 185, 2) := by decide +kernel
theorem dX4_stepKind_62 : decode cX4_stepKind 62 = .ok (.invokevirtual 46, 3) := by decide +kernel
theorem dX4_stepKind_65 : decode cX4_stepKind 65 = .ok (.ifCond .eq 5, 3) := by decide +kernel
theorem dX4_stepKind_70 : decode cX4_stepKind 70 = .ok (.aload_n 0, 1) := by decide +kernel
theorem dX4_stepKind_71 : decode cX4_stepKind 71 = .ok (.getfield 30, 3) := by decide +kernel
theorem dX4_stepKind_74 : decode cX4_stepKind 74 = .ok (.ldc 187, 2) := by decide +kernel
theorem dX4_stepKind_76 : decode cX4_stepKind 76 = .ok (.invokevirtual 46, 3) := by decide +kernel
theorem dX4_stepKind_79 : decode cX4_stepKind 79 = .ok (.ifCond .eq 5, 3) := by decide +kernel
theorem dX4_stepKind_84 : decode cX4_stepKind 84 = .ok (.aload_n 0, 1) := by decide +kernel
theorem dX4_stepKind_85 : decode cX4_stepKind 85 = .ok (.getfield 30, 3) := by decide +kernel
theorem dX4_stepKind_88 : decode cX4_stepKind 88 = .ok (.ldc 189, 2) := by decide +kernel
theorem dX4_stepKind_90 : decode cX4_stepKind 90 = .ok (.invokevirtual 46, 3) := by decide +kernel
theorem dX4_stepKind_93 : decode cX4_stepKind 93 = .ok (.ifCond .eq 6, 3) := by decide +kernel
theorem dX4_stepKind_99 : decode cX4_stepKind 99 = .ok (.aload_n 0, 1) := by decide +kernel
theorem dX4_stepKind_100 : decode cX4_stepKind 100 = .ok (.getfield 30, 3) := by decide +kernel
theorem dX4_stepKind_103 : decode cX4_stepKind 103 = .ok (.ldc 191, 2) := by decide +kernel
theorem dX4_stepKind_105 : decode cX4_stepKind 105 = .ok (.invokevirtual 46, 3) := by decide +kernel
theorem dX4_stepKind_108 : decode cX4_stepKind 108 = .ok (.ifCond .eq 8, 3) := by decide +kernel
theorem dX4_stepKind_116 : decode cX4_stepKind 116 = .ok (.iconst (-1), 1) := by decide +kernel
theorem dX4_stepKind_117 : decode cX4_stepKind 117 = .ok (.ireturn, 1) := by decide +kernel
theorem dX4_stepKind_111 : decode cX4_stepKind 111 = .ok (.bipush 7, 2) := by decide +kernel
theorem dX4_stepKind_113 : decode cX4_stepKind 113 = .ok (.goto 4, 3) := by decide +kernel
theorem dX4_stepKind_96 : decode cX4_stepKind 96 = .ok (.bipush 6, 2) := by decide +kernel
theorem dX4_stepKind_98 : decode cX4_stepKind 98 = .ok (.ireturn, 1) := by decide +kernel
theorem dX4_stepKind_82 : decode cX4_stepKind 82 = .ok (.iconst 5, 1) := by decide +kernel
theorem dX4_stepKind_83 : decode cX4_stepKind 83 = .ok (.ireturn, 1) := by decide +kernel
theorem dX4_stepKind_68 : decode cX4_stepKind 68 = .ok (.iconst 4, 1) := by decide +kernel
theorem dX4_stepKind_69 : decode cX4_stepKind 69 = .ok (.ireturn, 1) := by decide +kernel
theorem dX4_stepKind_54 : decode cX4_stepKind 54 = .ok (.iconst 3, 1) := by decide +kernel
theorem dX4_stepKind_55 : decode cX4_stepKind 55 = .ok (.ireturn, 1) := by decide +kernel
theorem dX4_stepKind_40 : decode cX4_stepKind 40 = .ok (.iconst 2, 1) := by decide +kernel
theorem dX4_stepKind_41 : decode cX4_stepKind 41 = .ok (.ireturn, 1) := by decide +kernel
theorem dX4_stepKind_26 : decode cX4_stepKind 26 = .ok (.iconst 1, 1) := by decide +kernel
theorem dX4_stepKind_27 : decode cX4_stepKind 27 = .ok (.ireturn, 1) := by decide +kernel
theorem dX4_stepKind_12 : decode cX4_stepKind 12 = .ok (.iconst 0, 1) := by decide +kernel
theorem dX4_stepKind_13 : decode cX4_stepKind 13 = .ok (.ireturn, 1) := by decide +kernel

def ow_r_refuse : List Cond := [.fieldLink RX4 18 "NearEnough$Reader" "fault" "I", .fieldLink RX4 22 "NearEnough$Reader" "faultPlace" "I"]
def vs_r_refuse : List Cond := .code yX4_refuse cX4_refuse 3 none :: (ow_r_refuse ++ (wsX40))
theorem vg_r_refuse : vs_r_refuse.all goodWord = true := by decide +kernel
theorem dd_r_refuse : yX4_refuse.cls = RX4 ∧ yX4_refuse.cls ≠ "java/lang/invoke/MethodHandle" ∧ yX4_refuse.cls ≠ "java/lang/invoke/VarHandle" ∧ (parseMethodDescriptor yX4_refuse.desc).map (fun d => d.parameters.length) = some 2 := by decide +kernel
def rm_r_refuse : Room := { frames := 0, cells := 0, slots := 0, locals := 0 }
set_option maxHeartbeats 4000000 in
set_option maxRecDepth 100000 in
theorem r_refuse (l : Launch) (dC : Nat → ClassId) (dI : Nat → Nat → Nat) (adK adV : Nat → Nat) (κ : CE) (sz : Nat) (σ : MS) (x : Int32) (y : Int32) (hk : PInv κ) (hI : RInv σ) (hx0 : x.toInt ≠ 0) : Met l yX4_refuse vs_r_refuse rm_r_refuse (va_Pc [.ref (kA κ 0), .int x, .int y] (wSr dC dI adK adV (rW κ σ) (rT κ) sz)) (va_Qv (fun (τ : MS) => RInv τ ∧ ((τ.1 1).toInt ≠ 0)) (fun (τ : MS) => wEn dC dI (va_A (rW κ σ) sz) (rW κ τ) []) (va_A (rW κ σ) sz)) 0 0 (va_A (rW κ σ) sz) := by
  refine Met.ofW (cc := cX4_refuse) (maxL := 3) (ret := none) (by decide +kernel) rfl ?_
  intro p e s m args below meth c s₁ B hml hv
  obtain ⟨rfl, ⟨hsz, hP, hK, hD0, hE⟩, hZ, hR⟩ := hv
  have hx := B.exec
  have hb := B.bytes
  have hr := B.returns
  have hts := atoms_spec (ws := vs_r_refuse) B.pre
  have hown : s.vm.findClass RX4 = some m.cls := findClass_of_methodNamed B.named
  have hlocks := B.notSynchronized
  subst hsz
  have hD := hD0.self (sz := s.heap.size)
  generalize hAe : va_A (rW κ σ) s.heap.size = A at hD hZ ⊢
  have hA : ∀ q : Nat, s.heap.size ≤ q → A q := fun q h => by rw [← hAe]; exact Or.inr h
  have hl := lv_entry ([.ref (kA κ 0), .int x, .int y]) (n := 3) (Nat.le_of_ble_eq_true rfl)
  rw [lg_entry_eq]
  generalize (lg_sl ([.ref (kA κ 0), .int x, .int y]) ++ List.replicate (3 - (lg_sl ([.ref (kA κ 0), .int x, .int y])).length) Slot.unset).toArray = ls at hl ⊢
  have hl : lv_has ls 3 [(0, .ref (kA κ 0)), (1, .int x), (2, .int y)] := hl
  have ho := fun w (h : w ∈ ow_r_refuse) => hts w (List.mem_cons_of_mem _ (List.mem_append_left _ h))
  have hin4 : ∀ w ∈ u_ws RX4 TX4 4, w ∈ vs_r_refuse := fun w h => (List.mem_cons_of_mem _ (List.mem_append_right _ h))
  refine zQ (fun Q hQ => ?_)
  refine zH (A := A) (ws := (rW κ σ)) (fun H hP hS => ?_) hP
  have hk0 := hk.1
  have hk1 := hk.2.1
  have hk2 := hk.2.2.1
  refine lv_aload_n hx hb dX4_refuse_0 rfl (lv_at hl 0 rfl) ?_
  refine va_get (D := (dC, dI)) (ci := 4) (v := .int (σ.1 1)) (C := RX4) (T := TX4) (N := 4) hx hb hts hin4 hown hK hP 0 rfl rfl 2 (Nat.le_of_ble_eq_true rfl) (ho (.fieldLink RX4 18 "NearEnough$Reader" "fault" "I") (List.mem_of_getElem? (i := 0) rfl)) (fun _ h9 => h9) rfl dX4_refuse_1 ?_
  refine lv_if_ne (tgt := 17) hx hb dX4_refuse_4 rfl (fun c1_ => ?_) (fun c1_ => ?_)
  · have tc1_ := (show (σ.1 1).toInt ≠ 0 from ti_ne rfl rg_11 c1_)
    have o1 : (σ.1 1).toInt ≠ 0 := by omega
    rw [hQ]
    exact W.vret hx hb hr (fun t ht hW => ⟨⟨σ, rfl, ⟨hI, o1⟩, wEn_of hP (hK.sub [] rfl) hD ht hW⟩, hS.F ht⟩) hS.2.2 dX4_refuse_17
  · have tc1_ := (show (σ.1 1).toInt = 0 from ti_eq rfl rg_11 c1_)
    refine lv_aload_n hx hb dX4_refuse_7 rfl (lv_at hl 0 rfl) ?_
    refine lv_iload_n hx hb dX4_refuse_8 rfl (lv_at hl 1 rfl) ?_
    refine va_put (D := (dC, dI)) (ci := 4) (v := .int x) (ty := tyX4 2) (C := RX4) (T := TX4) (N := 4) hx hb hts hin4 tyX4 tyX4_ok nmX4 hown hK hP hD hS 0 rfl rfl 2 (Nat.le_of_ble_eq_true rfl) (ho (.fieldLink RX4 18 "NearEnough$Reader" "fault" "I") (List.mem_of_getElem? (i := 0) rfl)) (fun _ h9 => h9) rfl (tyX4_ok 2 (Nat.le_of_ble_eq_true rfl)) rfl rfl (Nat.le_of_ble_eq_true rfl) dX4_refuse_9 (fun H locs hP hD hS => ?_)
    have hP : va_P (dC, dI) vwCl (rW κ (sI σ 1 x)) H := hP
    have hD : va_D A (rW κ (sI σ 1 x)) := hD
    refine lv_aload_n hx hb dX4_refuse_12 rfl (lv_at hl 0 rfl) ?_
    refine lv_iload_n hx hb dX4_refuse_13 rfl (lv_at hl 2 rfl) ?_
    refine va_put (D := (dC, dI)) (ci := 4) (v := .int y) (ty := tyX4 3) (C := RX4) (T := TX4) (N := 4) hx hb hts hin4 tyX4 tyX4_ok nmX4 hown hK hP hD hS 0 rfl rfl 3 (Nat.le_of_ble_eq_true rfl) (ho (.fieldLink RX4 22 "NearEnough$Reader" "faultPlace" "I") (List.mem_of_getElem? (i := 1) rfl)) (fun _ h9 => h9) rfl (tyX4_ok 3 (Nat.le_of_ble_eq_true rfl)) rfl rfl (Nat.le_of_ble_eq_true rfl) dX4_refuse_14 (fun H locs hP hD hS => ?_)
    have hP : va_P (dC, dI) vwCl (rW κ (sI (sI σ 1 x) 2 y)) H := hP
    have hD : va_D A (rW κ (sI (sI σ 1 x) 2 y)) := hD
    have o2 : x.toInt ≠ 0 := by omega
    rw [hQ]
    exact W.vret hx hb hr (fun t ht hW => ⟨⟨(sI (sI σ 1 x) 2 y), rfl, ⟨(RInv.sI (k := 2) (v := y) (RInv.sI (k := 1) (v := x) hI (Inv.any x)) (Inv.any y)), o2⟩, wEn_of hP (hK.sub [] rfl) hD ht hW⟩, hS.F ht⟩) hS.2.2 dX4_refuse_17
def ow_r_expects : List Cond := [.fieldLink RX4 18 "NearEnough$Reader" "fault" "I", .fieldLink RX4 30 "NearEnough$Reader" "scanner" "LNearEnough$Scanner;", .fieldLink RX4 37 "NearEnough$Scanner" "kind" "I", .fieldLink RX4 61 "NearEnough$Scanner" "place" "I", .fieldLink RX4 22 "NearEnough$Reader" "faultPlace" "I"]
def vs_r_expects : List Cond := .code yX4_expects cX4_expects 2 (some .boolean) :: (ow_r_expects ++ (wsX40 ++ (wsX60)))
theorem vg_r_expects : vs_r_expects.all goodWord = true := by decide +kernel
theorem dd_r_expects : yX4_expects.cls = RX4 ∧ yX4_expects.cls ≠ "java/lang/invoke/MethodHandle" ∧ yX4_expects.cls ≠ "java/lang/invoke/VarHandle" ∧ (parseMethodDescriptor yX4_expects.desc).map (fun d => d.parameters.length) = some 1 := by decide +kernel
def rm_r_expects : Room := { frames := 0, cells := 0, slots := 0, locals := 0 }
set_option maxHeartbeats 4000000 in
set_option maxRecDepth 100000 in
theorem r_expects (l : Launch) (dC : Nat → ClassId) (dI : Nat → Nat → Nat) (adK adV : Nat → Nat) (κ : CE) (sz : Nat) (σ : MS) (x : Int32) (hk : PInv κ) (hI : RInv σ)  : Met l yX4_expects vs_r_expects rm_r_expects (va_Pc [.ref (kA κ 0), .int x] (wSr dC dI adK adV (rW κ σ) (rT κ) sz)) (va_Qi (fun (r : Int32) (τ : MS) => RInv τ ∧ (((σ.1 1).toInt = 0 ∨ (τ.1 1).toInt ≠ 0) ∧ ((r.toInt = 1 ∧ (τ.1 1).toInt = 0) ∨ (r.toInt = 0 ∧ (τ.1 1).toInt ≠ 0)))) (fun (τ : MS) => wEn dC dI (va_A (rW κ σ) sz) (rW κ τ) []) (va_A (rW κ σ) sz)) 0 0 (va_A (rW κ σ) sz) := by
  refine Met.ofW (cc := cX4_expects) (maxL := 2) (ret := (some .boolean)) (by decide +kernel) rfl ?_
  intro p e s m args below meth c s₁ B hml hv
  obtain ⟨rfl, ⟨hsz, hP, hK, hD0, hE⟩, hZ, hR⟩ := hv
  have hx := B.exec
  have hb := B.bytes
  have hr := B.returns
  have hts := atoms_spec (ws := vs_r_expects) B.pre
  have hown : s.vm.findClass RX4 = some m.cls := findClass_of_methodNamed B.named
  have hlocks := B.notSynchronized
  subst hsz
  have hD := hD0.self (sz := s.heap.size)
  generalize hAe : va_A (rW κ σ) s.heap.size = A at hD hZ ⊢
  have hA : ∀ q : Nat, s.heap.size ≤ q → A q := fun q h => by rw [← hAe]; exact Or.inr h
  have hl := lv_entry ([.ref (kA κ 0), .int x]) (n := 2) (Nat.le_of_ble_eq_true rfl)
  rw [lg_entry_eq]
  generalize (lg_sl ([.ref (kA κ 0), .int x]) ++ List.replicate (2 - (lg_sl ([.ref (kA κ 0), .int x])).length) Slot.unset).toArray = ls at hl ⊢
  have hl : lv_has ls 2 [(0, .ref (kA κ 0)), (1, .int x)] := hl
  have ho := fun w (h : w ∈ ow_r_expects) => hts w (List.mem_cons_of_mem _ (List.mem_append_left _ h))
  have hin4 : ∀ w ∈ u_ws RX4 TX4 4, w ∈ vs_r_expects := fun w h => (List.mem_cons_of_mem _ (List.mem_append_right _ (List.mem_append_left _ h)))
  have hin6 : ∀ w ∈ u_ws RX6 TX6 7, w ∈ vs_r_expects := fun w h => (List.mem_cons_of_mem _ (List.mem_append_right _ (List.mem_append_right _ h)))
  refine zQ (fun Q hQ => ?_)
  refine zH (A := A) (ws := (rW κ σ)) (fun H hP hS => ?_) hP
  have hk0 := hk.1
  have hk1 := hk.2.1
  have hk2 := hk.2.2.1
  refine lv_aload_n hx hb dX4_expects_0 rfl (lv_at hl 0 rfl) ?_
  refine va_get (D := (dC, dI)) (ci := 4) (v := .int (σ.1 1)) (C := RX4) (T := TX4) (N := 4) hx hb hts hin4 hown hK hP 0 rfl rfl 2 (Nat.le_of_ble_eq_true rfl) (ho (.fieldLink RX4 18 "NearEnough$Reader" "fault" "I") (List.mem_of_getElem? (i := 0) rfl)) (fun _ h9 => h9) rfl dX4_expects_1 ?_
  refine lv_if_ne (tgt := 48) hx hb dX4_expects_4 rfl (fun c1_ => ?_) (fun c1_ => ?_)
  · have tc1_ := (show (σ.1 1).toInt ≠ 0 from ti_ne rfl rg_11 c1_)
    refine lv_aload_n hx hb dX4_expects_48 rfl (lv_at hl 0 rfl) ?_
    refine va_get (D := (dC, dI)) (ci := 4) (v := .int (σ.1 1)) (C := RX4) (T := TX4) (N := 4) hx hb hts hin4 hown hK hP 0 rfl rfl 2 (Nat.le_of_ble_eq_true rfl) (ho (.fieldLink RX4 18 "NearEnough$Reader" "fault" "I") (List.mem_of_getElem? (i := 0) rfl)) (fun _ h9 => h9) rfl dX4_expects_49 ?_
    refine lv_if_ne (tgt := 59) hx hb dX4_expects_52 rfl (fun c2_ => ?_) (fun c2_ => ?_)
    · have tc2_ := (show (σ.1 1).toInt ≠ 0 from ti_ne rfl rg_11 c2_)
      refine lv_iconst (v := 0) hx hb dX4_expects_59 rg_0 ?_
      have kk3_ : (0 : Int32).toInt = 0 := rg_11
      have o1 : ((σ.1 1).toInt = 0 ∨ (σ.1 1).toInt ≠ 0) ∧ (((0 : Int32).toInt = 1 ∧ (σ.1 1).toInt = 0) ∨ ((0 : Int32).toInt = 0 ∧ (σ.1 1).toInt ≠ 0)) := by omega
      rw [hQ]
      exact W.zret (v := 0) hx hb hr rfl (fun t ht hW => ⟨⟨0, σ, rfl, ⟨hI, o1⟩, wEn_of hP (hK.sub [] rfl) hD ht hW⟩, hS.F ht⟩) hS.2.2 dX4_expects_60
    · have tc2_ := (show (σ.1 1).toInt = 0 from ti_eq rfl rg_11 c2_)
      refine lv_iconst (v := 1) hx hb dX4_expects_55 rg_6 ?_
      refine lv_goto (tgt := 60) hx hb dX4_expects_56 rfl ?_
      have kk4_ : (1 : Int32).toInt = 1 := rg_18
      have o2 : ((σ.1 1).toInt = 0 ∨ (σ.1 1).toInt ≠ 0) ∧ (((1 : Int32).toInt = 1 ∧ (σ.1 1).toInt = 0) ∨ ((1 : Int32).toInt = 0 ∧ (σ.1 1).toInt ≠ 0)) := by omega
      rw [hQ]
      exact W.zret (v := 1) hx hb hr rfl (fun t ht hW => ⟨⟨1, σ, rfl, ⟨hI, o2⟩, wEn_of hP (hK.sub [] rfl) hD ht hW⟩, hS.F ht⟩) hS.2.2 dX4_expects_60
  · have tc1_ := (show (σ.1 1).toInt = 0 from ti_eq rfl rg_11 c1_)
    refine lv_aload_n hx hb dX4_expects_7 rfl (lv_at hl 0 rfl) ?_
    refine va_get (D := (dC, dI)) (ci := 4) (v := .ref (kA κ 1)) (C := RX4) (T := TX4) (N := 4) hx hb hts hin4 hown hK hP 0 rfl rfl 0 (Nat.le_of_ble_eq_true rfl) (ho (.fieldLink RX4 30 "NearEnough$Reader" "scanner" "LNearEnough$Scanner;") (List.mem_of_getElem? (i := 1) rfl)) (fun _ h9 => h9) rfl dX4_expects_8 ?_
    refine va_get (D := (dC, dI)) (ci := 6) (v := .int (σ.1 4)) (C := RX6) (T := TX6) (N := 7) hx hb hts hin6 hown hK hP 1 rfl rfl 3 (Nat.le_of_ble_eq_true rfl) (ho (.fieldLink RX4 37 "NearEnough$Scanner" "kind" "I") (List.mem_of_getElem? (i := 2) rfl)) (fun _ h9 => h9) rfl dX4_expects_11 ?_
    refine lv_iload_n hx hb dX4_expects_14 rfl (lv_at hl 1 rfl) ?_
    refine lv_icmp_eq (tgt := 48) hx hb dX4_expects_15 rfl (fun c5_ => ?_) (fun c5_ => ?_)
    · have tc5_ := (show (σ.1 4).toInt = x.toInt from ti_eq rfl rfl c5_)
      refine lv_aload_n hx hb dX4_expects_48 rfl (lv_at hl 0 rfl) ?_
      refine va_get (D := (dC, dI)) (ci := 4) (v := .int (σ.1 1)) (C := RX4) (T := TX4) (N := 4) hx hb hts hin4 hown hK hP 0 rfl rfl 2 (Nat.le_of_ble_eq_true rfl) (ho (.fieldLink RX4 18 "NearEnough$Reader" "fault" "I") (List.mem_of_getElem? (i := 0) rfl)) (fun _ h9 => h9) rfl dX4_expects_49 ?_
      refine lv_if_ne (tgt := 59) hx hb dX4_expects_52 rfl (fun c6_ => ?_) (fun c6_ => ?_)
      · have tc6_ := (show (σ.1 1).toInt ≠ 0 from ti_ne rfl rg_11 c6_)
        refine lv_iconst (v := 0) hx hb dX4_expects_59 rg_0 ?_
        have kk7_ : (0 : Int32).toInt = 0 := rg_11
        have o3 : ((σ.1 1).toInt = 0 ∨ (σ.1 1).toInt ≠ 0) ∧ (((0 : Int32).toInt = 1 ∧ (σ.1 1).toInt = 0) ∨ ((0 : Int32).toInt = 0 ∧ (σ.1 1).toInt ≠ 0)) := by omega
        rw [hQ]
        exact W.zret (v := 0) hx hb hr rfl (fun t ht hW => ⟨⟨0, σ, rfl, ⟨hI, o3⟩, wEn_of hP (hK.sub [] rfl) hD ht hW⟩, hS.F ht⟩) hS.2.2 dX4_expects_60
      · have tc6_ := (show (σ.1 1).toInt = 0 from ti_eq rfl rg_11 c6_)
        refine lv_iconst (v := 1) hx hb dX4_expects_55 rg_6 ?_
        refine lv_goto (tgt := 60) hx hb dX4_expects_56 rfl ?_
        have kk8_ : (1 : Int32).toInt = 1 := rg_18
        have o4 : ((σ.1 1).toInt = 0 ∨ (σ.1 1).toInt ≠ 0) ∧ (((1 : Int32).toInt = 1 ∧ (σ.1 1).toInt = 0) ∨ ((1 : Int32).toInt = 0 ∧ (σ.1 1).toInt ≠ 0)) := by omega
        rw [hQ]
        exact W.zret (v := 1) hx hb hr rfl (fun t ht hW => ⟨⟨1, σ, rfl, ⟨hI, o4⟩, wEn_of hP (hK.sub [] rfl) hD ht hW⟩, hS.F ht⟩) hS.2.2 dX4_expects_60
    · have tc5_ := (show (σ.1 4).toInt ≠ x.toInt from ti_ne rfl rfl c5_)
      refine lv_aload_n hx hb dX4_expects_18 rfl (lv_at hl 0 rfl) ?_
      refine lv_aload_n hx hb dX4_expects_19 rfl (lv_at hl 0 rfl) ?_
      refine va_get (D := (dC, dI)) (ci := 4) (v := .ref (kA κ 1)) (C := RX4) (T := TX4) (N := 4) hx hb hts hin4 hown hK hP 0 rfl rfl 0 (Nat.le_of_ble_eq_true rfl) (ho (.fieldLink RX4 30 "NearEnough$Reader" "scanner" "LNearEnough$Scanner;") (List.mem_of_getElem? (i := 1) rfl)) (fun _ h9 => h9) rfl dX4_expects_20 ?_
      refine va_get (D := (dC, dI)) (ci := 6) (v := .int (σ.1 4)) (C := RX6) (T := TX6) (N := 7) hx hb hts hin6 hown hK hP 1 rfl rfl 3 (Nat.le_of_ble_eq_true rfl) (ho (.fieldLink RX4 37 "NearEnough$Scanner" "kind" "I") (List.mem_of_getElem? (i := 2) rfl)) (fun _ h9 => h9) rfl dX4_expects_23 ?_
      refine lv_if_ne (tgt := 33) hx hb dX4_expects_26 rfl (fun c9_ => ?_) (fun c9_ => ?_)
      · have tc9_ := (show (σ.1 4).toInt ≠ 0 from ti_ne rfl rg_11 c9_)
        refine lv_iconst (v := 2) hx hb dX4_expects_33 rg_19 ?_
        refine va_put (D := (dC, dI)) (ci := 4) (v := .int 2) (ty := tyX4 2) (C := RX4) (T := TX4) (N := 4) hx hb hts hin4 tyX4 tyX4_ok nmX4 hown hK hP hD hS 0 rfl rfl 2 (Nat.le_of_ble_eq_true rfl) (ho (.fieldLink RX4 18 "NearEnough$Reader" "fault" "I") (List.mem_of_getElem? (i := 0) rfl)) (fun _ h9 => h9) rfl (tyX4_ok 2 (Nat.le_of_ble_eq_true rfl)) rfl rfl (Nat.le_of_ble_eq_true rfl) dX4_expects_34 (fun H locs hP hD hS => ?_)
        have hP : va_P (dC, dI) vwCl (rW κ (sI σ 1 2)) H := hP
        have hD : va_D A (rW κ (sI σ 1 2)) := hD
        refine lv_aload_n hx hb dX4_expects_37 rfl (lv_at hl 0 rfl) ?_
        refine lv_aload_n hx hb dX4_expects_38 rfl (lv_at hl 0 rfl) ?_
        refine va_get (D := (dC, dI)) (ci := 4) (v := .ref (kA κ 1)) (C := RX4) (T := TX4) (N := 4) hx hb hts hin4 hown hK hP 0 rfl rfl 0 (Nat.le_of_ble_eq_true rfl) (ho (.fieldLink RX4 30 "NearEnough$Reader" "scanner" "LNearEnough$Scanner;") (List.mem_of_getElem? (i := 1) rfl)) (fun _ h9 => h9) rfl dX4_expects_39 ?_
        have bσ_5 : 0 ≤ (σ.1 5).toInt ∧ (σ.1 5).toInt ≤ 1000 := hI 5
        refine va_get (D := (dC, dI)) (ci := 6) (v := .int (σ.1 5)) (C := RX6) (T := TX6) (N := 7) hx hb hts hin6 hown hK hP 1 rfl rfl 4 (Nat.le_of_ble_eq_true rfl) (ho (.fieldLink RX4 61 "NearEnough$Scanner" "place" "I") (List.mem_of_getElem? (i := 3) rfl)) (fun _ h9 => h9) rfl dX4_expects_42 ?_
        refine va_put (D := (dC, dI)) (ci := 4) (v := .int (σ.1 5)) (ty := tyX4 3) (C := RX4) (T := TX4) (N := 4) hx hb hts hin4 tyX4 tyX4_ok nmX4 hown hK hP hD hS 0 rfl rfl 3 (Nat.le_of_ble_eq_true rfl) (ho (.fieldLink RX4 22 "NearEnough$Reader" "faultPlace" "I") (List.mem_of_getElem? (i := 4) rfl)) (fun _ h9 => h9) rfl (tyX4_ok 3 (Nat.le_of_ble_eq_true rfl)) rfl rfl (Nat.le_of_ble_eq_true rfl) dX4_expects_45 (fun H locs hP hD hS => ?_)
        have hP : va_P (dC, dI) vwCl (rW κ (sI (sI σ 1 2) 2 (σ.1 5))) H := hP
        have hD : va_D A (rW κ (sI (sI σ 1 2) 2 (σ.1 5))) := hD
        refine lv_aload_n hx hb dX4_expects_48 rfl (lv_at hl 0 rfl) ?_
        refine va_get (D := (dC, dI)) (ci := 4) (v := .int 2) (C := RX4) (T := TX4) (N := 4) hx hb hts hin4 hown hK hP 0 rfl rfl 2 (Nat.le_of_ble_eq_true rfl) (ho (.fieldLink RX4 18 "NearEnough$Reader" "fault" "I") (List.mem_of_getElem? (i := 0) rfl)) (fun _ h9 => h9) rfl dX4_expects_49 ?_
        refine lv_if_ne (tgt := 59) hx hb dX4_expects_52 rfl (fun _ => ?_) (fun cc => absurd cc (by decide))
        refine lv_iconst (v := 0) hx hb dX4_expects_59 rg_0 ?_
        have kk10_ : (0 : Int32).toInt = 0 := rg_11
        have kk11_ : (2 : Int32).toInt = 2 := rg_20
        have kk12_ : (2 : Int32).toInt = 2 := rg_20
        have kk13_ : (2 : Int32).toInt = 2 := rg_20
        have o5 : ((σ.1 1).toInt = 0 ∨ (2 : Int32).toInt ≠ 0) ∧ (((0 : Int32).toInt = 1 ∧ (2 : Int32).toInt = 0) ∨ ((0 : Int32).toInt = 0 ∧ (2 : Int32).toInt ≠ 0)) := by omega
        rw [hQ]
        exact W.zret (v := 0) hx hb hr rfl (fun t ht hW => ⟨⟨0, (sI (sI σ 1 2) 2 (σ.1 5)), rfl, ⟨(RInv.sI (k := 2) (v := (σ.1 5)) (RInv.sI (k := 1) (v := 2) hI (Inv.any 2)) (Inv.any (σ.1 5))), o5⟩, wEn_of hP (hK.sub [] rfl) hD ht hW⟩, hS.F ht⟩) hS.2.2 dX4_expects_60
      · have tc9_ := (show (σ.1 4).toInt = 0 from ti_eq rfl rg_11 c9_)
        refine lv_iconst (v := 1) hx hb dX4_expects_29 rg_6 ?_
        refine lv_goto (tgt := 34) hx hb dX4_expects_30 rfl ?_
        refine va_put (D := (dC, dI)) (ci := 4) (v := .int 1) (ty := tyX4 2) (C := RX4) (T := TX4) (N := 4) hx hb hts hin4 tyX4 tyX4_ok nmX4 hown hK hP hD hS 0 rfl rfl 2 (Nat.le_of_ble_eq_true rfl) (ho (.fieldLink RX4 18 "NearEnough$Reader" "fault" "I") (List.mem_of_getElem? (i := 0) rfl)) (fun _ h9 => h9) rfl (tyX4_ok 2 (Nat.le_of_ble_eq_true rfl)) rfl rfl (Nat.le_of_ble_eq_true rfl) dX4_expects_34 (fun H locs hP hD hS => ?_)
        have hP : va_P (dC, dI) vwCl (rW κ (sI σ 1 1)) H := hP
        have hD : va_D A (rW κ (sI σ 1 1)) := hD
        refine lv_aload_n hx hb dX4_expects_37 rfl (lv_at hl 0 rfl) ?_
        refine lv_aload_n hx hb dX4_expects_38 rfl (lv_at hl 0 rfl) ?_
        refine va_get (D := (dC, dI)) (ci := 4) (v := .ref (kA κ 1)) (C := RX4) (T := TX4) (N := 4) hx hb hts hin4 hown hK hP 0 rfl rfl 0 (Nat.le_of_ble_eq_true rfl) (ho (.fieldLink RX4 30 "NearEnough$Reader" "scanner" "LNearEnough$Scanner;") (List.mem_of_getElem? (i := 1) rfl)) (fun _ h9 => h9) rfl dX4_expects_39 ?_
        have bσ_5 : 0 ≤ (σ.1 5).toInt ∧ (σ.1 5).toInt ≤ 1000 := hI 5
        refine va_get (D := (dC, dI)) (ci := 6) (v := .int (σ.1 5)) (C := RX6) (T := TX6) (N := 7) hx hb hts hin6 hown hK hP 1 rfl rfl 4 (Nat.le_of_ble_eq_true rfl) (ho (.fieldLink RX4 61 "NearEnough$Scanner" "place" "I") (List.mem_of_getElem? (i := 3) rfl)) (fun _ h9 => h9) rfl dX4_expects_42 ?_
        refine va_put (D := (dC, dI)) (ci := 4) (v := .int (σ.1 5)) (ty := tyX4 3) (C := RX4) (T := TX4) (N := 4) hx hb hts hin4 tyX4 tyX4_ok nmX4 hown hK hP hD hS 0 rfl rfl 3 (Nat.le_of_ble_eq_true rfl) (ho (.fieldLink RX4 22 "NearEnough$Reader" "faultPlace" "I") (List.mem_of_getElem? (i := 4) rfl)) (fun _ h9 => h9) rfl (tyX4_ok 3 (Nat.le_of_ble_eq_true rfl)) rfl rfl (Nat.le_of_ble_eq_true rfl) dX4_expects_45 (fun H locs hP hD hS => ?_)
        have hP : va_P (dC, dI) vwCl (rW κ (sI (sI σ 1 1) 2 (σ.1 5))) H := hP
        have hD : va_D A (rW κ (sI (sI σ 1 1) 2 (σ.1 5))) := hD
        refine lv_aload_n hx hb dX4_expects_48 rfl (lv_at hl 0 rfl) ?_
        refine va_get (D := (dC, dI)) (ci := 4) (v := .int 1) (C := RX4) (T := TX4) (N := 4) hx hb hts hin4 hown hK hP 0 rfl rfl 2 (Nat.le_of_ble_eq_true rfl) (ho (.fieldLink RX4 18 "NearEnough$Reader" "fault" "I") (List.mem_of_getElem? (i := 0) rfl)) (fun _ h9 => h9) rfl dX4_expects_49 ?_
        refine lv_if_ne (tgt := 59) hx hb dX4_expects_52 rfl (fun _ => ?_) (fun cc => absurd cc (by decide))
        refine lv_iconst (v := 0) hx hb dX4_expects_59 rg_0 ?_
        have kk14_ : (0 : Int32).toInt = 0 := rg_11
        have kk15_ : (1 : Int32).toInt = 1 := rg_18
        have kk16_ : (1 : Int32).toInt = 1 := rg_18
        have kk17_ : (1 : Int32).toInt = 1 := rg_18
        have o6 : ((σ.1 1).toInt = 0 ∨ (1 : Int32).toInt ≠ 0) ∧ (((0 : Int32).toInt = 1 ∧ (1 : Int32).toInt = 0) ∨ ((0 : Int32).toInt = 0 ∧ (1 : Int32).toInt ≠ 0)) := by omega
        rw [hQ]
        exact W.zret (v := 0) hx hb hr rfl (fun t ht hW => ⟨⟨0, (sI (sI σ 1 1) 2 (σ.1 5)), rfl, ⟨(RInv.sI (k := 2) (v := (σ.1 5)) (RInv.sI (k := 1) (v := 1) hI (Inv.any 1)) (Inv.any (σ.1 5))), o6⟩, wEn_of hP (hK.sub [] rfl) hD ht hW⟩, hS.F ht⟩) hS.2.2 dX4_expects_60
def ow_r_pass : List Cond := [.fieldLink RX4 30 "NearEnough$Reader" "scanner" "LNearEnough$Scanner;", .fieldLink RX4 61 "NearEnough$Scanner" "place" "I"]
def vs_r_pass : List Cond := .code yX4_pass cX4_pass 2 none :: (ow_r_pass ++ (([.methodLink RX4 64 yX4_refuse, .instanceMethod yX4_refuse, .selects RX4 yX4_refuse yX4_refuse, .initialized RX4] : List Cond) ++ (vs_r_refuse ++ (([.methodLink RX4 34 yX6_advance, .instanceMethod yX6_advance, .selects RX6 yX6_advance yX6_advance, .initialized RX6] : List Cond) ++ (vs_r_advance ++ (wsX40 ++ (wsX60)))))))
theorem vg_r_pass : vs_r_pass.all goodWord = true := by decide +kernel
theorem dd_r_pass : yX4_pass.cls = RX4 ∧ yX4_pass.cls ≠ "java/lang/invoke/MethodHandle" ∧ yX4_pass.cls ≠ "java/lang/invoke/VarHandle" ∧ (parseMethodDescriptor yX4_pass.desc).map (fun d => d.parameters.length) = some 1 := by decide +kernel
def rm_r_pass : Room := { frames := 2, cells := 0, slots := 0, locals := 41 }
theorem gd_r_pass_64_r_refuse : GoodIn vs_r_pass (wsV RX4 64 RX4 yX4_refuse vs_r_refuse) := goodIn_app (goodIn_sub (fun w h => (List.mem_cons_of_mem _ (List.mem_append_right _ (List.mem_append_left _ h)))) (by decide +kernel)) (goodIn_sub (fun w h => (List.mem_cons_of_mem _ (List.mem_append_right _ (List.mem_append_right _ (List.mem_append_left _ h))))) vg_r_refuse)
theorem gd_r_pass_34_r_advance : GoodIn vs_r_pass (wsV RX4 34 RX6 yX6_advance vs_r_advance) := goodIn_app (goodIn_sub (fun w h => (List.mem_cons_of_mem _ (List.mem_append_right _ (List.mem_append_right _ (List.mem_append_right _ (List.mem_append_left _ h)))))) (by decide +kernel)) (goodIn_sub (fun w h => (List.mem_cons_of_mem _ (List.mem_append_right _ (List.mem_append_right _ (List.mem_append_right _ (List.mem_append_right _ (List.mem_append_left _ h))))))) vg_r_advance)
set_option maxHeartbeats 4000000 in
set_option maxRecDepth 100000 in
theorem r_pass (l : Launch) (dC : Nat → ClassId) (dI : Nat → Nat → Nat) (adK adV : Nat → Nat) (κ : CE) (sz : Nat) (σ : MS) (x : Int32) (hk : PInv κ) (hI : RInv σ)  : Met l yX4_pass vs_r_pass rm_r_pass (va_Pc [.ref (kA κ 0), .int x] (wSr dC dI adK adV (rW κ σ) (rT κ) sz)) (va_Qv (fun (τ : MS) => RInv τ ∧ (((σ.1 1).toInt = 0 ∨ (τ.1 1).toInt ≠ 0))) (fun (τ : MS) => wEn dC dI (va_A (rW κ σ) sz) (rW κ τ) []) (va_A (rW κ σ) sz)) 0 0 (va_A (rW κ σ) sz) := by
  refine Met.ofW (cc := cX4_pass) (maxL := 2) (ret := none) (by decide +kernel) rfl ?_
  intro p e s m args below meth c s₁ B hml hv
  obtain ⟨rfl, ⟨hsz, hP, hK, hD0, hE⟩, hZ, hR⟩ := hv
  have hx := B.exec
  have hb := B.bytes
  have hr := B.returns
  have hts := atoms_spec (ws := vs_r_pass) B.pre
  have hown : s.vm.findClass RX4 = some m.cls := findClass_of_methodNamed B.named
  have hlocks := B.notSynchronized
  subst hsz
  have hD := hD0.self (sz := s.heap.size)
  generalize hAe : va_A (rW κ σ) s.heap.size = A at hD hZ ⊢
  have hA : ∀ q : Nat, s.heap.size ≤ q → A q := fun q h => by rw [← hAe]; exact Or.inr h
  have hl := lv_entry ([.ref (kA κ 0), .int x]) (n := 2) (Nat.le_of_ble_eq_true rfl)
  rw [lg_entry_eq]
  generalize (lg_sl ([.ref (kA κ 0), .int x]) ++ List.replicate (2 - (lg_sl ([.ref (kA κ 0), .int x])).length) Slot.unset).toArray = ls at hl ⊢
  have hl : lv_has ls 2 [(0, .ref (kA κ 0)), (1, .int x)] := hl
  have ho := fun w (h : w ∈ ow_r_pass) => hts w (List.mem_cons_of_mem _ (List.mem_append_left _ h))
  have hin4 : ∀ w ∈ u_ws RX4 TX4 4, w ∈ vs_r_pass := fun w h => (List.mem_cons_of_mem _ (List.mem_append_right _ (List.mem_append_right _ (List.mem_append_right _ (List.mem_append_right _ (List.mem_append_right _ (List.mem_append_left _ h)))))))
  have hin6 : ∀ w ∈ u_ws RX6 TX6 7, w ∈ vs_r_pass := fun w h => (List.mem_cons_of_mem _ (List.mem_append_right _ (List.mem_append_right _ (List.mem_append_right _ (List.mem_append_right _ (List.mem_append_right _ (List.mem_append_right _ h)))))))
  refine zQ (fun Q hQ => ?_)
  refine zH (A := A) (ws := (rW κ σ)) (fun H hP hS => ?_) hP
  have hk0 := hk.1
  have hk1 := hk.2.1
  have hk2 := hk.2.2.1
  refine lv_iload_n hx hb dX4_pass_0 rfl (lv_at hl 1 rfl) ?_
  refine lv_if_eq (tgt := 14) hx hb dX4_pass_1 rfl (fun c1_ => ?_) (fun c1_ => ?_)
  · have tc1_ := (show x.toInt = 0 from ti_eq rfl rg_11 c1_)
    refine lv_aload_n hx hb dX4_pass_14 rfl (lv_at hl 0 rfl) ?_
    refine lv_iconst (v := 2) hx hb dX4_pass_15 rg_19 ?_
    refine lv_aload_n hx hb dX4_pass_16 rfl (lv_at hl 0 rfl) ?_
    refine va_get (D := (dC, dI)) (ci := 4) (v := .ref (kA κ 1)) (C := RX4) (T := TX4) (N := 4) hx hb hts hin4 hown hK hP 0 rfl rfl 0 (Nat.le_of_ble_eq_true rfl) (ho (.fieldLink RX4 30 "NearEnough$Reader" "scanner" "LNearEnough$Scanner;") (List.mem_of_getElem? (i := 0) rfl)) (fun _ h9 => h9) rfl dX4_pass_17 ?_
    have bσ_5 : 0 ≤ (σ.1 5).toInt ∧ (σ.1 5).toInt ≤ 1000 := hI 5
    refine va_get (D := (dC, dI)) (ci := 6) (v := .int (σ.1 5)) (C := RX6) (T := TX6) (N := 7) hx hb hts hin6 hown hK hP 1 rfl rfl 4 (Nat.le_of_ble_eq_true rfl) (ho (.fieldLink RX4 61 "NearEnough$Scanner" "place" "I") (List.mem_of_getElem? (i := 1) rfl)) (fun _ h9 => h9) rfl dX4_pass_20 ?_
    have kk2_ : (2 : Int32).toInt = 2 := rg_20
    refine zy_v (va_runV (As := [.int 2, .int (σ.1 5)]) (rest := []) ⟨hx, hb, hml, hown, hts⟩ (r_refuse l dC dI adK adV κ H.size σ 2 (σ.1 5) hk hI (by decide)) (cwV 2 hts gd_r_pass_64_r_refuse rfl rfl rfl dd_r_refuse ⟨Nat.le_of_ble_eq_true rfl, Nat.le_of_ble_eq_true rfl⟩) (preVr hP hK hD hE hZ hR hS hA (ci := 4) (q0 := 0) rfl rfl) rfl rfl hl.1 rfl (lv_room (Nat.le_of_ble_eq_true rfl)) dX4_pass_23 ⟨Nat.le_of_ble_eq_true rfl, Nat.le_of_ble_eq_true rfl⟩) hD hS hA (fun τ4_ H locs hq hP hD hS => ?_)
    obtain ⟨hτ4_, q5_⟩ := hq
    have q5_ : (τ4_.1 1).toInt ≠ 0 := q5_
    refine W.widen (k := 0) (n := 0) (Nat.le_of_ble_eq_true rfl) (Nat.le_of_ble_eq_true rfl) ?_
    have o1 : ((σ.1 1).toInt = 0 ∨ (τ4_.1 1).toInt ≠ 0) := by omega
    rw [hQ]
    exact W.vret hx hb hr (fun t ht hW => ⟨⟨τ4_, rfl, ⟨hτ4_, o1⟩, wEn_of hP (hK.sub [] rfl) hD ht hW⟩, hS.F ht⟩) hS.2.2 dX4_pass_26
  · have tc1_ := (show x.toInt ≠ 0 from ti_ne rfl rg_11 c1_)
    refine lv_aload_n hx hb dX4_pass_4 rfl (lv_at hl 0 rfl) ?_
    refine va_get (D := (dC, dI)) (ci := 4) (v := .ref (kA κ 1)) (C := RX4) (T := TX4) (N := 4) hx hb hts hin4 hown hK hP 0 rfl rfl 0 (Nat.le_of_ble_eq_true rfl) (ho (.fieldLink RX4 30 "NearEnough$Reader" "scanner" "LNearEnough$Scanner;") (List.mem_of_getElem? (i := 0) rfl)) (fun _ h9 => h9) rfl dX4_pass_5 ?_
    refine zy_v (va_runV (As := []) (rest := []) ⟨hx, hb, hml, hown, hts⟩ (r_advance l dC dI adK adV κ H.size σ  hk hI ) (cwV 0 hts gd_r_pass_34_r_advance rfl rfl rfl dd_r_advance ⟨Nat.le_of_ble_eq_true rfl, Nat.le_of_ble_eq_true rfl⟩) (preVr hP hK hD hE hZ hR hS hA (ci := 6) (q0 := 1) rfl rfl) rfl rfl hl.1 rfl (lv_room (Nat.le_of_ble_eq_true rfl)) dX4_pass_8 ⟨Nat.le_of_ble_eq_true rfl, Nat.le_of_ble_eq_true rfl⟩) hD hS hA (fun τ7_ H locs hq hP hD hS => ?_)
    obtain ⟨hτ7_, q8_⟩ := hq
    have q8_ : (τ7_.1 1).toInt = (σ.1 1).toInt := q8_
    refine W.widen (k := 0) (n := 0) (Nat.le_of_ble_eq_true rfl) (Nat.le_of_ble_eq_true rfl) ?_
    refine lv_goto (tgt := 26) hx hb dX4_pass_11 rfl ?_
    have o2 : ((σ.1 1).toInt = 0 ∨ (τ7_.1 1).toInt ≠ 0) := by omega
    rw [hQ]
    exact W.vret hx hb hr (fun t ht hW => ⟨⟨τ7_, rfl, ⟨hτ7_, o2⟩, wEn_of hP (hK.sub [] rfl) hD ht hW⟩, hS.F ht⟩) hS.2.2 dX4_pass_26
def ow_r_needWord : List Cond := [.fieldLink RX4 30 "NearEnough$Reader" "scanner" "LNearEnough$Scanner;"]
def vs_r_needWord : List Cond := .code yX4_needWord cX4_needWord 2 none :: (ow_r_needWord ++ (([.methodLink RX4 40 yX4_expects, .instanceMethod yX4_expects, .selects RX4 yX4_expects yX4_expects, .initialized RX4] : List Cond) ++ (vs_r_expects ++ (([.methodLink RX4 46 yX6_isOneOf, .instanceMethod yX6_isOneOf, .selects RX6 yX6_isOneOf yX6_isOneOf, .initialized RX6] : List Cond) ++ (vs_r_isOneOf ++ (([.methodLink RX4 68 yX4_pass, .instanceMethod yX4_pass, .selects RX4 yX4_pass yX4_pass, .initialized RX4] : List Cond) ++ (vs_r_pass ++ (wsX40))))))))
theorem vg_r_needWord : vs_r_needWord.all goodWord = true := by decide +kernel
theorem dd_r_needWord : yX4_needWord.cls = RX4 ∧ yX4_needWord.cls ≠ "java/lang/invoke/MethodHandle" ∧ yX4_needWord.cls ≠ "java/lang/invoke/VarHandle" ∧ (parseMethodDescriptor yX4_needWord.desc).map (fun d => d.parameters.length) = some 1 := by decide +kernel
def rm_r_needWord : Room := { frames := 5, cells := 0, slots := 0, locals := 110 }
theorem gd_r_needWord_40_r_expects : GoodIn vs_r_needWord (wsV RX4 40 RX4 yX4_expects vs_r_expects) := goodIn_app (goodIn_sub (fun w h => (List.mem_cons_of_mem _ (List.mem_append_right _ (List.mem_append_left _ h)))) (by decide +kernel)) (goodIn_sub (fun w h => (List.mem_cons_of_mem _ (List.mem_append_right _ (List.mem_append_right _ (List.mem_append_left _ h))))) vg_r_expects)
theorem gd_r_needWord_46_r_isOneOf : GoodIn vs_r_needWord (wsV RX4 46 RX6 yX6_isOneOf vs_r_isOneOf) := goodIn_app (goodIn_sub (fun w h => (List.mem_cons_of_mem _ (List.mem_append_right _ (List.mem_append_right _ (List.mem_append_right _ (List.mem_append_left _ h)))))) (by decide +kernel)) (goodIn_sub (fun w h => (List.mem_cons_of_mem _ (List.mem_append_right _ (List.mem_append_right _ (List.mem_append_right _ (List.mem_append_right _ (List.mem_append_left _ h))))))) vg_r_isOneOf)
theorem gd_r_needWord_68_r_pass : GoodIn vs_r_needWord (wsV RX4 68 RX4 yX4_pass vs_r_pass) := goodIn_app (goodIn_sub (fun w h => (List.mem_cons_of_mem _ (List.mem_append_right _ (List.mem_append_right _ (List.mem_append_right _ (List.mem_append_right _ (List.mem_append_right _ (List.mem_append_left _ h)))))))) (by decide +kernel)) (goodIn_sub (fun w h => (List.mem_cons_of_mem _ (List.mem_append_right _ (List.mem_append_right _ (List.mem_append_right _ (List.mem_append_right _ (List.mem_append_right _ (List.mem_append_right _ (List.mem_append_left _ h))))))))) vg_r_pass)
set_option maxHeartbeats 4000000 in
set_option maxRecDepth 100000 in
theorem r_needWord (l : Launch) (dC : Nat → ClassId) (dI : Nat → Nat → Nat) (adK adV : Nat → Nat) (κ : CE) (sz : Nat) (σ : MS) (sn : Nat) (hsn : sn < 24) (hk : PInv κ) (hI : RInv σ)  : Met l yX4_needWord vs_r_needWord rm_r_needWord (va_Pc [.ref (kA κ 0), .ref (adK sn)] (wSr dC dI adK adV (rW κ σ) (rT κ) sz)) (va_Qv (fun (τ : MS) => RInv τ ∧ (((σ.1 1).toInt = 0 ∨ (τ.1 1).toInt ≠ 0))) (fun (τ : MS) => wEn dC dI (va_A (rW κ σ) sz) (rW κ τ) []) (va_A (rW κ σ) sz)) 0 0 (va_A (rW κ σ) sz) := by
  refine Met.ofW (cc := cX4_needWord) (maxL := 2) (ret := none) (by decide +kernel) rfl ?_
  intro p e s m args below meth c s₁ B hml hv
  obtain ⟨rfl, ⟨hsz, hP, hK, hD0, hE⟩, hZ, hR⟩ := hv
  have hx := B.exec
  have hb := B.bytes
  have hr := B.returns
  have hts := atoms_spec (ws := vs_r_needWord) B.pre
  have hown : s.vm.findClass RX4 = some m.cls := findClass_of_methodNamed B.named
  have hlocks := B.notSynchronized
  subst hsz
  have hD := hD0.self (sz := s.heap.size)
  generalize hAe : va_A (rW κ σ) s.heap.size = A at hD hZ ⊢
  have hA : ∀ q : Nat, s.heap.size ≤ q → A q := fun q h => by rw [← hAe]; exact Or.inr h
  have hl := lv_entry ([.ref (kA κ 0), .ref (adK sn)]) (n := 2) (Nat.le_of_ble_eq_true rfl)
  rw [lg_entry_eq]
  generalize (lg_sl ([.ref (kA κ 0), .ref (adK sn)]) ++ List.replicate (2 - (lg_sl ([.ref (kA κ 0), .ref (adK sn)])).length) Slot.unset).toArray = ls at hl ⊢
  have hl : lv_has ls 2 [(0, .ref (kA κ 0)), (1, .ref (adK sn))] := hl
  have ho := fun w (h : w ∈ ow_r_needWord) => hts w (List.mem_cons_of_mem _ (List.mem_append_left _ h))
  have hin4 : ∀ w ∈ u_ws RX4 TX4 4, w ∈ vs_r_needWord := fun w h => (List.mem_cons_of_mem _ (List.mem_append_right _ (List.mem_append_right _ (List.mem_append_right _ (List.mem_append_right _ (List.mem_append_right _ (List.mem_append_right _ (List.mem_append_right _ h))))))))
  refine zQ (fun Q hQ => ?_)
  refine zH (A := A) (ws := (rW κ σ)) (fun H hP hS => ?_) hP
  have hk0 := hk.1
  have hk1 := hk.2.1
  have hk2 := hk.2.2.1
  refine lv_aload_n hx hb dX4_needWord_0 rfl (lv_at hl 0 rfl) ?_
  refine lv_iconst (v := 1) hx hb dX4_needWord_1 rg_6 ?_
  have kk1_ : (1 : Int32).toInt = 1 := rg_18
  refine zy_i (va_runV (As := [.int 1]) (rest := []) ⟨hx, hb, hml, hown, hts⟩ (r_expects l dC dI adK adV κ H.size σ 1 hk hI ) (cwV 1 hts gd_r_needWord_40_r_expects rfl rfl rfl dd_r_expects ⟨Nat.le_of_ble_eq_true rfl, Nat.le_of_ble_eq_true rfl⟩) (preVr hP hK hD hE hZ hR hS hA (ci := 4) (q0 := 0) rfl rfl) rfl rfl hl.1 rfl (lv_room (Nat.le_of_ble_eq_true rfl)) dX4_needWord_2 ⟨Nat.le_of_ble_eq_true rfl, Nat.le_of_ble_eq_true rfl⟩) hD hS hA (fun z2_ τ3_ H locs hq hP hD hS => ?_)
  obtain ⟨hτ3_, q4_⟩ := hq
  have q4_ : ((σ.1 1).toInt = 0 ∨ (τ3_.1 1).toInt ≠ 0) ∧ ((z2_.toInt = 1 ∧ (τ3_.1 1).toInt = 0) ∨ (z2_.toInt = 0 ∧ (τ3_.1 1).toInt ≠ 0)) := q4_
  refine W.widen (k := 0) (n := 0) (Nat.le_of_ble_eq_true rfl) (Nat.le_of_ble_eq_true rfl) ?_
  refine lv_if_eq (tgt := 20) hx hb dX4_needWord_5 rfl (fun c5_ => ?_) (fun c5_ => ?_)
  · have tc5_ := (show z2_.toInt = 0 from ti_eq rfl rg_11 c5_)
    have o1 : ((σ.1 1).toInt = 0 ∨ (τ3_.1 1).toInt ≠ 0) := by omega
    rw [hQ]
    exact W.vret hx hb hr (fun t ht hW => ⟨⟨τ3_, rfl, ⟨hτ3_, o1⟩, wEn_of hP (hK.sub [] rfl) hD ht hW⟩, hS.F ht⟩) hS.2.2 dX4_needWord_20
  · have tc5_ := (show z2_.toInt ≠ 0 from ti_ne rfl rg_11 c5_)
    refine lv_aload_n hx hb dX4_needWord_8 rfl (lv_at hl 0 rfl) ?_
    refine lv_aload_n hx hb dX4_needWord_9 rfl (lv_at hl 0 rfl) ?_
    refine va_get (D := (dC, dI)) (ci := 4) (v := .ref (kA κ 1)) (C := RX4) (T := TX4) (N := 4) hx hb hts hin4 hown hK hP 0 rfl rfl 0 (Nat.le_of_ble_eq_true rfl) (ho (.fieldLink RX4 30 "NearEnough$Reader" "scanner" "LNearEnough$Scanner;") (List.mem_of_getElem? (i := 0) rfl)) (fun _ h9 => h9) rfl dX4_needWord_10 ?_
    refine lv_aload_n hx hb dX4_needWord_13 rfl (lv_at hl 1 rfl) ?_
    refine zy_i (va_runV (As := [.ref (adK sn)]) (rest := [.ref (kA κ 0)]) ⟨hx, hb, hml, hown, hts⟩ (r_isOneOf l dC dI adK adV κ H.size τ3_ sn hsn hk hτ3_ ) (cwV 1 hts gd_r_needWord_46_r_isOneOf rfl rfl rfl dd_r_isOneOf ⟨Nat.le_of_ble_eq_true rfl, Nat.le_of_ble_eq_true rfl⟩) (preVr hP hK hD hE hZ hR hS hA (ci := 6) (q0 := 1) rfl rfl) rfl rfl hl.1 rfl (lv_room (Nat.le_of_ble_eq_true rfl)) dX4_needWord_14 ⟨Nat.le_of_ble_eq_true rfl, Nat.le_of_ble_eq_true rfl⟩) hD hS hA (fun z6_ τ7_ H locs hq hP hD hS => ?_)
    obtain ⟨hτ7_, q8_⟩ := hq
    rw [hτ7_] at hP hD
    have q8_ : z6_.toInt = 0 ∨ z6_.toInt = 1 := q8_
    refine W.widen (k := 0) (n := 0) (Nat.le_of_ble_eq_true rfl) (Nat.le_of_ble_eq_true rfl) ?_
    refine zy_v (va_runV (As := [.int z6_]) (rest := []) ⟨hx, hb, hml, hown, hts⟩ (r_pass l dC dI adK adV κ H.size τ3_ z6_ hk hτ3_ ) (cwV 1 hts gd_r_needWord_68_r_pass rfl rfl rfl dd_r_pass ⟨Nat.le_of_ble_eq_true rfl, Nat.le_of_ble_eq_true rfl⟩) (preVr hP hK hD hE hZ hR hS hA (ci := 4) (q0 := 0) rfl rfl) rfl rfl hl.1 rfl (lv_room (Nat.le_of_ble_eq_true rfl)) dX4_needWord_17 ⟨Nat.le_of_ble_eq_true rfl, Nat.le_of_ble_eq_true rfl⟩) hD hS hA (fun τ10_ H locs hq hP hD hS => ?_)
    obtain ⟨hτ10_, q11_⟩ := hq
    have q11_ : ((τ3_.1 1).toInt = 0 ∨ (τ10_.1 1).toInt ≠ 0) := q11_
    refine W.widen (k := 0) (n := 0) (Nat.le_of_ble_eq_true rfl) (Nat.le_of_ble_eq_true rfl) ?_
    have o2 : ((σ.1 1).toInt = 0 ∨ (τ10_.1 1).toInt ≠ 0) := by omega
    rw [hQ]
    exact W.vret hx hb hr (fun t ht hW => ⟨⟨τ10_, rfl, ⟨hτ10_, o2⟩, wEn_of hP (hK.sub [] rfl) hD ht hW⟩, hS.F ht⟩) hS.2.2 dX4_needWord_20
def ow_r_needSemi : List Cond := [.fieldLink RX4 30 "NearEnough$Reader" "scanner" "LNearEnough$Scanner;"]
def vs_r_needSemi : List Cond := .code yX4_needSemicolon cX4_needSemicolon 1 none :: (ow_r_needSemi ++ (([.methodLink RX4 40 yX4_expects, .instanceMethod yX4_expects, .selects RX4 yX4_expects yX4_expects, .initialized RX4] : List Cond) ++ (vs_r_expects ++ (([.methodLink RX4 34 yX6_advance, .instanceMethod yX6_advance, .selects RX6 yX6_advance yX6_advance, .initialized RX6] : List Cond) ++ (vs_r_advance ++ (wsX40))))))
theorem vg_r_needSemi : vs_r_needSemi.all goodWord = true := by decide +kernel
theorem dd_r_needSemi : yX4_needSemicolon.cls = RX4 ∧ yX4_needSemicolon.cls ≠ "java/lang/invoke/MethodHandle" ∧ yX4_needSemicolon.cls ≠ "java/lang/invoke/VarHandle" ∧ (parseMethodDescriptor yX4_needSemicolon.desc).map (fun d => d.parameters.length) = some 0 := by decide +kernel
def rm_r_needSemi : Room := { frames := 2, cells := 0, slots := 0, locals := 41 }
theorem gd_r_needSemi_40_r_expects : GoodIn vs_r_needSemi (wsV RX4 40 RX4 yX4_expects vs_r_expects) := goodIn_app (goodIn_sub (fun w h => (List.mem_cons_of_mem _ (List.mem_append_right _ (List.mem_append_left _ h)))) (by decide +kernel)) (goodIn_sub (fun w h => (List.mem_cons_of_mem _ (List.mem_append_right _ (List.mem_append_right _ (List.mem_append_left _ h))))) vg_r_expects)
theorem gd_r_needSemi_34_r_advance : GoodIn vs_r_needSemi (wsV RX4 34 RX6 yX6_advance vs_r_advance) := goodIn_app (goodIn_sub (fun w h => (List.mem_cons_of_mem _ (List.mem_append_right _ (List.mem_append_right _ (List.mem_append_right _ (List.mem_append_left _ h)))))) (by decide +kernel)) (goodIn_sub (fun w h => (List.mem_cons_of_mem _ (List.mem_append_right _ (List.mem_append_right _ (List.mem_append_right _ (List.mem_append_right _ (List.mem_append_left _ h))))))) vg_r_advance)
set_option maxHeartbeats 4000000 in
set_option maxRecDepth 100000 in
theorem r_needSemi (l : Launch) (dC : Nat → ClassId) (dI : Nat → Nat → Nat) (adK adV : Nat → Nat) (κ : CE) (sz : Nat) (σ : MS) (hk : PInv κ) (hI : RInv σ)  : Met l yX4_needSemicolon vs_r_needSemi rm_r_needSemi (va_Pc [.ref (kA κ 0)] (wSr dC dI adK adV (rW κ σ) (rT κ) sz)) (va_Qv (fun (τ : MS) => RInv τ ∧ (((σ.1 1).toInt = 0 ∨ (τ.1 1).toInt ≠ 0))) (fun (τ : MS) => wEn dC dI (va_A (rW κ σ) sz) (rW κ τ) []) (va_A (rW κ σ) sz)) 0 0 (va_A (rW κ σ) sz) := by
  refine Met.ofW (cc := cX4_needSemicolon) (maxL := 1) (ret := none) (by decide +kernel) rfl ?_
  intro p e s m args below meth c s₁ B hml hv
  obtain ⟨rfl, ⟨hsz, hP, hK, hD0, hE⟩, hZ, hR⟩ := hv
  have hx := B.exec
  have hb := B.bytes
  have hr := B.returns
  have hts := atoms_spec (ws := vs_r_needSemi) B.pre
  have hown : s.vm.findClass RX4 = some m.cls := findClass_of_methodNamed B.named
  have hlocks := B.notSynchronized
  subst hsz
  have hD := hD0.self (sz := s.heap.size)
  generalize hAe : va_A (rW κ σ) s.heap.size = A at hD hZ ⊢
  have hA : ∀ q : Nat, s.heap.size ≤ q → A q := fun q h => by rw [← hAe]; exact Or.inr h
  have hl := lv_entry ([.ref (kA κ 0)]) (n := 1) (Nat.le_of_ble_eq_true rfl)
  rw [lg_entry_eq]
  generalize (lg_sl ([.ref (kA κ 0)]) ++ List.replicate (1 - (lg_sl ([.ref (kA κ 0)])).length) Slot.unset).toArray = ls at hl ⊢
  have hl : lv_has ls 1 [(0, .ref (kA κ 0))] := hl
  have ho := fun w (h : w ∈ ow_r_needSemi) => hts w (List.mem_cons_of_mem _ (List.mem_append_left _ h))
  have hin4 : ∀ w ∈ u_ws RX4 TX4 4, w ∈ vs_r_needSemi := fun w h => (List.mem_cons_of_mem _ (List.mem_append_right _ (List.mem_append_right _ (List.mem_append_right _ (List.mem_append_right _ (List.mem_append_right _ h))))))
  refine zQ (fun Q hQ => ?_)
  refine zH (A := A) (ws := (rW κ σ)) (fun H hP hS => ?_) hP
  have hk0 := hk.1
  have hk1 := hk.2.1
  have hk2 := hk.2.2.1
  refine lv_aload_n hx hb dX4_needSemicolon_0 rfl (lv_at hl 0 rfl) ?_
  refine lv_iconst (v := 3) hx hb dX4_needSemicolon_1 rg_16 ?_
  have kk1_ : (3 : Int32).toInt = 3 := rg_17
  refine zy_i (va_runV (As := [.int 3]) (rest := []) ⟨hx, hb, hml, hown, hts⟩ (r_expects l dC dI adK adV κ H.size σ 3 hk hI ) (cwV 1 hts gd_r_needSemi_40_r_expects rfl rfl rfl dd_r_expects ⟨Nat.le_of_ble_eq_true rfl, Nat.le_of_ble_eq_true rfl⟩) (preVr hP hK hD hE hZ hR hS hA (ci := 4) (q0 := 0) rfl rfl) rfl rfl hl.1 rfl (lv_room (Nat.le_of_ble_eq_true rfl)) dX4_needSemicolon_2 ⟨Nat.le_of_ble_eq_true rfl, Nat.le_of_ble_eq_true rfl⟩) hD hS hA (fun z2_ τ3_ H locs hq hP hD hS => ?_)
  obtain ⟨hτ3_, q4_⟩ := hq
  have q4_ : ((σ.1 1).toInt = 0 ∨ (τ3_.1 1).toInt ≠ 0) ∧ ((z2_.toInt = 1 ∧ (τ3_.1 1).toInt = 0) ∨ (z2_.toInt = 0 ∧ (τ3_.1 1).toInt ≠ 0)) := q4_
  refine W.widen (k := 0) (n := 0) (Nat.le_of_ble_eq_true rfl) (Nat.le_of_ble_eq_true rfl) ?_
  refine lv_if_eq (tgt := 15) hx hb dX4_needSemicolon_5 rfl (fun c5_ => ?_) (fun c5_ => ?_)
  · have tc5_ := (show z2_.toInt = 0 from ti_eq rfl rg_11 c5_)
    have o1 : ((σ.1 1).toInt = 0 ∨ (τ3_.1 1).toInt ≠ 0) := by omega
    rw [hQ]
    exact W.vret hx hb hr (fun t ht hW => ⟨⟨τ3_, rfl, ⟨hτ3_, o1⟩, wEn_of hP (hK.sub [] rfl) hD ht hW⟩, hS.F ht⟩) hS.2.2 dX4_needSemicolon_15
  · have tc5_ := (show z2_.toInt ≠ 0 from ti_ne rfl rg_11 c5_)
    refine lv_aload_n hx hb dX4_needSemicolon_8 rfl (lv_at hl 0 rfl) ?_
    refine va_get (D := (dC, dI)) (ci := 4) (v := .ref (kA κ 1)) (C := RX4) (T := TX4) (N := 4) hx hb hts hin4 hown hK hP 0 rfl rfl 0 (Nat.le_of_ble_eq_true rfl) (ho (.fieldLink RX4 30 "NearEnough$Reader" "scanner" "LNearEnough$Scanner;") (List.mem_of_getElem? (i := 0) rfl)) (fun _ h9 => h9) rfl dX4_needSemicolon_9 ?_
    refine zy_v (va_runV (As := []) (rest := []) ⟨hx, hb, hml, hown, hts⟩ (r_advance l dC dI adK adV κ H.size τ3_  hk hτ3_ ) (cwV 0 hts gd_r_needSemi_34_r_advance rfl rfl rfl dd_r_advance ⟨Nat.le_of_ble_eq_true rfl, Nat.le_of_ble_eq_true rfl⟩) (preVr hP hK hD hE hZ hR hS hA (ci := 6) (q0 := 1) rfl rfl) rfl rfl hl.1 rfl (lv_room (Nat.le_of_ble_eq_true rfl)) dX4_needSemicolon_12 ⟨Nat.le_of_ble_eq_true rfl, Nat.le_of_ble_eq_true rfl⟩) hD hS hA (fun τ7_ H locs hq hP hD hS => ?_)
    obtain ⟨hτ7_, q8_⟩ := hq
    have q8_ : (τ7_.1 1).toInt = (τ3_.1 1).toInt := q8_
    refine W.widen (k := 0) (n := 0) (Nat.le_of_ble_eq_true rfl) (Nat.le_of_ble_eq_true rfl) ?_
    have o2 : ((σ.1 1).toInt = 0 ∨ (τ7_.1 1).toInt ≠ 0) := by omega
    rw [hQ]
    exact W.vret hx hb hr (fun t ht hW => ⟨⟨τ7_, rfl, ⟨hτ7_, o2⟩, wEn_of hP (hK.sub [] rfl) hD ht hW⟩, hS.F ht⟩) hS.2.2 dX4_needSemicolon_15
def ow_r_needNumber : List Cond := [.fieldLink RX4 30 "NearEnough$Reader" "scanner" "LNearEnough$Scanner;", .fieldLink RX4 61 "NearEnough$Scanner" "place" "I", .fieldLink RX4 72 "NearEnough$Scanner" "number" "I", .fieldLink RX4 18 "NearEnough$Reader" "fault" "I", .fieldLink RX4 37 "NearEnough$Scanner" "kind" "I"]
def vs_r_needNumber : List Cond := .code yX4_needNumber cX4_needNumber 7 (some .int) :: (ow_r_needNumber ++ (([.methodLink RX4 40 yX4_expects, .instanceMethod yX4_expects, .selects RX4 yX4_expects yX4_expects, .initialized RX4] : List Cond) ++ (vs_r_expects ++ (([.methodLink RX4 64 yX4_refuse, .instanceMethod yX4_refuse, .selects RX4 yX4_refuse yX4_refuse, .initialized RX4] : List Cond) ++ (vs_r_refuse ++ (([.methodLink RX4 34 yX6_advance, .instanceMethod yX6_advance, .selects RX6 yX6_advance yX6_advance, .initialized RX6] : List Cond) ++ (vs_r_advance ++ (wsX40 ++ (wsX60)))))))))
theorem vg_r_needNumber : vs_r_needNumber.all goodWord = true := by decide +kernel
theorem dd_r_needNumber : yX4_needNumber.cls = RX4 ∧ yX4_needNumber.cls ≠ "java/lang/invoke/MethodHandle" ∧ yX4_needNumber.cls ≠ "java/lang/invoke/VarHandle" ∧ (parseMethodDescriptor yX4_needNumber.desc).map (fun d => d.parameters.length) = some 3 := by decide +kernel
def rm_r_needNumber : Room := { frames := 2, cells := 0, slots := 0, locals := 41 }
theorem gd_r_needNumber_40_r_expects : GoodIn vs_r_needNumber (wsV RX4 40 RX4 yX4_expects vs_r_expects) := goodIn_app (goodIn_sub (fun w h => (List.mem_cons_of_mem _ (List.mem_append_right _ (List.mem_append_left _ h)))) (by decide +kernel)) (goodIn_sub (fun w h => (List.mem_cons_of_mem _ (List.mem_append_right _ (List.mem_append_right _ (List.mem_append_left _ h))))) vg_r_expects)
theorem gd_r_needNumber_64_r_refuse : GoodIn vs_r_needNumber (wsV RX4 64 RX4 yX4_refuse vs_r_refuse) := goodIn_app (goodIn_sub (fun w h => (List.mem_cons_of_mem _ (List.mem_append_right _ (List.mem_append_right _ (List.mem_append_right _ (List.mem_append_left _ h)))))) (by decide +kernel)) (goodIn_sub (fun w h => (List.mem_cons_of_mem _ (List.mem_append_right _ (List.mem_append_right _ (List.mem_append_right _ (List.mem_append_right _ (List.mem_append_left _ h))))))) vg_r_refuse)
theorem gd_r_needNumber_34_r_advance : GoodIn vs_r_needNumber (wsV RX4 34 RX6 yX6_advance vs_r_advance) := goodIn_app (goodIn_sub (fun w h => (List.mem_cons_of_mem _ (List.mem_append_right _ (List.mem_append_right _ (List.mem_append_right _ (List.mem_append_right _ (List.mem_append_right _ (List.mem_append_left _ h)))))))) (by decide +kernel)) (goodIn_sub (fun w h => (List.mem_cons_of_mem _ (List.mem_append_right _ (List.mem_append_right _ (List.mem_append_right _ (List.mem_append_right _ (List.mem_append_right _ (List.mem_append_right _ (List.mem_append_left _ h))))))))) vg_r_advance)
set_option maxHeartbeats 4000000 in
set_option maxRecDepth 100000 in
theorem r_needNumber (l : Launch) (dC : Nat → ClassId) (dI : Nat → Nat → Nat) (adK adV : Nat → Nat) (κ : CE) (sz : Nat) (σ : MS) (x : Int32) (y : Int32) (z : Int32) (hk : PInv κ) (hI : RInv σ)  : Met l yX4_needNumber vs_r_needNumber rm_r_needNumber (va_Pc [.ref (kA κ 0), .int x, .int y, .int z] (wSr dC dI adK adV (rW κ σ) (rT κ) sz)) (va_Qi (fun (r : Int32) (τ : MS) => RInv τ ∧ (((σ.1 1).toInt = 0 ∨ (τ.1 1).toInt ≠ 0) ∧ ((τ.1 1).toInt ≠ 0 ∨ (x.toInt ≤ r.toInt ∧ r.toInt ≤ y.toInt)))) (fun (τ : MS) => wEn dC dI (va_A (rW κ σ) sz) (rW κ τ) []) (va_A (rW κ σ) sz)) 0 0 (va_A (rW κ σ) sz) := by
  refine Met.ofW (cc := cX4_needNumber) (maxL := 7) (ret := (some .int)) (by decide +kernel) rfl ?_
  intro p e s m args below meth c s₁ B hml hv
  obtain ⟨rfl, ⟨hsz, hP, hK, hD0, hE⟩, hZ, hR⟩ := hv
  have hx := B.exec
  have hb := B.bytes
  have hr := B.returns
  have hts := atoms_spec (ws := vs_r_needNumber) B.pre
  have hown : s.vm.findClass RX4 = some m.cls := findClass_of_methodNamed B.named
  have hlocks := B.notSynchronized
  subst hsz
  have hD := hD0.self (sz := s.heap.size)
  generalize hAe : va_A (rW κ σ) s.heap.size = A at hD hZ ⊢
  have hA : ∀ q : Nat, s.heap.size ≤ q → A q := fun q h => by rw [← hAe]; exact Or.inr h
  have hl := lv_entry ([.ref (kA κ 0), .int x, .int y, .int z]) (n := 7) (Nat.le_of_ble_eq_true rfl)
  rw [lg_entry_eq]
  generalize (lg_sl ([.ref (kA κ 0), .int x, .int y, .int z]) ++ List.replicate (7 - (lg_sl ([.ref (kA κ 0), .int x, .int y, .int z])).length) Slot.unset).toArray = ls at hl ⊢
  have hl : lv_has ls 7 [(0, .ref (kA κ 0)), (1, .int x), (2, .int y), (3, .int z)] := hl
  have ho := fun w (h : w ∈ ow_r_needNumber) => hts w (List.mem_cons_of_mem _ (List.mem_append_left _ h))
  have hin4 : ∀ w ∈ u_ws RX4 TX4 4, w ∈ vs_r_needNumber := fun w h => (List.mem_cons_of_mem _ (List.mem_append_right _ (List.mem_append_right _ (List.mem_append_right _ (List.mem_append_right _ (List.mem_append_right _ (List.mem_append_right _ (List.mem_append_right _ (List.mem_append_left _ h)))))))))
  have hin6 : ∀ w ∈ u_ws RX6 TX6 7, w ∈ vs_r_needNumber := fun w h => (List.mem_cons_of_mem _ (List.mem_append_right _ (List.mem_append_right _ (List.mem_append_right _ (List.mem_append_right _ (List.mem_append_right _ (List.mem_append_right _ (List.mem_append_right _ (List.mem_append_right _ h)))))))))
  refine zQ (fun Q hQ => ?_)
  refine zH (A := A) (ws := (rW κ σ)) (fun H hP hS => ?_) hP
  have hk0 := hk.1
  have hk1 := hk.2.1
  have hk2 := hk.2.2.1
  refine lv_aload_n hx hb dX4_needNumber_0 rfl (lv_at hl 0 rfl) ?_
  refine va_get (D := (dC, dI)) (ci := 4) (v := .ref (kA κ 1)) (C := RX4) (T := TX4) (N := 4) hx hb hts hin4 hown hK hP 0 rfl rfl 0 (Nat.le_of_ble_eq_true rfl) (ho (.fieldLink RX4 30 "NearEnough$Reader" "scanner" "LNearEnough$Scanner;") (List.mem_of_getElem? (i := 0) rfl)) (fun _ h9 => h9) rfl dX4_needNumber_1 ?_
  have bσ_5 : 0 ≤ (σ.1 5).toInt ∧ (σ.1 5).toInt ≤ 1000 := hI 5
  refine va_get (D := (dC, dI)) (ci := 6) (v := .int (σ.1 5)) (C := RX6) (T := TX6) (N := 7) hx hb hts hin6 hown hK hP 1 rfl rfl 4 (Nat.le_of_ble_eq_true rfl) (ho (.fieldLink RX4 61 "NearEnough$Scanner" "place" "I") (List.mem_of_getElem? (i := 1) rfl)) (fun _ h9 => h9) rfl dX4_needNumber_4 ?_
  refine lv_istore (lv' := [(4, .int (σ.1 5)), (0, .ref (kA κ 0)), (1, .int x), (2, .int y), (3, .int z)]) hx hb dX4_needNumber_7 hl (Nat.le_of_ble_eq_true rfl) rfl (fun ls hl => ?_)
  have pt36_ : ∀ (s36_ : Int32) (H : Heap) (locs : List Loc) (ls : Array Slot), va_P (dC, dI) vwCl (rW κ σ) H → va_D A (rW κ σ) → va_S A s.heap H locs → lv_has ls 7 [(4, .int (σ.1 5)), (0, .ref (kA κ 0)), (1, .int x), (2, .int y)] → W p l e (headSpec vs_r_needNumber rm_r_needNumber).room s m #[Value.ref (kA κ 0), Value.int x, Value.int y, Value.int z] below meth c H locs 0 0 Q (F0 m 36 ls [.int s36_]) := by
    intro s36_ H locs ls hP hD hS hl
    refine lv_istore (lv' := [(5, .int s36_), (4, .int (σ.1 5)), (0, .ref (kA κ 0)), (1, .int x), (2, .int y)]) hx hb dX4_needNumber_36 hl (Nat.le_of_ble_eq_true rfl) rfl (fun ls hl => ?_)
    have pt50_ : ∀ (σ50_ : MS) (H : Heap) (locs : List Loc) (ls : Array Slot), RInv σ50_ → ((σ50_.1 1).toInt = (σ.1 1).toInt) → va_P (dC, dI) vwCl (rW κ σ50_) H → va_D A (rW κ σ50_) → va_S A s.heap H locs → lv_has ls 7 [(5, .int s36_), (4, .int (σ.1 5)), (0, .ref (kA κ 0)), (1, .int x), (2, .int y)] → W p l e (headSpec vs_r_needNumber rm_r_needNumber).room s m #[Value.ref (kA κ 0), Value.int x, Value.int y, Value.int z] below meth c H locs 0 0 Q (F0 m 50 ls []) := by
      intro σ50_ H locs ls hIσ50_ hf50_0_ hP hD hS hl
      refine lv_aload_n hx hb dX4_needNumber_50 rfl (lv_at hl 2 rfl) ?_
      refine lv_iconst (v := 2) hx hb dX4_needNumber_51 rg_19 ?_
      have kk1_ : (2 : Int32).toInt = 2 := rg_20
      refine zy_i (va_runV (As := [.int 2]) (rest := []) ⟨hx, hb, hml, hown, hts⟩ (r_expects l dC dI adK adV κ H.size σ50_ 2 hk hIσ50_ ) (cwV 1 hts gd_r_needNumber_40_r_expects rfl rfl rfl dd_r_expects ⟨Nat.le_of_ble_eq_true rfl, Nat.le_of_ble_eq_true rfl⟩) (preVr hP hK hD hE hZ hR hS hA (ci := 4) (q0 := 0) rfl rfl) rfl rfl hl.1 rfl (lv_room (Nat.le_of_ble_eq_true rfl)) dX4_needNumber_52 ⟨Nat.le_of_ble_eq_true rfl, Nat.le_of_ble_eq_true rfl⟩) hD hS hA (fun z2_ τ3_ H locs hq hP hD hS => ?_)
      obtain ⟨hτ3_, q4_⟩ := hq
      have q4_ : ((σ50_.1 1).toInt = 0 ∨ (τ3_.1 1).toInt ≠ 0) ∧ ((z2_.toInt = 1 ∧ (τ3_.1 1).toInt = 0) ∨ (z2_.toInt = 0 ∧ (τ3_.1 1).toInt ≠ 0)) := q4_
      refine W.widen (k := 0) (n := 0) (Nat.le_of_ble_eq_true rfl) (Nat.le_of_ble_eq_true rfl) ?_
      refine lv_if_ne (tgt := 60) hx hb dX4_needNumber_55 rfl (fun c5_ => ?_) (fun c5_ => ?_)
      · have tc5_ := (show z2_.toInt ≠ 0 from ti_ne rfl rg_11 c5_)
        have pt83_ : ∀ (s83_ : Int32) (H : Heap) (locs : List Loc) (ls : Array Slot), va_P (dC, dI) vwCl (rW κ τ3_) H → va_D A (rW κ τ3_) → va_S A s.heap H locs → lv_has ls 7 [(4, .int (σ.1 5)), (0, .ref (kA κ 0)), (1, .int x), (2, .int y)] → W p l e (headSpec vs_r_needNumber rm_r_needNumber).room s m #[Value.ref (kA κ 0), Value.int x, Value.int y, Value.int z] below meth c H locs 0 0 Q (F0 m 83 ls [.int s83_]) := by
          intro s83_ H locs ls hP hD hS hl
          refine lv_istore (lv' := [(6, .int s83_), (4, .int (σ.1 5)), (0, .ref (kA κ 0)), (1, .int x), (2, .int y)]) hx hb dX4_needNumber_83 hl (Nat.le_of_ble_eq_true rfl) rfl (fun ls hl => ?_)
          refine lv_iload hx hb dX4_needNumber_85 (lv_at hl 0 rfl) ?_
          refine lv_iload_n hx hb dX4_needNumber_87 rfl (lv_at hl 3 rfl) ?_
          refine lv_icmp_lt (tgt := 97) hx hb dX4_needNumber_88 rfl (fun c6_ => ?_) (fun c6_ => ?_)
          · have tc6_ := (show s83_.toInt < x.toInt from ti_lt rfl rfl c6_)
            refine lv_aload_n hx hb dX4_needNumber_97 rfl (lv_at hl 2 rfl) ?_
            refine lv_iconst (v := 4) hx hb dX4_needNumber_98 rg_31 ?_
            refine lv_iload hx hb dX4_needNumber_99 (lv_at hl 1 rfl) ?_
            have kk7_ : (4 : Int32).toInt = 4 := rg_32
            refine zy_v (va_runV (As := [.int 4, .int (σ.1 5)]) (rest := []) ⟨hx, hb, hml, hown, hts⟩ (r_refuse l dC dI adK adV κ H.size τ3_ 4 (σ.1 5) hk hτ3_ (by decide)) (cwV 2 hts gd_r_needNumber_64_r_refuse rfl rfl rfl dd_r_refuse ⟨Nat.le_of_ble_eq_true rfl, Nat.le_of_ble_eq_true rfl⟩) (preVr hP hK hD hE hZ hR hS hA (ci := 4) (q0 := 0) rfl rfl) rfl rfl hl.1 rfl (lv_room (Nat.le_of_ble_eq_true rfl)) dX4_needNumber_101 ⟨Nat.le_of_ble_eq_true rfl, Nat.le_of_ble_eq_true rfl⟩) hD hS hA (fun τ9_ H locs hq hP hD hS => ?_)
            obtain ⟨hτ9_, q10_⟩ := hq
            have q10_ : (τ9_.1 1).toInt ≠ 0 := q10_
            refine W.widen (k := 0) (n := 0) (Nat.le_of_ble_eq_true rfl) (Nat.le_of_ble_eq_true rfl) ?_
            refine lv_iconst (v := 0) hx hb dX4_needNumber_104 rg_0 ?_
            have kk11_ : (0 : Int32).toInt = 0 := rg_11
            have o1 : ((σ.1 1).toInt = 0 ∨ (τ9_.1 1).toInt ≠ 0) ∧ ((τ9_.1 1).toInt ≠ 0 ∨ (x.toInt ≤ (0 : Int32).toInt ∧ (0 : Int32).toInt ≤ y.toInt)) := by omega
            rw [hQ]
            exact W.iret (v := 0) hx hb hr (fun t ht hW => ⟨⟨0, τ9_, rfl, ⟨hτ9_, o1⟩, wEn_of hP (hK.sub [] rfl) hD ht hW⟩, hS.F ht⟩) hS.2.2 dX4_needNumber_105
          · have tc6_ := (show x.toInt ≤ s83_.toInt from ti_nlt rfl rfl c6_)
            refine lv_iload hx hb dX4_needNumber_91 (lv_at hl 0 rfl) ?_
            refine lv_iload_n hx hb dX4_needNumber_93 rfl (lv_at hl 4 rfl) ?_
            refine lv_icmp_le (tgt := 106) hx hb dX4_needNumber_94 rfl (fun c12_ => ?_) (fun c12_ => ?_)
            · have tc12_ := (show s83_.toInt ≤ y.toInt from ti_le rfl rfl c12_)
              refine lv_aload_n hx hb dX4_needNumber_106 rfl (lv_at hl 2 rfl) ?_
              refine va_get (D := (dC, dI)) (ci := 4) (v := .ref (kA κ 1)) (C := RX4) (T := TX4) (N := 4) hx hb hts hin4 hown hK hP 0 rfl rfl 0 (Nat.le_of_ble_eq_true rfl) (ho (.fieldLink RX4 30 "NearEnough$Reader" "scanner" "LNearEnough$Scanner;") (List.mem_of_getElem? (i := 0) rfl)) (fun _ h9 => h9) rfl dX4_needNumber_107 ?_
              refine zy_v (va_runV (As := []) (rest := []) ⟨hx, hb, hml, hown, hts⟩ (r_advance l dC dI adK adV κ H.size τ3_  hk hτ3_ ) (cwV 0 hts gd_r_needNumber_34_r_advance rfl rfl rfl dd_r_advance ⟨Nat.le_of_ble_eq_true rfl, Nat.le_of_ble_eq_true rfl⟩) (preVr hP hK hD hE hZ hR hS hA (ci := 6) (q0 := 1) rfl rfl) rfl rfl hl.1 rfl (lv_room (Nat.le_of_ble_eq_true rfl)) dX4_needNumber_110 ⟨Nat.le_of_ble_eq_true rfl, Nat.le_of_ble_eq_true rfl⟩) hD hS hA (fun τ14_ H locs hq hP hD hS => ?_)
              obtain ⟨hτ14_, q15_⟩ := hq
              have q15_ : (τ14_.1 1).toInt = (τ3_.1 1).toInt := q15_
              refine W.widen (k := 0) (n := 0) (Nat.le_of_ble_eq_true rfl) (Nat.le_of_ble_eq_true rfl) ?_
              refine lv_iload hx hb dX4_needNumber_113 (lv_at hl 0 rfl) ?_
              have o2 : ((σ.1 1).toInt = 0 ∨ (τ14_.1 1).toInt ≠ 0) ∧ ((τ14_.1 1).toInt ≠ 0 ∨ (x.toInt ≤ s83_.toInt ∧ s83_.toInt ≤ y.toInt)) := by omega
              rw [hQ]
              exact W.iret (v := s83_) hx hb hr (fun t ht hW => ⟨⟨s83_, τ14_, rfl, ⟨hτ14_, o2⟩, wEn_of hP (hK.sub [] rfl) hD ht hW⟩, hS.F ht⟩) hS.2.2 dX4_needNumber_115
            · have tc12_ := (show y.toInt < s83_.toInt from ti_nle rfl rfl c12_)
              refine lv_aload_n hx hb dX4_needNumber_97 rfl (lv_at hl 2 rfl) ?_
              refine lv_iconst (v := 4) hx hb dX4_needNumber_98 rg_31 ?_
              refine lv_iload hx hb dX4_needNumber_99 (lv_at hl 1 rfl) ?_
              have kk16_ : (4 : Int32).toInt = 4 := rg_32
              refine zy_v (va_runV (As := [.int 4, .int (σ.1 5)]) (rest := []) ⟨hx, hb, hml, hown, hts⟩ (r_refuse l dC dI adK adV κ H.size τ3_ 4 (σ.1 5) hk hτ3_ (by decide)) (cwV 2 hts gd_r_needNumber_64_r_refuse rfl rfl rfl dd_r_refuse ⟨Nat.le_of_ble_eq_true rfl, Nat.le_of_ble_eq_true rfl⟩) (preVr hP hK hD hE hZ hR hS hA (ci := 4) (q0 := 0) rfl rfl) rfl rfl hl.1 rfl (lv_room (Nat.le_of_ble_eq_true rfl)) dX4_needNumber_101 ⟨Nat.le_of_ble_eq_true rfl, Nat.le_of_ble_eq_true rfl⟩) hD hS hA (fun τ18_ H locs hq hP hD hS => ?_)
              obtain ⟨hτ18_, q19_⟩ := hq
              have q19_ : (τ18_.1 1).toInt ≠ 0 := q19_
              refine W.widen (k := 0) (n := 0) (Nat.le_of_ble_eq_true rfl) (Nat.le_of_ble_eq_true rfl) ?_
              refine lv_iconst (v := 0) hx hb dX4_needNumber_104 rg_0 ?_
              have kk20_ : (0 : Int32).toInt = 0 := rg_11
              have o3 : ((σ.1 1).toInt = 0 ∨ (τ18_.1 1).toInt ≠ 0) ∧ ((τ18_.1 1).toInt ≠ 0 ∨ (x.toInt ≤ (0 : Int32).toInt ∧ (0 : Int32).toInt ≤ y.toInt)) := by omega
              rw [hQ]
              exact W.iret (v := 0) hx hb hr (fun t ht hW => ⟨⟨0, τ18_, rfl, ⟨hτ18_, o3⟩, wEn_of hP (hK.sub [] rfl) hD ht hW⟩, hS.F ht⟩) hS.2.2 dX4_needNumber_105
        refine lv_iload hx hb dX4_needNumber_60 (lv_at hl 0 rfl) ?_
        refine lv_if_eq (tgt := 76) hx hb dX4_needNumber_62 rfl (fun c21_ => ?_) (fun c21_ => ?_)
        · have tc21_ := (show s36_.toInt = 0 from ti_eq rfl rg_11 c21_)
          refine lv_aload_n hx hb dX4_needNumber_76 rfl (lv_at hl 2 rfl) ?_
          refine va_get (D := (dC, dI)) (ci := 4) (v := .ref (kA κ 1)) (C := RX4) (T := TX4) (N := 4) hx hb hts hin4 hown hK hP 0 rfl rfl 0 (Nat.le_of_ble_eq_true rfl) (ho (.fieldLink RX4 30 "NearEnough$Reader" "scanner" "LNearEnough$Scanner;") (List.mem_of_getElem? (i := 0) rfl)) (fun _ h9 => h9) rfl dX4_needNumber_77 ?_
          refine va_get (D := (dC, dI)) (ci := 6) (v := .int (τ3_.1 6)) (C := RX6) (T := TX6) (N := 7) hx hb hts hin6 hown hK hP 1 rfl rfl 6 (Nat.le_of_ble_eq_true rfl) (ho (.fieldLink RX4 72 "NearEnough$Scanner" "number" "I") (List.mem_of_getElem? (i := 2) rfl)) (fun _ h9 => h9) rfl dX4_needNumber_80 ?_
          exact pt83_  (τ3_.1 6) _ _ _  hP hD hS (lv_sub hl [1, 2, 3, 4] rfl)
        · have tc21_ := (show s36_.toInt ≠ 0 from ti_ne rfl rg_11 c21_)
          refine lv_aload_n hx hb dX4_needNumber_65 rfl (lv_at hl 2 rfl) ?_
          refine va_get (D := (dC, dI)) (ci := 4) (v := .ref (kA κ 1)) (C := RX4) (T := TX4) (N := 4) hx hb hts hin4 hown hK hP 0 rfl rfl 0 (Nat.le_of_ble_eq_true rfl) (ho (.fieldLink RX4 30 "NearEnough$Reader" "scanner" "LNearEnough$Scanner;") (List.mem_of_getElem? (i := 0) rfl)) (fun _ h9 => h9) rfl dX4_needNumber_66 ?_
          refine va_get (D := (dC, dI)) (ci := 6) (v := .int (τ3_.1 6)) (C := RX6) (T := TX6) (N := 7) hx hb hts hin6 hown hK hP 1 rfl rfl 6 (Nat.le_of_ble_eq_true rfl) (ho (.fieldLink RX4 72 "NearEnough$Scanner" "number" "I") (List.mem_of_getElem? (i := 2) rfl)) (fun _ h9 => h9) rfl dX4_needNumber_69 ?_
          refine lv_ineg hx hb dX4_needNumber_72 ?_
          refine lv_topi (fun z22_ ez22_ => ?_)
          refine lv_goto (tgt := 83) hx hb dX4_needNumber_73 rfl ?_
          exact pt83_  z22_ _ _ _  hP hD hS (lv_sub hl [1, 2, 3, 4] rfl)
      · have tc5_ := (show z2_.toInt = 0 from ti_eq rfl rg_11 c5_)
        refine lv_iconst (v := 0) hx hb dX4_needNumber_58 rg_0 ?_
        have kk23_ : (0 : Int32).toInt = 0 := rg_11
        have o4 : ((σ.1 1).toInt = 0 ∨ (τ3_.1 1).toInt ≠ 0) ∧ ((τ3_.1 1).toInt ≠ 0 ∨ (x.toInt ≤ (0 : Int32).toInt ∧ (0 : Int32).toInt ≤ y.toInt)) := by omega
        rw [hQ]
        exact W.iret (v := 0) hx hb hr (fun t ht hW => ⟨⟨0, τ3_, rfl, ⟨hτ3_, o4⟩, wEn_of hP (hK.sub [] rfl) hD ht hW⟩, hS.F ht⟩) hS.2.2 dX4_needNumber_59
    refine lv_iload hx hb dX4_needNumber_38 (lv_at hl 0 rfl) ?_
    refine lv_if_eq (tgt := 50) hx hb dX4_needNumber_40 rfl (fun c24_ => ?_) (fun c24_ => ?_)
    · have tc24_ := (show s36_.toInt = 0 from ti_eq rfl rg_11 c24_)
      have o5 : (σ.1 1).toInt = (σ.1 1).toInt := by omega
      exact pt50_ σ  _ _ _ hI o5 hP hD hS (lv_sub hl [0, 1, 2, 3, 4] rfl)
    · have tc24_ := (show s36_.toInt ≠ 0 from ti_ne rfl rg_11 c24_)
      refine lv_aload_n hx hb dX4_needNumber_43 rfl (lv_at hl 2 rfl) ?_
      refine va_get (D := (dC, dI)) (ci := 4) (v := .ref (kA κ 1)) (C := RX4) (T := TX4) (N := 4) hx hb hts hin4 hown hK hP 0 rfl rfl 0 (Nat.le_of_ble_eq_true rfl) (ho (.fieldLink RX4 30 "NearEnough$Reader" "scanner" "LNearEnough$Scanner;") (List.mem_of_getElem? (i := 0) rfl)) (fun _ h9 => h9) rfl dX4_needNumber_44 ?_
      refine zy_v (va_runV (As := []) (rest := []) ⟨hx, hb, hml, hown, hts⟩ (r_advance l dC dI adK adV κ H.size σ  hk hI ) (cwV 0 hts gd_r_needNumber_34_r_advance rfl rfl rfl dd_r_advance ⟨Nat.le_of_ble_eq_true rfl, Nat.le_of_ble_eq_true rfl⟩) (preVr hP hK hD hE hZ hR hS hA (ci := 6) (q0 := 1) rfl rfl) rfl rfl hl.1 rfl (lv_room (Nat.le_of_ble_eq_true rfl)) dX4_needNumber_47 ⟨Nat.le_of_ble_eq_true rfl, Nat.le_of_ble_eq_true rfl⟩) hD hS hA (fun τ26_ H locs hq hP hD hS => ?_)
      obtain ⟨hτ26_, q27_⟩ := hq
      have q27_ : (τ26_.1 1).toInt = (σ.1 1).toInt := q27_
      refine W.widen (k := 0) (n := 0) (Nat.le_of_ble_eq_true rfl) (Nat.le_of_ble_eq_true rfl) ?_
      have o6 : (τ26_.1 1).toInt = (σ.1 1).toInt := by omega
      exact pt50_ τ26_  _ _ _ hτ26_ o6 hP hD hS (lv_sub hl [0, 1, 2, 3, 4] rfl)
  refine lv_iload_n hx hb dX4_needNumber_9 rfl (lv_at hl 4 rfl) ?_
  refine lv_if_eq (tgt := 35) hx hb dX4_needNumber_10 rfl (fun c28_ => ?_) (fun c28_ => ?_)
  · have tc28_ := (show z.toInt = 0 from ti_eq rfl rg_11 c28_)
    refine lv_iconst (v := 0) hx hb dX4_needNumber_35 rg_0 ?_
    have kk29_ : (0 : Int32).toInt = 0 := rg_11
    exact pt36_  0 _ _ _  hP hD hS (lv_sub hl [0, 1, 2, 3] rfl)
  · have tc28_ := (show z.toInt ≠ 0 from ti_ne rfl rg_11 c28_)
    refine lv_aload_n hx hb dX4_needNumber_13 rfl (lv_at hl 1 rfl) ?_
    refine va_get (D := (dC, dI)) (ci := 4) (v := .int (σ.1 1)) (C := RX4) (T := TX4) (N := 4) hx hb hts hin4 hown hK hP 0 rfl rfl 2 (Nat.le_of_ble_eq_true rfl) (ho (.fieldLink RX4 18 "NearEnough$Reader" "fault" "I") (List.mem_of_getElem? (i := 3) rfl)) (fun _ h9 => h9) rfl dX4_needNumber_14 ?_
    refine lv_if_ne (tgt := 35) hx hb dX4_needNumber_17 rfl (fun c30_ => ?_) (fun c30_ => ?_)
    · have tc30_ := (show (σ.1 1).toInt ≠ 0 from ti_ne rfl rg_11 c30_)
      refine lv_iconst (v := 0) hx hb dX4_needNumber_35 rg_0 ?_
      have kk31_ : (0 : Int32).toInt = 0 := rg_11
      exact pt36_  0 _ _ _  hP hD hS (lv_sub hl [0, 1, 2, 3] rfl)
    · have tc30_ := (show (σ.1 1).toInt = 0 from ti_eq rfl rg_11 c30_)
      refine lv_aload_n hx hb dX4_needNumber_20 rfl (lv_at hl 1 rfl) ?_
      refine va_get (D := (dC, dI)) (ci := 4) (v := .ref (kA κ 1)) (C := RX4) (T := TX4) (N := 4) hx hb hts hin4 hown hK hP 0 rfl rfl 0 (Nat.le_of_ble_eq_true rfl) (ho (.fieldLink RX4 30 "NearEnough$Reader" "scanner" "LNearEnough$Scanner;") (List.mem_of_getElem? (i := 0) rfl)) (fun _ h9 => h9) rfl dX4_needNumber_21 ?_
      refine va_get (D := (dC, dI)) (ci := 6) (v := .int (σ.1 4)) (C := RX6) (T := TX6) (N := 7) hx hb hts hin6 hown hK hP 1 rfl rfl 3 (Nat.le_of_ble_eq_true rfl) (ho (.fieldLink RX4 37 "NearEnough$Scanner" "kind" "I") (List.mem_of_getElem? (i := 4) rfl)) (fun _ h9 => h9) rfl dX4_needNumber_24 ?_
      refine lv_iconst (v := 4) hx hb dX4_needNumber_27 rg_31 ?_
      refine lv_icmp_ne (tgt := 35) hx hb dX4_needNumber_28 rfl (fun c32_ => ?_) (fun c32_ => ?_)
      · have tc32_ := (show (σ.1 4).toInt ≠ 4 from ti_ne rfl rg_32 c32_)
        refine lv_iconst (v := 0) hx hb dX4_needNumber_35 rg_0 ?_
        have kk33_ : (0 : Int32).toInt = 0 := rg_11
        exact pt36_  0 _ _ _  hP hD hS (lv_sub hl [0, 1, 2, 3] rfl)
      · have tc32_ := (show (σ.1 4).toInt = 4 from ti_eq rfl rg_32 c32_)
        refine lv_iconst (v := 1) hx hb dX4_needNumber_31 rg_6 ?_
        refine lv_goto (tgt := 36) hx hb dX4_needNumber_32 rfl ?_
        have kk34_ : (1 : Int32).toInt = 1 := rg_18
        exact pt36_  1 _ _ _  hP hD hS (lv_sub hl [0, 1, 2, 3] rfl)
def ow_r_expectsName : List Cond := [.fieldLink RX4 18 "NearEnough$Reader" "fault" "I", .fieldLink RX4 30 "NearEnough$Reader" "scanner" "LNearEnough$Scanner;", .fieldLink RX4 61 "NearEnough$Scanner" "place" "I"]
def vs_r_expectsName : List Cond := .code yX4_expectsName cX4_expectsName 1 (some .boolean) :: (ow_r_expectsName ++ (([.methodLink RX4 40 yX4_expects, .instanceMethod yX4_expects, .selects RX4 yX4_expects yX4_expects, .initialized RX4] : List Cond) ++ (vs_r_expects ++ (([.methodLink RX4 46 yX6_isOneOf, .instanceMethod yX6_isOneOf, .selects RX6 yX6_isOneOf yX6_isOneOf, .initialized RX6] : List Cond) ++ (vs_r_isOneOf ++ (([.methodLink RX4 64 yX4_refuse, .instanceMethod yX4_refuse, .selects RX4 yX4_refuse yX4_refuse, .initialized RX4] : List Cond) ++ (vs_r_refuse ++ (wsX40 ++ (wsX60)))))))))
theorem vg_r_expectsName : vs_r_expectsName.all goodWord = true := by decide +kernel
theorem dd_r_expectsName : yX4_expectsName.cls = RX4 ∧ yX4_expectsName.cls ≠ "java/lang/invoke/MethodHandle" ∧ yX4_expectsName.cls ≠ "java/lang/invoke/VarHandle" ∧ (parseMethodDescriptor yX4_expectsName.desc).map (fun d => d.parameters.length) = some 0 := by decide +kernel
def rm_r_expectsName : Room := { frames := 5, cells := 0, slots := 0, locals := 110 }
theorem gd_r_expectsName_40_r_expects : GoodIn vs_r_expectsName (wsV RX4 40 RX4 yX4_expects vs_r_expects) := goodIn_app (goodIn_sub (fun w h => (List.mem_cons_of_mem _ (List.mem_append_right _ (List.mem_append_left _ h)))) (by decide +kernel)) (goodIn_sub (fun w h => (List.mem_cons_of_mem _ (List.mem_append_right _ (List.mem_append_right _ (List.mem_append_left _ h))))) vg_r_expects)
theorem gd_r_expectsName_46_r_isOneOf : GoodIn vs_r_expectsName (wsV RX4 46 RX6 yX6_isOneOf vs_r_isOneOf) := goodIn_app (goodIn_sub (fun w h => (List.mem_cons_of_mem _ (List.mem_append_right _ (List.mem_append_right _ (List.mem_append_right _ (List.mem_append_left _ h)))))) (by decide +kernel)) (goodIn_sub (fun w h => (List.mem_cons_of_mem _ (List.mem_append_right _ (List.mem_append_right _ (List.mem_append_right _ (List.mem_append_right _ (List.mem_append_left _ h))))))) vg_r_isOneOf)
theorem gd_r_expectsName_64_r_refuse : GoodIn vs_r_expectsName (wsV RX4 64 RX4 yX4_refuse vs_r_refuse) := goodIn_app (goodIn_sub (fun w h => (List.mem_cons_of_mem _ (List.mem_append_right _ (List.mem_append_right _ (List.mem_append_right _ (List.mem_append_right _ (List.mem_append_right _ (List.mem_append_left _ h)))))))) (by decide +kernel)) (goodIn_sub (fun w h => (List.mem_cons_of_mem _ (List.mem_append_right _ (List.mem_append_right _ (List.mem_append_right _ (List.mem_append_right _ (List.mem_append_right _ (List.mem_append_right _ (List.mem_append_left _ h))))))))) vg_r_refuse)
set_option maxHeartbeats 4000000 in
set_option maxRecDepth 100000 in
theorem r_expectsName (l : Launch) (dC : Nat → ClassId) (dI : Nat → Nat → Nat) (adK adV : Nat → Nat) (κ : CE) (sz : Nat) (σ : MS) (hk : PInv κ) (hI : RInv σ)  : Met l yX4_expectsName vs_r_expectsName rm_r_expectsName (va_Pc [.ref (kA κ 0)] (wSr dC dI adK adV (rW κ σ) (rT κ) sz)) (va_Qi (fun (r : Int32) (τ : MS) => RInv τ ∧ (((σ.1 1).toInt = 0 ∨ (τ.1 1).toInt ≠ 0) ∧ ((r.toInt = 1 ∧ (τ.1 1).toInt = 0) ∨ (r.toInt = 0 ∧ (τ.1 1).toInt ≠ 0)))) (fun (τ : MS) => wEn dC dI (va_A (rW κ σ) sz) (rW κ τ) []) (va_A (rW κ σ) sz)) 0 0 (va_A (rW κ σ) sz) := by
  refine Met.ofW (cc := cX4_expectsName) (maxL := 1) (ret := (some .boolean)) (by decide +kernel) rfl ?_
  intro p e s m args below meth c s₁ B hml hv
  obtain ⟨rfl, ⟨hsz, hP, hK, hD0, hE⟩, hZ, hR⟩ := hv
  have hx := B.exec
  have hb := B.bytes
  have hr := B.returns
  have hts := atoms_spec (ws := vs_r_expectsName) B.pre
  have hown : s.vm.findClass RX4 = some m.cls := findClass_of_methodNamed B.named
  have hlocks := B.notSynchronized
  subst hsz
  have hD := hD0.self (sz := s.heap.size)
  generalize hAe : va_A (rW κ σ) s.heap.size = A at hD hZ ⊢
  have hA : ∀ q : Nat, s.heap.size ≤ q → A q := fun q h => by rw [← hAe]; exact Or.inr h
  have hl := lv_entry ([.ref (kA κ 0)]) (n := 1) (Nat.le_of_ble_eq_true rfl)
  rw [lg_entry_eq]
  generalize (lg_sl ([.ref (kA κ 0)]) ++ List.replicate (1 - (lg_sl ([.ref (kA κ 0)])).length) Slot.unset).toArray = ls at hl ⊢
  have hl : lv_has ls 1 [(0, .ref (kA κ 0))] := hl
  have ho := fun w (h : w ∈ ow_r_expectsName) => hts w (List.mem_cons_of_mem _ (List.mem_append_left _ h))
  have hin4 : ∀ w ∈ u_ws RX4 TX4 4, w ∈ vs_r_expectsName := fun w h => (List.mem_cons_of_mem _ (List.mem_append_right _ (List.mem_append_right _ (List.mem_append_right _ (List.mem_append_right _ (List.mem_append_right _ (List.mem_append_right _ (List.mem_append_right _ (List.mem_append_left _ h)))))))))
  have hin6 : ∀ w ∈ u_ws RX6 TX6 7, w ∈ vs_r_expectsName := fun w h => (List.mem_cons_of_mem _ (List.mem_append_right _ (List.mem_append_right _ (List.mem_append_right _ (List.mem_append_right _ (List.mem_append_right _ (List.mem_append_right _ (List.mem_append_right _ (List.mem_append_right _ h)))))))))
  refine zQ (fun Q hQ => ?_)
  refine zH (A := A) (ws := (rW κ σ)) (fun H hP hS => ?_) hP
  have hk0 := hk.1
  have hk1 := hk.2.1
  have hk2 := hk.2.2.1
  refine lv_aload_n hx hb dX4_expectsName_0 rfl (lv_at hl 0 rfl) ?_
  refine lv_iconst (v := 1) hx hb dX4_expectsName_1 rg_6 ?_
  have kk1_ : (1 : Int32).toInt = 1 := rg_18
  refine zy_i (va_runV (As := [.int 1]) (rest := []) ⟨hx, hb, hml, hown, hts⟩ (r_expects l dC dI adK adV κ H.size σ 1 hk hI ) (cwV 1 hts gd_r_expectsName_40_r_expects rfl rfl rfl dd_r_expects ⟨Nat.le_of_ble_eq_true rfl, Nat.le_of_ble_eq_true rfl⟩) (preVr hP hK hD hE hZ hR hS hA (ci := 4) (q0 := 0) rfl rfl) rfl rfl hl.1 rfl (lv_room (Nat.le_of_ble_eq_true rfl)) dX4_expectsName_2 ⟨Nat.le_of_ble_eq_true rfl, Nat.le_of_ble_eq_true rfl⟩) hD hS hA (fun z2_ τ3_ H locs hq hP hD hS => ?_)
  obtain ⟨hτ3_, q4_⟩ := hq
  have q4_ : ((σ.1 1).toInt = 0 ∨ (τ3_.1 1).toInt ≠ 0) ∧ ((z2_.toInt = 1 ∧ (τ3_.1 1).toInt = 0) ∨ (z2_.toInt = 0 ∧ (τ3_.1 1).toInt ≠ 0)) := q4_
  refine W.widen (k := 0) (n := 0) (Nat.le_of_ble_eq_true rfl) (Nat.le_of_ble_eq_true rfl) ?_
  refine lv_if_eq (tgt := 32) hx hb dX4_expectsName_5 rfl (fun c5_ => ?_) (fun c5_ => ?_)
  · have tc5_ := (show z2_.toInt = 0 from ti_eq rfl rg_11 c5_)
    refine lv_aload_n hx hb dX4_expectsName_32 rfl (lv_at hl 0 rfl) ?_
    refine va_get (D := (dC, dI)) (ci := 4) (v := .int (τ3_.1 1)) (C := RX4) (T := TX4) (N := 4) hx hb hts hin4 hown hK hP 0 rfl rfl 2 (Nat.le_of_ble_eq_true rfl) (ho (.fieldLink RX4 18 "NearEnough$Reader" "fault" "I") (List.mem_of_getElem? (i := 0) rfl)) (fun _ h9 => h9) rfl dX4_expectsName_33 ?_
    refine lv_if_ne (tgt := 43) hx hb dX4_expectsName_36 rfl (fun c6_ => ?_) (fun c6_ => ?_)
    · have tc6_ := (show (τ3_.1 1).toInt ≠ 0 from ti_ne rfl rg_11 c6_)
      refine lv_iconst (v := 0) hx hb dX4_expectsName_43 rg_0 ?_
      have kk7_ : (0 : Int32).toInt = 0 := rg_11
      have o1 : ((σ.1 1).toInt = 0 ∨ (τ3_.1 1).toInt ≠ 0) ∧ (((0 : Int32).toInt = 1 ∧ (τ3_.1 1).toInt = 0) ∨ ((0 : Int32).toInt = 0 ∧ (τ3_.1 1).toInt ≠ 0)) := by omega
      rw [hQ]
      exact W.zret (v := 0) hx hb hr rfl (fun t ht hW => ⟨⟨0, τ3_, rfl, ⟨hτ3_, o1⟩, wEn_of hP (hK.sub [] rfl) hD ht hW⟩, hS.F ht⟩) hS.2.2 dX4_expectsName_44
    · have tc6_ := (show (τ3_.1 1).toInt = 0 from ti_eq rfl rg_11 c6_)
      refine lv_iconst (v := 1) hx hb dX4_expectsName_39 rg_6 ?_
      refine lv_goto (tgt := 44) hx hb dX4_expectsName_40 rfl ?_
      have kk8_ : (1 : Int32).toInt = 1 := rg_18
      have o2 : ((σ.1 1).toInt = 0 ∨ (τ3_.1 1).toInt ≠ 0) ∧ (((1 : Int32).toInt = 1 ∧ (τ3_.1 1).toInt = 0) ∨ ((1 : Int32).toInt = 0 ∧ (τ3_.1 1).toInt ≠ 0)) := by omega
      rw [hQ]
      exact W.zret (v := 1) hx hb hr rfl (fun t ht hW => ⟨⟨1, τ3_, rfl, ⟨hτ3_, o2⟩, wEn_of hP (hK.sub [] rfl) hD ht hW⟩, hS.F ht⟩) hS.2.2 dX4_expectsName_44
  · have tc5_ := (show z2_.toInt ≠ 0 from ti_ne rfl rg_11 c5_)
    refine lv_aload_n hx hb dX4_expectsName_8 rfl (lv_at hl 0 rfl) ?_
    refine va_get (D := (dC, dI)) (ci := 4) (v := .ref (kA κ 1)) (C := RX4) (T := TX4) (N := 4) hx hb hts hin4 hown hK hP 0 rfl rfl 0 (Nat.le_of_ble_eq_true rfl) (ho (.fieldLink RX4 30 "NearEnough$Reader" "scanner" "LNearEnough$Scanner;") (List.mem_of_getElem? (i := 1) rfl)) (fun _ h9 => h9) rfl dX4_expectsName_9 ?_
    refine va_ldcS (tx := "row has from to sum of most add less times scale by over at place pick if under end off never mean one ") (q := adK 2) hx hb hown (hR (75, "row has from to sum of most add less times scale by over at place pick if under end off never mean one ", 2) (List.mem_of_getElem? (i := 2) rfl)) dX4_expectsName_12 ?_
    refine zy_i (va_runV (As := [.ref (adK 2)]) (rest := []) ⟨hx, hb, hml, hown, hts⟩ (r_isOneOf l dC dI adK adV κ H.size τ3_ 2 (by decide) hk hτ3_ ) (cwV 1 hts gd_r_expectsName_46_r_isOneOf rfl rfl rfl dd_r_isOneOf ⟨Nat.le_of_ble_eq_true rfl, Nat.le_of_ble_eq_true rfl⟩) (preVr hP hK hD hE hZ hR hS hA (ci := 6) (q0 := 1) rfl rfl) rfl rfl hl.1 rfl (lv_room (Nat.le_of_ble_eq_true rfl)) dX4_expectsName_14 ⟨Nat.le_of_ble_eq_true rfl, Nat.le_of_ble_eq_true rfl⟩) hD hS hA (fun z9_ τ10_ H locs hq hP hD hS => ?_)
    obtain ⟨hτ10_, q11_⟩ := hq
    rw [hτ10_] at hP hD
    have q11_ : z9_.toInt = 0 ∨ z9_.toInt = 1 := q11_
    refine W.widen (k := 0) (n := 0) (Nat.le_of_ble_eq_true rfl) (Nat.le_of_ble_eq_true rfl) ?_
    refine lv_if_eq (tgt := 32) hx hb dX4_expectsName_17 rfl (fun c12_ => ?_) (fun c12_ => ?_)
    · have tc12_ := (show z9_.toInt = 0 from ti_eq rfl rg_11 c12_)
      refine lv_aload_n hx hb dX4_expectsName_32 rfl (lv_at hl 0 rfl) ?_
      refine va_get (D := (dC, dI)) (ci := 4) (v := .int (τ3_.1 1)) (C := RX4) (T := TX4) (N := 4) hx hb hts hin4 hown hK hP 0 rfl rfl 2 (Nat.le_of_ble_eq_true rfl) (ho (.fieldLink RX4 18 "NearEnough$Reader" "fault" "I") (List.mem_of_getElem? (i := 0) rfl)) (fun _ h9 => h9) rfl dX4_expectsName_33 ?_
      refine lv_if_ne (tgt := 43) hx hb dX4_expectsName_36 rfl (fun c13_ => ?_) (fun c13_ => ?_)
      · have tc13_ := (show (τ3_.1 1).toInt ≠ 0 from ti_ne rfl rg_11 c13_)
        refine lv_iconst (v := 0) hx hb dX4_expectsName_43 rg_0 ?_
        have kk14_ : (0 : Int32).toInt = 0 := rg_11
        have o3 : ((σ.1 1).toInt = 0 ∨ (τ3_.1 1).toInt ≠ 0) ∧ (((0 : Int32).toInt = 1 ∧ (τ3_.1 1).toInt = 0) ∨ ((0 : Int32).toInt = 0 ∧ (τ3_.1 1).toInt ≠ 0)) := by omega
        rw [hQ]
        exact W.zret (v := 0) hx hb hr rfl (fun t ht hW => ⟨⟨0, τ3_, rfl, ⟨hτ3_, o3⟩, wEn_of hP (hK.sub [] rfl) hD ht hW⟩, hS.F ht⟩) hS.2.2 dX4_expectsName_44
      · have tc13_ := (show (τ3_.1 1).toInt = 0 from ti_eq rfl rg_11 c13_)
        refine lv_iconst (v := 1) hx hb dX4_expectsName_39 rg_6 ?_
        refine lv_goto (tgt := 44) hx hb dX4_expectsName_40 rfl ?_
        have kk15_ : (1 : Int32).toInt = 1 := rg_18
        have o4 : ((σ.1 1).toInt = 0 ∨ (τ3_.1 1).toInt ≠ 0) ∧ (((1 : Int32).toInt = 1 ∧ (τ3_.1 1).toInt = 0) ∨ ((1 : Int32).toInt = 0 ∧ (τ3_.1 1).toInt ≠ 0)) := by omega
        rw [hQ]
        exact W.zret (v := 1) hx hb hr rfl (fun t ht hW => ⟨⟨1, τ3_, rfl, ⟨hτ3_, o4⟩, wEn_of hP (hK.sub [] rfl) hD ht hW⟩, hS.F ht⟩) hS.2.2 dX4_expectsName_44
    · have tc12_ := (show z9_.toInt ≠ 0 from ti_ne rfl rg_11 c12_)
      refine lv_aload_n hx hb dX4_expectsName_20 rfl (lv_at hl 0 rfl) ?_
      refine lv_iconst (v := 2) hx hb dX4_expectsName_21 rg_19 ?_
      refine lv_aload_n hx hb dX4_expectsName_22 rfl (lv_at hl 0 rfl) ?_
      refine va_get (D := (dC, dI)) (ci := 4) (v := .ref (kA κ 1)) (C := RX4) (T := TX4) (N := 4) hx hb hts hin4 hown hK hP 0 rfl rfl 0 (Nat.le_of_ble_eq_true rfl) (ho (.fieldLink RX4 30 "NearEnough$Reader" "scanner" "LNearEnough$Scanner;") (List.mem_of_getElem? (i := 1) rfl)) (fun _ h9 => h9) rfl dX4_expectsName_23 ?_
      have bτ3__5 : 0 ≤ (τ3_.1 5).toInt ∧ (τ3_.1 5).toInt ≤ 1000 := hτ3_ 5
      refine va_get (D := (dC, dI)) (ci := 6) (v := .int (τ3_.1 5)) (C := RX6) (T := TX6) (N := 7) hx hb hts hin6 hown hK hP 1 rfl rfl 4 (Nat.le_of_ble_eq_true rfl) (ho (.fieldLink RX4 61 "NearEnough$Scanner" "place" "I") (List.mem_of_getElem? (i := 2) rfl)) (fun _ h9 => h9) rfl dX4_expectsName_26 ?_
      have kk16_ : (2 : Int32).toInt = 2 := rg_20
      refine zy_v (va_runV (As := [.int 2, .int (τ3_.1 5)]) (rest := []) ⟨hx, hb, hml, hown, hts⟩ (r_refuse l dC dI adK adV κ H.size τ3_ 2 (τ3_.1 5) hk hτ3_ (by decide)) (cwV 2 hts gd_r_expectsName_64_r_refuse rfl rfl rfl dd_r_refuse ⟨Nat.le_of_ble_eq_true rfl, Nat.le_of_ble_eq_true rfl⟩) (preVr hP hK hD hE hZ hR hS hA (ci := 4) (q0 := 0) rfl rfl) rfl rfl hl.1 rfl (lv_room (Nat.le_of_ble_eq_true rfl)) dX4_expectsName_29 ⟨Nat.le_of_ble_eq_true rfl, Nat.le_of_ble_eq_true rfl⟩) hD hS hA (fun τ18_ H locs hq hP hD hS => ?_)
      obtain ⟨hτ18_, q19_⟩ := hq
      have q19_ : (τ18_.1 1).toInt ≠ 0 := q19_
      refine W.widen (k := 0) (n := 0) (Nat.le_of_ble_eq_true rfl) (Nat.le_of_ble_eq_true rfl) ?_
      refine lv_aload_n hx hb dX4_expectsName_32 rfl (lv_at hl 0 rfl) ?_
      refine va_get (D := (dC, dI)) (ci := 4) (v := .int (τ18_.1 1)) (C := RX4) (T := TX4) (N := 4) hx hb hts hin4 hown hK hP 0 rfl rfl 2 (Nat.le_of_ble_eq_true rfl) (ho (.fieldLink RX4 18 "NearEnough$Reader" "fault" "I") (List.mem_of_getElem? (i := 0) rfl)) (fun _ h9 => h9) rfl dX4_expectsName_33 ?_
      refine lv_if_ne (tgt := 43) hx hb dX4_expectsName_36 rfl (fun c20_ => ?_) (fun c20_ => ?_)
      · have tc20_ := (show (τ18_.1 1).toInt ≠ 0 from ti_ne rfl rg_11 c20_)
        refine lv_iconst (v := 0) hx hb dX4_expectsName_43 rg_0 ?_
        have kk21_ : (0 : Int32).toInt = 0 := rg_11
        have o5 : ((σ.1 1).toInt = 0 ∨ (τ18_.1 1).toInt ≠ 0) ∧ (((0 : Int32).toInt = 1 ∧ (τ18_.1 1).toInt = 0) ∨ ((0 : Int32).toInt = 0 ∧ (τ18_.1 1).toInt ≠ 0)) := by omega
        rw [hQ]
        exact W.zret (v := 0) hx hb hr rfl (fun t ht hW => ⟨⟨0, τ18_, rfl, ⟨hτ18_, o5⟩, wEn_of hP (hK.sub [] rfl) hD ht hW⟩, hS.F ht⟩) hS.2.2 dX4_expectsName_44
      · have tc20_ := (show (τ18_.1 1).toInt = 0 from ti_eq rfl rg_11 c20_)
        refine lv_iconst (v := 1) hx hb dX4_expectsName_39 rg_6 ?_
        refine lv_goto (tgt := 44) hx hb dX4_expectsName_40 rfl ?_
        have kk22_ : (1 : Int32).toInt = 1 := rg_18
        have o6 : ((σ.1 1).toInt = 0 ∨ (τ18_.1 1).toInt ≠ 0) ∧ (((1 : Int32).toInt = 1 ∧ (τ18_.1 1).toInt = 0) ∨ ((1 : Int32).toInt = 0 ∧ (τ18_.1 1).toInt ≠ 0)) := by omega
        rw [hQ]
        exact W.zret (v := 1) hx hb hr rfl (fun t ht hW => ⟨⟨1, τ18_, rfl, ⟨hτ18_, o6⟩, wEn_of hP (hK.sub [] rfl) hD ht hW⟩, hS.F ht⟩) hS.2.2 dX4_expectsName_44
def ow_r_placeCount : List Cond := [.fieldLink RX3 33 "NearEnough$Program" "rowCount" "I", .fieldLink RX3 11 "NearEnough$Program" "rows" "[LNearEnough$Row;", .fieldLink RX3 49 "NearEnough$Row" "count" "I"]
def vs_r_placeCount : List Cond := .code yX3_placeCount cX3_placeCount 3 (some .int) :: (ow_r_placeCount ++ (wsX30 ++ (wsX50)))
theorem vg_r_placeCount : vs_r_placeCount.all goodWord = true := by decide +kernel
theorem dd_r_placeCount : yX3_placeCount.cls = RX3 ∧ yX3_placeCount.cls ≠ "java/lang/invoke/MethodHandle" ∧ yX3_placeCount.cls ≠ "java/lang/invoke/VarHandle" ∧ (parseMethodDescriptor yX3_placeCount.desc).map (fun d => d.parameters.length) = some 0 := by decide +kernel
def rm_r_placeCount : Room := { frames := 0, cells := 0, slots := 0, locals := 0 }
set_option maxHeartbeats 4000000 in
set_option maxRecDepth 100000 in
theorem r_placeCount (l : Launch) (dC : Nat → ClassId) (dI : Nat → Nat → Nat) (adK adV : Nat → Nat) (κ : CE) (sz : Nat) (σ : MS) (hk : PInv κ) (hI : RInv σ)  : Met l yX3_placeCount vs_r_placeCount rm_r_placeCount (va_Pc [.ref (kA κ 3)] (wSr dC dI adK adV (rW κ σ) (rT κ) sz)) (va_Qi (fun (r : Int32) (τ : MS) => τ = σ ∧ (0 ≤ r.toInt ∧ r.toInt ≤ 6 * (pI κ 0).toInt)) (fun (τ : MS) => wEn dC dI (va_A (rW κ σ) sz) (rW κ τ) []) (va_A (rW κ σ) sz)) 0 0 (va_A (rW κ σ) sz) := by
  refine Met.ofW (cc := cX3_placeCount) (maxL := 3) (ret := (some .int)) (by decide +kernel) rfl ?_
  intro p e s m args below meth c s₁ B hml hv
  obtain ⟨rfl, ⟨hsz, hP, hK, hD0, hE⟩, hZ, hR⟩ := hv
  have hx := B.exec
  have hb := B.bytes
  have hr := B.returns
  have hts := atoms_spec (ws := vs_r_placeCount) B.pre
  have hown : s.vm.findClass RX3 = some m.cls := findClass_of_methodNamed B.named
  have hlocks := B.notSynchronized
  subst hsz
  have hD := hD0.self (sz := s.heap.size)
  generalize hAe : va_A (rW κ σ) s.heap.size = A at hD hZ ⊢
  have hA : ∀ q : Nat, s.heap.size ≤ q → A q := fun q h => by rw [← hAe]; exact Or.inr h
  have hl := lv_entry ([.ref (kA κ 3)]) (n := 3) (Nat.le_of_ble_eq_true rfl)
  rw [lg_entry_eq]
  generalize (lg_sl ([.ref (kA κ 3)]) ++ List.replicate (3 - (lg_sl ([.ref (kA κ 3)])).length) Slot.unset).toArray = ls at hl ⊢
  have hl : lv_has ls 3 [(0, .ref (kA κ 3))] := hl
  have ho := fun w (h : w ∈ ow_r_placeCount) => hts w (List.mem_cons_of_mem _ (List.mem_append_left _ h))
  have hin3 : ∀ w ∈ u_ws RX3 TX3 8, w ∈ vs_r_placeCount := fun w h => (List.mem_cons_of_mem _ (List.mem_append_right _ (List.mem_append_left _ h)))
  have hin5 : ∀ w ∈ u_ws RX5 TX5 5, w ∈ vs_r_placeCount := fun w h => (List.mem_cons_of_mem _ (List.mem_append_right _ (List.mem_append_right _ h)))
  refine zQ (fun Q hQ => ?_)
  refine zH (A := A) (ws := (rW κ σ)) (fun H hP hS => ?_) hP
  have hk0 := hk.1
  have hk1 := hk.2.1
  have hk2 := hk.2.2.1
  refine lv_iconst (v := 0) hx hb dX3_placeCount_0 rg_0 ?_
  refine lv_istore_n (lv' := [(1, .int 0), (0, .ref (kA κ 3))]) hx hb dX3_placeCount_1 rfl hl (Nat.le_of_ble_eq_true rfl) rfl (fun ls hl => ?_)
  refine lv_iconst (v := 0) hx hb dX3_placeCount_2 rg_0 ?_
  refine lv_istore_n (lv' := [(2, .int 0), (1, .int 0), (0, .ref (kA κ 3))]) hx hb dX3_placeCount_3 rfl hl (Nat.le_of_ble_eq_true rfl) rfl (fun ls hl => ?_)
  have pt4_ : ∀ (n4_ : Nat) (v1_ : Int32) (v2_ : Int32) (H : Heap) (locs : List Loc) (ls : Array Slot), (2 - v2_.toInt).toNat < n4_ → (0 ≤ v2_.toInt ∧ v2_.toInt ≤ (pI κ 0).toInt ∧ 0 ≤ v1_.toInt ∧ v1_.toInt ≤ 6 * v2_.toInt) → va_P (dC, dI) vwCl (rW κ σ) H → va_D A (rW κ σ) → va_S A s.heap H locs → lv_has ls 3 [(1, .int v1_), (2, .int v2_), (0, .ref (kA κ 3))] → W p l e (headSpec vs_r_placeCount rm_r_placeCount).room s m #[Value.ref (kA κ 3)] below meth c H locs 0 0 Q (F0 m 4 ls []) := by
    intro n4_
    induction n4_ with
    | zero => intro v1_ v2_ H locs ls hn4_ hf4_0_ hP hD hS hl; exact absurd hn4_ (Nat.not_lt_zero _)
    | succ n4_ ih4_ =>
      intro v1_ v2_ H locs ls hn4_ hf4_0_ hP hD hS hl
      refine lv_iload_n hx hb dX3_placeCount_4 rfl (lv_at hl 1 rfl) ?_
      refine lv_aload_n hx hb dX3_placeCount_5 rfl (lv_at hl 2 rfl) ?_
      refine va_get (D := (dC, dI)) (ci := 3) (v := .int (pI κ 0)) (C := RX3) (T := TX3) (N := 8) hx hb hts hin3 hown hK hP 3 rfl rfl 5 (Nat.le_of_ble_eq_true rfl) (ho (.fieldLink RX3 33 "NearEnough$Program" "rowCount" "I") (List.mem_of_getElem? (i := 0) rfl)) (fun _ h9 => h9) rfl dX3_placeCount_6 ?_
      refine lv_icmp_ge (tgt := 30) hx hb dX3_placeCount_9 rfl (fun c1_ => ?_) (fun c1_ => ?_)
      · have tc1_ := (show (pI κ 0).toInt ≤ v2_.toInt from ti_le rfl rfl c1_)
        refine lv_iload_n hx hb dX3_placeCount_30 rfl (lv_at hl 0 rfl) ?_
        have o1 : 0 ≤ v1_.toInt := by omega
        have o2 : v1_.toInt ≤ 6 * (pI κ 0).toInt := by omega
        rw [hQ]
        exact W.iret (v := v1_) hx hb hr (fun t ht hW => ⟨⟨v1_, σ, rfl, ⟨rfl, ⟨o1, o2⟩⟩, wEn_of hP (hK.sub [] rfl) hD ht hW⟩, hS.F ht⟩) hS.2.2 dX3_placeCount_31
      · have tc1_ := (show v2_.toInt < (pI κ 0).toInt from ti_nle rfl rfl c1_)
        refine lv_iload_n hx hb dX3_placeCount_12 rfl (lv_at hl 0 rfl) ?_
        refine lv_aload_n hx hb dX3_placeCount_13 rfl (lv_at hl 2 rfl) ?_
        refine va_get (D := (dC, dI)) (ci := 3) (v := .ref (kA κ 4)) (C := RX3) (T := TX3) (N := 8) hx hb hts hin3 hown hK hP 3 rfl rfl 0 (Nat.le_of_ble_eq_true rfl) (ho (.fieldLink RX3 11 "NearEnough$Program" "rows" "[LNearEnough$Row;") (List.mem_of_getElem? (i := 1) rfl)) (fun _ h9 => h9) rfl dX3_placeCount_14 ?_
        refine lv_iload_n hx hb dX3_placeCount_17 rfl (lv_at hl 1 rfl) ?_
        have o3 : 0 ≤ v2_.toInt := by omega
        have o4 : v2_.toInt < ((2 : Nat) : Int) := by omega
        refine va_aldq hx hb hK hP 4 1 rfl rfl (ti_inx o3 o4) dX3_placeCount_18 ?_
        have o5 : v2_.toInt < (pI κ 0).toInt := by omega
        obtain ⟨a2_, t3_, ea4_, ga5_⟩ := hk.rw (x := v2_) o3 o5
        refine zv (v := .ref a2_) (by rw [ea4_]; rfl) ?_
        have bb6_ : 1 ≤ (t3_.1 0).toInt ∧ (t3_.1 0).toInt ≤ 6 ∧ 0 ≤ (t3_.1 3).toInt ∧ (t3_.1 3).toInt + (t3_.1 0).toInt ≤ 12 := ga5_.2.2
        obtain ⟨kp7_, hkp7_⟩ := rpl (κ := κ) (σ := σ) ga5_.1 ga5_.2.1
        refine va_get (D := (dC, dI)) (ci := 5) (v := .int (t3_.1 0)) (C := RX5) (T := TX5) (N := 5) hx hb hts hin5 hown hK hP kp7_ hkp7_ rfl 1 (Nat.le_of_ble_eq_true rfl) (ho (.fieldLink RX3 49 "NearEnough$Row" "count" "I") (List.mem_of_getElem? (i := 2) rfl)) (fun _ h9 => h9) rfl dX3_placeCount_19 ?_
        refine lv_iadd hx hb dX3_placeCount_22 ?_
        refine lv_topi (fun z8_ ez8_ => ?_)
        have o6 : -2147483648 ≤ v1_.toInt + (t3_.1 0).toInt := by omega
        have o7 : v1_.toInt + (t3_.1 0).toInt ≤ 2147483647 := by omega
        have tz8_ : z8_.toInt = v1_.toInt + (t3_.1 0).toInt := ti_add ez8_ rfl rfl o6 o7
        refine lv_istore_n (lv' := [(1, .int z8_), (2, .int v2_), (0, .ref (kA κ 3))]) hx hb dX3_placeCount_23 rfl hl (Nat.le_of_ble_eq_true rfl) rfl (fun ls hl => ?_)
        obtain ⟨z9_, ez9_⟩ : ∃ y : Int32, y = v2_ + 1 := ⟨_, rfl⟩
        have o8 : -2147483648 ≤ v2_.toInt + 1 := by omega
        have o9 : v2_.toInt + 1 ≤ 2147483647 := by omega
        have tz9_ := ti_add ez9_ rfl rg_18 o8 o9
        refine lv_iinc (v := z9_) (lv' := [(2, .int z9_), (1, .int z8_), (0, .ref (kA κ 3))]) hx hb dX3_placeCount_24 hl (k := 1) rfl (iincp ez9_ rg_6) (Nat.le_of_ble_eq_true rfl) rfl (fun ls hl => ?_)
        refine lv_goto (tgt := 4) hx hb dX3_placeCount_27 rfl ?_
        have o10 : (2 - z9_.toInt).toNat < n4_ := by omega
        have o11 : 0 ≤ z9_.toInt := by omega
        have o12 : z9_.toInt ≤ (pI κ 0).toInt := by omega
        have o13 : 0 ≤ z8_.toInt := by omega
        have o14 : z8_.toInt ≤ 6 * z9_.toInt := by omega
        exact ih4_  z8_ z9_ _ _ _ o10 ⟨o11, o12, o13, o14⟩ hP hD hS (lv_sub hl [1, 0, 2] rfl)
  have kk10_ : (0 : Int32).toInt = 0 := rg_11
  have kk11_ : (0 : Int32).toInt = 0 := rg_11
  have o15 : 0 ≤ (0 : Int32).toInt := by omega
  have o16 : (0 : Int32).toInt ≤ (pI κ 0).toInt := by omega
  have o17 : (0 : Int32).toInt ≤ 6 * (0 : Int32).toInt := by omega
  exact pt4_ _  0 0 _ _ _ (Nat.lt_succ_self _) ⟨o15, o16, o15, o17⟩ hP hD hS (lv_sub hl [1, 0, 2] rfl)
def ow_r_hasEndOf : List Cond := [.fieldLink RX3 40 "NearEnough$Program" "endCount" "I", .fieldLink RX3 23 "NearEnough$Program" "endStep" "[I"]
def vs_r_hasEndOf : List Cond := .code yX3_hasEndOf cX3_hasEndOf 3 (some .boolean) :: (ow_r_hasEndOf ++ (wsX30))
theorem vg_r_hasEndOf : vs_r_hasEndOf.all goodWord = true := by decide +kernel
theorem dd_r_hasEndOf : yX3_hasEndOf.cls = RX3 ∧ yX3_hasEndOf.cls ≠ "java/lang/invoke/MethodHandle" ∧ yX3_hasEndOf.cls ≠ "java/lang/invoke/VarHandle" ∧ (parseMethodDescriptor yX3_hasEndOf.desc).map (fun d => d.parameters.length) = some 1 := by decide +kernel
def rm_r_hasEndOf : Room := { frames := 0, cells := 0, slots := 0, locals := 0 }
set_option maxHeartbeats 4000000 in
set_option maxRecDepth 100000 in
theorem r_hasEndOf (l : Launch) (dC : Nat → ClassId) (dI : Nat → Nat → Nat) (adK adV : Nat → Nat) (κ : CE) (sz : Nat) (σ : MS) (x : Int32) (hk : PInv κ) (hI : RInv σ)  : Met l yX3_hasEndOf vs_r_hasEndOf rm_r_hasEndOf (va_Pc [.ref (kA κ 3), .int x] (wSr dC dI adK adV (rW κ σ) (rT κ) sz)) (va_Qi (fun (r : Int32) (τ : MS) => τ = σ ∧ (r.toInt = 0 ∨ r.toInt = 1)) (fun (τ : MS) => wEn dC dI (va_A (rW κ σ) sz) (rW κ τ) []) (va_A (rW κ σ) sz)) 0 0 (va_A (rW κ σ) sz) := by
  refine Met.ofW (cc := cX3_hasEndOf) (maxL := 3) (ret := (some .boolean)) (by decide +kernel) rfl ?_
  intro p e s m args below meth c s₁ B hml hv
  obtain ⟨rfl, ⟨hsz, hP, hK, hD0, hE⟩, hZ, hR⟩ := hv
  have hx := B.exec
  have hb := B.bytes
  have hr := B.returns
  have hts := atoms_spec (ws := vs_r_hasEndOf) B.pre
  have hown : s.vm.findClass RX3 = some m.cls := findClass_of_methodNamed B.named
  have hlocks := B.notSynchronized
  subst hsz
  have hD := hD0.self (sz := s.heap.size)
  generalize hAe : va_A (rW κ σ) s.heap.size = A at hD hZ ⊢
  have hA : ∀ q : Nat, s.heap.size ≤ q → A q := fun q h => by rw [← hAe]; exact Or.inr h
  have hl := lv_entry ([.ref (kA κ 3), .int x]) (n := 3) (Nat.le_of_ble_eq_true rfl)
  rw [lg_entry_eq]
  generalize (lg_sl ([.ref (kA κ 3), .int x]) ++ List.replicate (3 - (lg_sl ([.ref (kA κ 3), .int x])).length) Slot.unset).toArray = ls at hl ⊢
  have hl : lv_has ls 3 [(0, .ref (kA κ 3)), (1, .int x)] := hl
  have ho := fun w (h : w ∈ ow_r_hasEndOf) => hts w (List.mem_cons_of_mem _ (List.mem_append_left _ h))
  have hin3 : ∀ w ∈ u_ws RX3 TX3 8, w ∈ vs_r_hasEndOf := fun w h => (List.mem_cons_of_mem _ (List.mem_append_right _ h))
  refine zQ (fun Q hQ => ?_)
  refine zH (A := A) (ws := (rW κ σ)) (fun H hP hS => ?_) hP
  have hk0 := hk.1
  have hk1 := hk.2.1
  have hk2 := hk.2.2.1
  refine lv_iconst (v := 0) hx hb dX3_hasEndOf_0 rg_0 ?_
  refine lv_istore_n (lv' := [(2, .int 0), (0, .ref (kA κ 3)), (1, .int x)]) hx hb dX3_hasEndOf_1 rfl hl (Nat.le_of_ble_eq_true rfl) rfl (fun ls hl => ?_)
  have pt2_ : ∀ (n2_ : Nat) (v2_ : Int32) (H : Heap) (locs : List Loc) (ls : Array Slot), (4 - v2_.toInt).toNat < n2_ → (0 ≤ v2_.toInt) → va_P (dC, dI) vwCl (rW κ σ) H → va_D A (rW κ σ) → va_S A s.heap H locs → lv_has ls 3 [(2, .int v2_), (0, .ref (kA κ 3)), (1, .int x)] → W p l e (headSpec vs_r_hasEndOf rm_r_hasEndOf).room s m #[Value.ref (kA κ 3), Value.int x] below meth c H locs 0 0 Q (F0 m 2 ls []) := by
    intro n2_
    induction n2_ with
    | zero => intro v2_ H locs ls hn2_ hf2_0_ hP hD hS hl; exact absurd hn2_ (Nat.not_lt_zero _)
    | succ n2_ ih2_ =>
      intro v2_ H locs ls hn2_ hf2_0_ hP hD hS hl
      refine lv_iload_n hx hb dX3_hasEndOf_2 rfl (lv_at hl 0 rfl) ?_
      refine lv_aload_n hx hb dX3_hasEndOf_3 rfl (lv_at hl 1 rfl) ?_
      refine va_get (D := (dC, dI)) (ci := 3) (v := .int (pI κ 2)) (C := RX3) (T := TX3) (N := 8) hx hb hts hin3 hown hK hP 3 rfl rfl 7 (Nat.le_of_ble_eq_true rfl) (ho (.fieldLink RX3 40 "NearEnough$Program" "endCount" "I") (List.mem_of_getElem? (i := 0) rfl)) (fun _ h9 => h9) rfl dX3_hasEndOf_4 ?_
      refine lv_icmp_ge (tgt := 28) hx hb dX3_hasEndOf_7 rfl (fun c1_ => ?_) (fun c1_ => ?_)
      · have tc1_ := (show (pI κ 2).toInt ≤ v2_.toInt from ti_le rfl rfl c1_)
        refine lv_iconst (v := 0) hx hb dX3_hasEndOf_28 rg_0 ?_
        have kk2_ : (0 : Int32).toInt = 0 := rg_11
        have o1 : (0 : Int32).toInt = 0 ∨ (0 : Int32).toInt = 1 := by omega
        rw [hQ]
        exact W.zret (v := 0) hx hb hr rfl (fun t ht hW => ⟨⟨0, σ, rfl, ⟨rfl, o1⟩, wEn_of hP (hK.sub [] rfl) hD ht hW⟩, hS.F ht⟩) hS.2.2 dX3_hasEndOf_29
      · have tc1_ := (show v2_.toInt < (pI κ 2).toInt from ti_nle rfl rfl c1_)
        refine lv_aload_n hx hb dX3_hasEndOf_10 rfl (lv_at hl 1 rfl) ?_
        refine va_get (D := (dC, dI)) (ci := 3) (v := .ref (kA κ 6)) (C := RX3) (T := TX3) (N := 8) hx hb hts hin3 hown hK hP 3 rfl rfl 2 (Nat.le_of_ble_eq_true rfl) (ho (.fieldLink RX3 23 "NearEnough$Program" "endStep" "[I") (List.mem_of_getElem? (i := 1) rfl)) (fun _ h9 => h9) rfl dX3_hasEndOf_11 ?_
        refine lv_iload_n hx hb dX3_hasEndOf_14 rfl (lv_at hl 0 rfl) ?_
        have o2 : 0 ≤ v2_.toInt := by omega
        have o3 : v2_.toInt < ((4 : Nat) : Int) := by omega
        refine va_iald hx hb hK hP 6 3 rfl rfl (ti_inx o2 o3) dX3_hasEndOf_15 ?_
        refine lv_topi (fun z3_ ez3_ => ?_)
        have o4 : v2_.toInt < (pI κ 2).toInt := by omega
        have bz3_ := hk.en ez3_ o2 o4
        refine lv_iload_n hx hb dX3_hasEndOf_16 rfl (lv_at hl 2 rfl) ?_
        refine lv_icmp_ne (tgt := 22) hx hb dX3_hasEndOf_17 rfl (fun c4_ => ?_) (fun c4_ => ?_)
        · have tc4_ := (show z3_.toInt ≠ x.toInt from ti_ne rfl rfl c4_)
          obtain ⟨z5_, ez5_⟩ : ∃ y : Int32, y = v2_ + 1 := ⟨_, rfl⟩
          have o5 : -2147483648 ≤ v2_.toInt + 1 := by omega
          have o6 : v2_.toInt + 1 ≤ 2147483647 := by omega
          have tz5_ := ti_add ez5_ rfl rg_18 o5 o6
          refine lv_iinc (v := z5_) (lv' := [(2, .int z5_), (0, .ref (kA κ 3)), (1, .int x)]) hx hb dX3_hasEndOf_22 hl (k := 0) rfl (iincp ez5_ rg_6) (Nat.le_of_ble_eq_true rfl) rfl (fun ls hl => ?_)
          refine lv_goto (tgt := 2) hx hb dX3_hasEndOf_25 rfl ?_
          have o7 : (4 - z5_.toInt).toNat < n2_ := by omega
          have o8 : 0 ≤ z5_.toInt := by omega
          exact ih2_  z5_ _ _ _ o7 o8 hP hD hS (lv_sub hl [0, 1, 2] rfl)
        · have tc4_ := (show z3_.toInt = x.toInt from ti_eq rfl rfl c4_)
          refine lv_iconst (v := 1) hx hb dX3_hasEndOf_20 rg_6 ?_
          have kk6_ : (1 : Int32).toInt = 1 := rg_18
          have o9 : (1 : Int32).toInt = 0 ∨ (1 : Int32).toInt = 1 := by omega
          rw [hQ]
          exact W.zret (v := 1) hx hb hr rfl (fun t ht hW => ⟨⟨1, σ, rfl, ⟨rfl, o9⟩, wEn_of hP (hK.sub [] rfl) hD ht hW⟩, hS.F ht⟩) hS.2.2 dX3_hasEndOf_21
  have kk7_ : (0 : Int32).toInt = 0 := rg_11
  have o10 : 0 ≤ (0 : Int32).toInt := by omega
  exact pt2_ _  0 _ _ _ (Nat.lt_succ_self _) o10 hP hD hS (lv_sub hl [0, 1, 2] rfl)
def ow_r_stepNamed : List Cond := [.fieldLink RX3 37 "NearEnough$Program" "stepCount" "I", .fieldLink RX3 19 "NearEnough$Program" "steps" "[LNearEnough$Step;", .fieldLink RX3 56 "NearEnough$Step" "name" "J"]
def vs_r_stepNamed : List Cond := .code yX3_stepNamed cX3_stepNamed 4 (some .int) :: (ow_r_stepNamed ++ (wsX30 ++ (wsX90)))
theorem vg_r_stepNamed : vs_r_stepNamed.all goodWord = true := by decide +kernel
theorem dd_r_stepNamed : yX3_stepNamed.cls = RX3 ∧ yX3_stepNamed.cls ≠ "java/lang/invoke/MethodHandle" ∧ yX3_stepNamed.cls ≠ "java/lang/invoke/VarHandle" ∧ (parseMethodDescriptor yX3_stepNamed.desc).map (fun d => d.parameters.length) = some 1 := by decide +kernel
def rm_r_stepNamed : Room := { frames := 0, cells := 0, slots := 0, locals := 0 }
set_option maxHeartbeats 4000000 in
set_option maxRecDepth 100000 in
theorem r_stepNamed (l : Launch) (dC : Nat → ClassId) (dI : Nat → Nat → Nat) (adK adV : Nat → Nat) (κ : CE) (sz : Nat) (σ : MS) (x : Int64) (hk : PInv κ) (hI : RInv σ)  : Met l yX3_stepNamed vs_r_stepNamed rm_r_stepNamed (va_Pc [.ref (kA κ 3), .long x] (wSr dC dI adK adV (rW κ σ) (rT κ) sz)) (va_Qi (fun (r : Int32) (τ : MS) => τ = σ ∧ (-1 ≤ r.toInt ∧ r.toInt < (pI κ 1).toInt)) (fun (τ : MS) => wEn dC dI (va_A (rW κ σ) sz) (rW κ τ) []) (va_A (rW κ σ) sz)) 0 0 (va_A (rW κ σ) sz) := by
  refine Met.ofW (cc := cX3_stepNamed) (maxL := 4) (ret := (some .int)) (by decide +kernel) rfl ?_
  intro p e s m args below meth c s₁ B hml hv
  obtain ⟨rfl, ⟨hsz, hP, hK, hD0, hE⟩, hZ, hR⟩ := hv
  have hx := B.exec
  have hb := B.bytes
  have hr := B.returns
  have hts := atoms_spec (ws := vs_r_stepNamed) B.pre
  have hown : s.vm.findClass RX3 = some m.cls := findClass_of_methodNamed B.named
  have hlocks := B.notSynchronized
  subst hsz
  have hD := hD0.self (sz := s.heap.size)
  generalize hAe : va_A (rW κ σ) s.heap.size = A at hD hZ ⊢
  have hA : ∀ q : Nat, s.heap.size ≤ q → A q := fun q h => by rw [← hAe]; exact Or.inr h
  have hl := lv_entry ([.ref (kA κ 3), .long x]) (n := 4) (Nat.le_of_ble_eq_true rfl)
  rw [lg_entry_eq]
  generalize (lg_sl ([.ref (kA κ 3), .long x]) ++ List.replicate (4 - (lg_sl ([.ref (kA κ 3), .long x])).length) Slot.unset).toArray = ls at hl ⊢
  have hl : lv_has ls 4 [(0, .ref (kA κ 3)), (1, .long x)] := hl
  have ho := fun w (h : w ∈ ow_r_stepNamed) => hts w (List.mem_cons_of_mem _ (List.mem_append_left _ h))
  have hin3 : ∀ w ∈ u_ws RX3 TX3 8, w ∈ vs_r_stepNamed := fun w h => (List.mem_cons_of_mem _ (List.mem_append_right _ (List.mem_append_left _ h)))
  have hin9 : ∀ w ∈ u_ws RX9 TX9 11, w ∈ vs_r_stepNamed := fun w h => (List.mem_cons_of_mem _ (List.mem_append_right _ (List.mem_append_right _ h)))
  refine zQ (fun Q hQ => ?_)
  refine zH (A := A) (ws := (rW κ σ)) (fun H hP hS => ?_) hP
  have hk0 := hk.1
  have hk1 := hk.2.1
  have hk2 := hk.2.2.1
  refine lv_iconst (v := 0) hx hb dX3_stepNamed_0 rg_0 ?_
  refine lv_istore_n (lv' := [(3, .int 0), (0, .ref (kA κ 3)), (1, .long x)]) hx hb dX3_stepNamed_1 rfl hl (Nat.le_of_ble_eq_true rfl) rfl (fun ls hl => ?_)
  have pt2_ : ∀ (n2_ : Nat) (v3_ : Int32) (H : Heap) (locs : List Loc) (ls : Array Slot), (12 - v3_.toInt).toNat < n2_ → (0 ≤ v3_.toInt) → va_P (dC, dI) vwCl (rW κ σ) H → va_D A (rW κ σ) → va_S A s.heap H locs → lv_has ls 4 [(3, .int v3_), (0, .ref (kA κ 3)), (1, .long x)] → W p l e (headSpec vs_r_stepNamed rm_r_stepNamed).room s m #[Value.ref (kA κ 3), Value.long x] below meth c H locs 0 0 Q (F0 m 2 ls []) := by
    intro n2_
    induction n2_ with
    | zero => intro v3_ H locs ls hn2_ hf2_0_ hP hD hS hl; exact absurd hn2_ (Nat.not_lt_zero _)
    | succ n2_ ih2_ =>
      intro v3_ H locs ls hn2_ hf2_0_ hP hD hS hl
      refine lv_iload_n hx hb dX3_stepNamed_2 rfl (lv_at hl 0 rfl) ?_
      refine lv_aload_n hx hb dX3_stepNamed_3 rfl (lv_at hl 1 rfl) ?_
      refine va_get (D := (dC, dI)) (ci := 3) (v := .int (pI κ 1)) (C := RX3) (T := TX3) (N := 8) hx hb hts hin3 hown hK hP 3 rfl rfl 6 (Nat.le_of_ble_eq_true rfl) (ho (.fieldLink RX3 37 "NearEnough$Program" "stepCount" "I") (List.mem_of_getElem? (i := 0) rfl)) (fun _ h9 => h9) rfl dX3_stepNamed_4 ?_
      refine lv_icmp_ge (tgt := 32) hx hb dX3_stepNamed_7 rfl (fun c1_ => ?_) (fun c1_ => ?_)
      · have tc1_ := (show (pI κ 1).toInt ≤ v3_.toInt from ti_le rfl rfl c1_)
        refine lv_iconst (v := (-1)) hx hb dX3_stepNamed_32 rg_53 ?_
        have kk2_ : ((-1) : Int32).toInt = (-1) := rg_489
        have o1 : -1 ≤ (-1 : Int32).toInt := by omega
        have o2 : (-1 : Int32).toInt < (pI κ 1).toInt := by omega
        rw [hQ]
        exact W.iret (v := (-1)) hx hb hr (fun t ht hW => ⟨⟨(-1), σ, rfl, ⟨rfl, ⟨o1, o2⟩⟩, wEn_of hP (hK.sub [] rfl) hD ht hW⟩, hS.F ht⟩) hS.2.2 dX3_stepNamed_33
      · have tc1_ := (show v3_.toInt < (pI κ 1).toInt from ti_nle rfl rfl c1_)
        refine lv_aload_n hx hb dX3_stepNamed_10 rfl (lv_at hl 1 rfl) ?_
        refine va_get (D := (dC, dI)) (ci := 3) (v := .ref (kA κ 5)) (C := RX3) (T := TX3) (N := 8) hx hb hts hin3 hown hK hP 3 rfl rfl 1 (Nat.le_of_ble_eq_true rfl) (ho (.fieldLink RX3 19 "NearEnough$Program" "steps" "[LNearEnough$Step;") (List.mem_of_getElem? (i := 1) rfl)) (fun _ h9 => h9) rfl dX3_stepNamed_11 ?_
        refine lv_iload_n hx hb dX3_stepNamed_14 rfl (lv_at hl 0 rfl) ?_
        have o3 : 0 ≤ v3_.toInt := by omega
        have o4 : v3_.toInt < ((12 : Nat) : Int) := by omega
        refine va_aldq hx hb hK hP 5 2 rfl rfl (ti_inx o3 o4) dX3_stepNamed_15 ?_
        have o5 : v3_.toInt < (pI κ 1).toInt := by omega
        obtain ⟨a3_, t4_, ea5_, ga6_⟩ := hk.st (x := v3_) o3 o5
        refine zv (v := .ref a3_) (by rw [ea5_]; rfl) ?_
        obtain ⟨kp7_, hkp7_⟩ := rpl (κ := κ) (σ := σ) ga6_.1 ga6_.2.1
        refine va_get (D := (dC, dI)) (ci := 9) (v := .long (t4_.2.1 0)) (C := RX9) (T := TX9) (N := 11) hx hb hts hin9 hown hK hP kp7_ hkp7_ rfl 1 (Nat.le_of_ble_eq_true rfl) (ho (.fieldLink RX3 56 "NearEnough$Step" "name" "J") (List.mem_of_getElem? (i := 2) rfl)) (fun _ h9 => h9) rfl dX3_stepNamed_16 ?_
        refine lv_lload_n hx hb dX3_stepNamed_19 rfl (lv_at hl 2 rfl) ?_
        refine W.lcmp hx hb dX3_stepNamed_20 ?_
        refine lv_topi (fun z8_ ez8_ => ?_)
        refine lv_if_ne (tgt := 26) hx hb dX3_stepNamed_21 rfl (fun c9_ => ?_) (fun c9_ => ?_)
        · have tc9_ := (show z8_.toInt ≠ 0 from ti_ne rfl rg_11 c9_)
          have lc9_ : ¬ (t4_.2.1 0) = x := fun h => c9_ (by rw [ez8_]; exact (lg_cmp_eq (t4_.2.1 0) x).mpr h)
          obtain ⟨z10_, ez10_⟩ : ∃ y : Int32, y = v3_ + 1 := ⟨_, rfl⟩
          have o6 : -2147483648 ≤ v3_.toInt + 1 := by omega
          have o7 : v3_.toInt + 1 ≤ 2147483647 := by omega
          have tz10_ := ti_add ez10_ rfl rg_18 o6 o7
          refine lv_iinc (v := z10_) (lv' := [(3, .int z10_), (0, .ref (kA κ 3)), (1, .long x)]) hx hb dX3_stepNamed_26 hl (k := 0) rfl (iincp ez10_ rg_6) (Nat.le_of_ble_eq_true rfl) rfl (fun ls hl => ?_)
          refine lv_goto (tgt := 2) hx hb dX3_stepNamed_29 rfl ?_
          have o8 : (12 - z10_.toInt).toNat < n2_ := by omega
          have o9 : 0 ≤ z10_.toInt := by omega
          exact ih2_  z10_ _ _ _ o8 o9 hP hD hS (lv_sub hl [0, 1, 2] rfl)
        · have tc9_ := (show z8_.toInt = 0 from ti_eq rfl rg_11 c9_)
          have lc9_ : (t4_.2.1 0) = x := (lg_cmp_eq (t4_.2.1 0) x).mp (by rw [← ez8_]; exact c9_)
          refine lv_iload_n hx hb dX3_stepNamed_24 rfl (lv_at hl 0 rfl) ?_
          have o10 : -1 ≤ v3_.toInt := by omega
          rw [hQ]
          exact W.iret (v := v3_) hx hb hr (fun t ht hW => ⟨⟨v3_, σ, rfl, ⟨rfl, ⟨o10, o5⟩⟩, wEn_of hP (hK.sub [] rfl) hD ht hW⟩, hS.F ht⟩) hS.2.2 dX3_stepNamed_25
  have kk11_ : (0 : Int32).toInt = 0 := rg_11
  have o11 : 0 ≤ (0 : Int32).toInt := by omega
  exact pt2_ _  0 _ _ _ (Nat.lt_succ_self _) o11 hP hD hS (lv_sub hl [0, 1, 2] rfl)
def ow_r_rowNamed : List Cond := [.fieldLink RX3 33 "NearEnough$Program" "rowCount" "I", .fieldLink RX3 11 "NearEnough$Program" "rows" "[LNearEnough$Row;", .fieldLink RX3 52 "NearEnough$Row" "name" "J"]
def vs_r_rowNamed : List Cond := .code yX3_rowNamed cX3_rowNamed 4 (some (.object "NearEnough$Row")) :: (ow_r_rowNamed ++ (wsX30 ++ (wsX50)))
theorem vg_r_rowNamed : vs_r_rowNamed.all goodWord = true := by decide +kernel
theorem dd_r_rowNamed : yX3_rowNamed.cls = RX3 ∧ yX3_rowNamed.cls ≠ "java/lang/invoke/MethodHandle" ∧ yX3_rowNamed.cls ≠ "java/lang/invoke/VarHandle" ∧ (parseMethodDescriptor yX3_rowNamed.desc).map (fun d => d.parameters.length) = some 1 := by decide +kernel
def rm_r_rowNamed : Room := { frames := 0, cells := 0, slots := 0, locals := 0 }
set_option maxHeartbeats 4000000 in
set_option maxRecDepth 100000 in
theorem r_rowNamed (l : Launch) (dC : Nat → ClassId) (dI : Nat → Nat → Nat) (adK adV : Nat → Nat) (κ : CE) (sz : Nat) (σ : MS) (x : Int64) (hk : PInv κ) (hI : RInv σ)  : Met l yX3_rowNamed vs_r_rowNamed rm_r_rowNamed (va_Pc [.ref (kA κ 3), .long x] (wSr dC dI adK adV (rW κ σ) (rT κ) sz)) (va_Qq (fun (r : Option Nat) (τ : MS) => τ = σ ∧ (∀ a9, r = some a9 → ∃ u9, IsRow κ a9 u9)) (fun (τ : MS) => wEn dC dI (va_A (rW κ σ) sz) (rW κ τ) []) (va_A (rW κ σ) sz)) 0 0 (va_A (rW κ σ) sz) := by
  refine Met.ofW (cc := cX3_rowNamed) (maxL := 4) (ret := (some (.object "NearEnough$Row"))) (by decide +kernel) rfl ?_
  intro p e s m args below meth c s₁ B hml hv
  obtain ⟨rfl, ⟨hsz, hP, hK, hD0, hE⟩, hZ, hR⟩ := hv
  have hx := B.exec
  have hb := B.bytes
  have hr := B.returns
  have hts := atoms_spec (ws := vs_r_rowNamed) B.pre
  have hown : s.vm.findClass RX3 = some m.cls := findClass_of_methodNamed B.named
  have hlocks := B.notSynchronized
  subst hsz
  have hD := hD0.self (sz := s.heap.size)
  generalize hAe : va_A (rW κ σ) s.heap.size = A at hD hZ ⊢
  have hA : ∀ q : Nat, s.heap.size ≤ q → A q := fun q h => by rw [← hAe]; exact Or.inr h
  have hl := lv_entry ([.ref (kA κ 3), .long x]) (n := 4) (Nat.le_of_ble_eq_true rfl)
  rw [lg_entry_eq]
  generalize (lg_sl ([.ref (kA κ 3), .long x]) ++ List.replicate (4 - (lg_sl ([.ref (kA κ 3), .long x])).length) Slot.unset).toArray = ls at hl ⊢
  have hl : lv_has ls 4 [(0, .ref (kA κ 3)), (1, .long x)] := hl
  have ho := fun w (h : w ∈ ow_r_rowNamed) => hts w (List.mem_cons_of_mem _ (List.mem_append_left _ h))
  have hin3 : ∀ w ∈ u_ws RX3 TX3 8, w ∈ vs_r_rowNamed := fun w h => (List.mem_cons_of_mem _ (List.mem_append_right _ (List.mem_append_left _ h)))
  have hin5 : ∀ w ∈ u_ws RX5 TX5 5, w ∈ vs_r_rowNamed := fun w h => (List.mem_cons_of_mem _ (List.mem_append_right _ (List.mem_append_right _ h)))
  refine zQ (fun Q hQ => ?_)
  refine zH (A := A) (ws := (rW κ σ)) (fun H hP hS => ?_) hP
  have hk0 := hk.1
  have hk1 := hk.2.1
  have hk2 := hk.2.2.1
  refine lv_iconst (v := 0) hx hb dX3_rowNamed_0 rg_0 ?_
  refine lv_istore_n (lv' := [(3, .int 0), (0, .ref (kA κ 3)), (1, .long x)]) hx hb dX3_rowNamed_1 rfl hl (Nat.le_of_ble_eq_true rfl) rfl (fun ls hl => ?_)
  have pt2_ : ∀ (n2_ : Nat) (v3_ : Int32) (H : Heap) (locs : List Loc) (ls : Array Slot), (2 - v3_.toInt).toNat < n2_ → (0 ≤ v3_.toInt) → va_P (dC, dI) vwCl (rW κ σ) H → va_D A (rW κ σ) → va_S A s.heap H locs → lv_has ls 4 [(3, .int v3_), (0, .ref (kA κ 3)), (1, .long x)] → W p l e (headSpec vs_r_rowNamed rm_r_rowNamed).room s m #[Value.ref (kA κ 3), Value.long x] below meth c H locs 0 0 Q (F0 m 2 ls []) := by
    intro n2_
    induction n2_ with
    | zero => intro v3_ H locs ls hn2_ hf2_0_ hP hD hS hl; exact absurd hn2_ (Nat.not_lt_zero _)
    | succ n2_ ih2_ =>
      intro v3_ H locs ls hn2_ hf2_0_ hP hD hS hl
      refine lv_iload_n hx hb dX3_rowNamed_2 rfl (lv_at hl 0 rfl) ?_
      refine lv_aload_n hx hb dX3_rowNamed_3 rfl (lv_at hl 1 rfl) ?_
      refine va_get (D := (dC, dI)) (ci := 3) (v := .int (pI κ 0)) (C := RX3) (T := TX3) (N := 8) hx hb hts hin3 hown hK hP 3 rfl rfl 5 (Nat.le_of_ble_eq_true rfl) (ho (.fieldLink RX3 33 "NearEnough$Program" "rowCount" "I") (List.mem_of_getElem? (i := 0) rfl)) (fun _ h9 => h9) rfl dX3_rowNamed_4 ?_
      refine lv_icmp_ge (tgt := 37) hx hb dX3_rowNamed_7 rfl (fun c1_ => ?_) (fun c1_ => ?_)
      · have tc1_ := (show (pI κ 0).toInt ≤ v3_.toInt from ti_le rfl rfl c1_)
        refine lv_null hx hb dX3_rowNamed_37 ?_
        rw [hQ]
        exact W.aret (v := .null) hx hb hr (Or.inl ⟨_, rfl⟩) (Or.inl rfl) (fun t ht hW => ⟨⟨none, σ, rfl, ⟨rfl, (fun a9 h9 => absurd h9 (by simp))⟩, wEn_of hP (hK.sub [] rfl) hD ht hW⟩, hS.F ht⟩) hS.2.2 dX3_rowNamed_38
      · have tc1_ := (show v3_.toInt < (pI κ 0).toInt from ti_nle rfl rfl c1_)
        refine lv_aload_n hx hb dX3_rowNamed_10 rfl (lv_at hl 1 rfl) ?_
        refine va_get (D := (dC, dI)) (ci := 3) (v := .ref (kA κ 4)) (C := RX3) (T := TX3) (N := 8) hx hb hts hin3 hown hK hP 3 rfl rfl 0 (Nat.le_of_ble_eq_true rfl) (ho (.fieldLink RX3 11 "NearEnough$Program" "rows" "[LNearEnough$Row;") (List.mem_of_getElem? (i := 1) rfl)) (fun _ h9 => h9) rfl dX3_rowNamed_11 ?_
        refine lv_iload_n hx hb dX3_rowNamed_14 rfl (lv_at hl 0 rfl) ?_
        have o1 : 0 ≤ v3_.toInt := by omega
        have o2 : v3_.toInt < ((2 : Nat) : Int) := by omega
        refine va_aldq hx hb hK hP 4 1 rfl rfl (ti_inx o1 o2) dX3_rowNamed_15 ?_
        have o3 : v3_.toInt < (pI κ 0).toInt := by omega
        obtain ⟨a2_, t3_, ea4_, ga5_⟩ := hk.rw (x := v3_) o1 o3
        refine zv (v := .ref a2_) (by rw [ea4_]; rfl) ?_
        obtain ⟨kp6_, hkp6_⟩ := rpl (κ := κ) (σ := σ) ga5_.1 ga5_.2.1
        refine va_get (D := (dC, dI)) (ci := 5) (v := .long t3_.2) (C := RX5) (T := TX5) (N := 5) hx hb hts hin5 hown hK hP kp6_ hkp6_ rfl 0 (Nat.le_of_ble_eq_true rfl) (ho (.fieldLink RX3 52 "NearEnough$Row" "name" "J") (List.mem_of_getElem? (i := 2) rfl)) (fun _ h9 => h9) rfl dX3_rowNamed_16 ?_
        refine lv_lload_n hx hb dX3_rowNamed_19 rfl (lv_at hl 2 rfl) ?_
        refine W.lcmp hx hb dX3_rowNamed_20 ?_
        refine lv_topi (fun z7_ ez7_ => ?_)
        refine lv_if_ne (tgt := 31) hx hb dX3_rowNamed_21 rfl (fun c8_ => ?_) (fun c8_ => ?_)
        · have tc8_ := (show z7_.toInt ≠ 0 from ti_ne rfl rg_11 c8_)
          have lc8_ : ¬ t3_.2 = x := fun h => c8_ (by rw [ez7_]; exact (lg_cmp_eq t3_.2 x).mpr h)
          obtain ⟨z9_, ez9_⟩ : ∃ y : Int32, y = v3_ + 1 := ⟨_, rfl⟩
          have o4 : -2147483648 ≤ v3_.toInt + 1 := by omega
          have o5 : v3_.toInt + 1 ≤ 2147483647 := by omega
          have tz9_ := ti_add ez9_ rfl rg_18 o4 o5
          refine lv_iinc (v := z9_) (lv' := [(3, .int z9_), (0, .ref (kA κ 3)), (1, .long x)]) hx hb dX3_rowNamed_31 hl (k := 0) rfl (iincp ez9_ rg_6) (Nat.le_of_ble_eq_true rfl) rfl (fun ls hl => ?_)
          refine lv_goto (tgt := 2) hx hb dX3_rowNamed_34 rfl ?_
          have o6 : (2 - z9_.toInt).toNat < n2_ := by omega
          have o7 : 0 ≤ z9_.toInt := by omega
          exact ih2_  z9_ _ _ _ o6 o7 hP hD hS (lv_sub hl [0, 1, 2] rfl)
        · have tc8_ := (show z7_.toInt = 0 from ti_eq rfl rg_11 c8_)
          have lc8_ : t3_.2 = x := (lg_cmp_eq t3_.2 x).mp (by rw [← ez7_]; exact c8_)
          refine lv_aload_n hx hb dX3_rowNamed_24 rfl (lv_at hl 1 rfl) ?_
          refine va_get (D := (dC, dI)) (ci := 3) (v := .ref (kA κ 4)) (C := RX3) (T := TX3) (N := 8) hx hb hts hin3 hown hK hP 3 rfl rfl 0 (Nat.le_of_ble_eq_true rfl) (ho (.fieldLink RX3 11 "NearEnough$Program" "rows" "[LNearEnough$Row;") (List.mem_of_getElem? (i := 1) rfl)) (fun _ h9 => h9) rfl dX3_rowNamed_25 ?_
          refine lv_iload_n hx hb dX3_rowNamed_28 rfl (lv_at hl 0 rfl) ?_
          refine va_aldq hx hb hK hP 4 1 rfl rfl (ti_inx o1 o2) dX3_rowNamed_29 ?_
          obtain ⟨a10_, t11_, ea12_, ga13_⟩ := hk.rw (x := v3_) o1 o3
          refine zv (v := .ref a10_) (by rw [ea12_]; rfl) ?_
          rw [hQ]
          exact W.aret (v := .ref a10_) hx hb hr (Or.inl ⟨_, rfl⟩) (Or.inr ⟨_, rfl⟩) (fun t ht hW => ⟨⟨(some a10_), σ, rfl, ⟨rfl, (fun a9 h9 => by rw [← Option.some.inj h9]; exact ⟨_, ga13_⟩)⟩, wEn_of hP (hK.sub [] rfl) hD ht hW⟩, hS.F ht⟩) hS.2.2 dX3_rowNamed_30
  have kk14_ : (0 : Int32).toInt = 0 := rg_11
  have o8 : 0 ≤ (0 : Int32).toInt := by omega
  exact pt2_ _  0 _ _ _ (Nat.lt_succ_self _) o8 hP hD hS (lv_sub hl [0, 1, 2] rfl)
def ow_r_needNewName : List Cond := [.fieldLink RX4 30 "NearEnough$Reader" "scanner" "LNearEnough$Scanner;", .fieldLink RX4 81 "NearEnough$Scanner" "word" "J", .fieldLink RX4 12 "NearEnough$Reader" "told" "LNearEnough$Program;", .fieldLink RX4 61 "NearEnough$Scanner" "place" "I"]
def vs_r_needNewName : List Cond := .code yX4_needNewName cX4_needNewName 3 (some .long) :: (ow_r_needNewName ++ (([.methodLink RX4 77 yX4_expectsName, .instanceMethod yX4_expectsName, .selects RX4 yX4_expectsName yX4_expectsName, .initialized RX4] : List Cond) ++ (vs_r_expectsName ++ (([.methodLink RX4 85 yX3_rowNamed, .instanceMethod yX3_rowNamed, .selects RX3 yX3_rowNamed yX3_rowNamed, .initialized RX3] : List Cond) ++ (vs_r_rowNamed ++ (([.methodLink RX4 89 yX3_stepNamed, .instanceMethod yX3_stepNamed, .selects RX3 yX3_stepNamed yX3_stepNamed, .initialized RX3] : List Cond) ++ (vs_r_stepNamed ++ (([.methodLink RX4 34 yX6_advance, .instanceMethod yX6_advance, .selects RX6 yX6_advance yX6_advance, .initialized RX6] : List Cond) ++ (vs_r_advance ++ (([.methodLink RX4 64 yX4_refuse, .instanceMethod yX4_refuse, .selects RX4 yX4_refuse yX4_refuse, .initialized RX4] : List Cond) ++ (vs_r_refuse ++ (wsX40 ++ (wsX60)))))))))))))
theorem vg_r_needNewName : vs_r_needNewName.all goodWord = true := by decide +kernel
theorem dd_r_needNewName : yX4_needNewName.cls = RX4 ∧ yX4_needNewName.cls ≠ "java/lang/invoke/MethodHandle" ∧ yX4_needNewName.cls ≠ "java/lang/invoke/VarHandle" ∧ (parseMethodDescriptor yX4_needNewName.desc).map (fun d => d.parameters.length) = some 0 := by decide +kernel
def rm_r_needNewName : Room := { frames := 6, cells := 0, slots := 0, locals := 130 }
theorem gd_r_needNewName_77_r_expectsName : GoodIn vs_r_needNewName (wsV RX4 77 RX4 yX4_expectsName vs_r_expectsName) := goodIn_app (goodIn_sub (fun w h => (List.mem_cons_of_mem _ (List.mem_append_right _ (List.mem_append_left _ h)))) (by decide +kernel)) (goodIn_sub (fun w h => (List.mem_cons_of_mem _ (List.mem_append_right _ (List.mem_append_right _ (List.mem_append_left _ h))))) vg_r_expectsName)
theorem gd_r_needNewName_85_r_rowNamed : GoodIn vs_r_needNewName (wsV RX4 85 RX3 yX3_rowNamed vs_r_rowNamed) := goodIn_app (goodIn_sub (fun w h => (List.mem_cons_of_mem _ (List.mem_append_right _ (List.mem_append_right _ (List.mem_append_right _ (List.mem_append_left _ h)))))) (by decide +kernel)) (goodIn_sub (fun w h => (List.mem_cons_of_mem _ (List.mem_append_right _ (List.mem_append_right _ (List.mem_append_right _ (List.mem_append_right _ (List.mem_append_left _ h))))))) vg_r_rowNamed)
theorem gd_r_needNewName_89_r_stepNamed : GoodIn vs_r_needNewName (wsV RX4 89 RX3 yX3_stepNamed vs_r_stepNamed) := goodIn_app (goodIn_sub (fun w h => (List.mem_cons_of_mem _ (List.mem_append_right _ (List.mem_append_right _ (List.mem_append_right _ (List.mem_append_right _ (List.mem_append_right _ (List.mem_append_left _ h)))))))) (by decide +kernel)) (goodIn_sub (fun w h => (List.mem_cons_of_mem _ (List.mem_append_right _ (List.mem_append_right _ (List.mem_append_right _ (List.mem_append_right _ (List.mem_append_right _ (List.mem_append_right _ (List.mem_append_left _ h))))))))) vg_r_stepNamed)
theorem gd_r_needNewName_34_r_advance : GoodIn vs_r_needNewName (wsV RX4 34 RX6 yX6_advance vs_r_advance) := goodIn_app (goodIn_sub (fun w h => (List.mem_cons_of_mem _ (List.mem_append_right _ (List.mem_append_right _ (List.mem_append_right _ (List.mem_append_right _ (List.mem_append_right _ (List.mem_append_right _ (List.mem_append_right _ (List.mem_append_left _ h)))))))))) (by decide +kernel)) (goodIn_sub (fun w h => (List.mem_cons_of_mem _ (List.mem_append_right _ (List.mem_append_right _ (List.mem_append_right _ (List.mem_append_right _ (List.mem_append_right _ (List.mem_append_right _ (List.mem_append_right _ (List.mem_append_right _ (List.mem_append_left _ h))))))))))) vg_r_advance)
theorem gd_r_needNewName_64_r_refuse : GoodIn vs_r_needNewName (wsV RX4 64 RX4 yX4_refuse vs_r_refuse) := goodIn_app (goodIn_sub (fun w h => (List.mem_cons_of_mem _ (List.mem_append_right _ (List.mem_append_right _ (List.mem_append_right _ (List.mem_append_right _ (List.mem_append_right _ (List.mem_append_right _ (List.mem_append_right _ (List.mem_append_right _ (List.mem_append_right _ (List.mem_append_left _ h)))))))))))) (by decide +kernel)) (goodIn_sub (fun w h => (List.mem_cons_of_mem _ (List.mem_append_right _ (List.mem_append_right _ (List.mem_append_right _ (List.mem_append_right _ (List.mem_append_right _ (List.mem_append_right _ (List.mem_append_right _ (List.mem_append_right _ (List.mem_append_right _ (List.mem_append_right _ (List.mem_append_left _ h))))))))))))) vg_r_refuse)
set_option maxHeartbeats 4000000 in
set_option maxRecDepth 100000 in
theorem r_needNewName (l : Launch) (dC : Nat → ClassId) (dI : Nat → Nat → Nat) (adK adV : Nat → Nat) (κ : CE) (sz : Nat) (σ : MS) (hk : PInv κ) (hI : RInv σ)  : Met l yX4_needNewName vs_r_needNewName rm_r_needNewName (va_Pc [.ref (kA κ 0)] (wSr dC dI adK adV (rW κ σ) (rT κ) sz)) (va_Ql (fun (r : Int64) (τ : MS) => RInv τ ∧ (((σ.1 1).toInt = 0 ∨ (τ.1 1).toInt ≠ 0))) (fun (τ : MS) => wEn dC dI (va_A (rW κ σ) sz) (rW κ τ) []) (va_A (rW κ σ) sz)) 0 0 (va_A (rW κ σ) sz) := by
  refine Met.ofW (cc := cX4_needNewName) (maxL := 3) (ret := (some .long)) (by decide +kernel) rfl ?_
  intro p e s m args below meth c s₁ B hml hv
  obtain ⟨rfl, ⟨hsz, hP, hK, hD0, hE⟩, hZ, hR⟩ := hv
  have hx := B.exec
  have hb := B.bytes
  have hr := B.returns
  have hts := atoms_spec (ws := vs_r_needNewName) B.pre
  have hown : s.vm.findClass RX4 = some m.cls := findClass_of_methodNamed B.named
  have hlocks := B.notSynchronized
  subst hsz
  have hD := hD0.self (sz := s.heap.size)
  generalize hAe : va_A (rW κ σ) s.heap.size = A at hD hZ ⊢
  have hA : ∀ q : Nat, s.heap.size ≤ q → A q := fun q h => by rw [← hAe]; exact Or.inr h
  have hl := lv_entry ([.ref (kA κ 0)]) (n := 3) (Nat.le_of_ble_eq_true rfl)
  rw [lg_entry_eq]
  generalize (lg_sl ([.ref (kA κ 0)]) ++ List.replicate (3 - (lg_sl ([.ref (kA κ 0)])).length) Slot.unset).toArray = ls at hl ⊢
  have hl : lv_has ls 3 [(0, .ref (kA κ 0))] := hl
  have ho := fun w (h : w ∈ ow_r_needNewName) => hts w (List.mem_cons_of_mem _ (List.mem_append_left _ h))
  have hin4 : ∀ w ∈ u_ws RX4 TX4 4, w ∈ vs_r_needNewName := fun w h => (List.mem_cons_of_mem _ (List.mem_append_right _ (List.mem_append_right _ (List.mem_append_right _ (List.mem_append_right _ (List.mem_append_right _ (List.mem_append_right _ (List.mem_append_right _ (List.mem_append_right _ (List.mem_append_right _ (List.mem_append_right _ (List.mem_append_right _ (List.mem_append_left _ h)))))))))))))
  have hin6 : ∀ w ∈ u_ws RX6 TX6 7, w ∈ vs_r_needNewName := fun w h => (List.mem_cons_of_mem _ (List.mem_append_right _ (List.mem_append_right _ (List.mem_append_right _ (List.mem_append_right _ (List.mem_append_right _ (List.mem_append_right _ (List.mem_append_right _ (List.mem_append_right _ (List.mem_append_right _ (List.mem_append_right _ (List.mem_append_right _ (List.mem_append_right _ h)))))))))))))
  refine zQ (fun Q hQ => ?_)
  refine zH (A := A) (ws := (rW κ σ)) (fun H hP hS => ?_) hP
  have hk0 := hk.1
  have hk1 := hk.2.1
  have hk2 := hk.2.2.1
  refine lv_aload_n hx hb dX4_needNewName_0 rfl (lv_at hl 0 rfl) ?_
  refine zy_i (va_runV (As := []) (rest := []) ⟨hx, hb, hml, hown, hts⟩ (r_expectsName l dC dI adK adV κ H.size σ  hk hI ) (cwV 0 hts gd_r_needNewName_77_r_expectsName rfl rfl rfl dd_r_expectsName ⟨Nat.le_of_ble_eq_true rfl, Nat.le_of_ble_eq_true rfl⟩) (preVr hP hK hD hE hZ hR hS hA (ci := 4) (q0 := 0) rfl rfl) rfl rfl hl.1 rfl (lv_room (Nat.le_of_ble_eq_true rfl)) dX4_needNewName_1 ⟨Nat.le_of_ble_eq_true rfl, Nat.le_of_ble_eq_true rfl⟩) hD hS hA (fun z1_ τ2_ H locs hq hP hD hS => ?_)
  obtain ⟨hτ2_, q3_⟩ := hq
  have q3_ : ((σ.1 1).toInt = 0 ∨ (τ2_.1 1).toInt ≠ 0) ∧ ((z1_.toInt = 1 ∧ (τ2_.1 1).toInt = 0) ∨ (z1_.toInt = 0 ∧ (τ2_.1 1).toInt ≠ 0)) := q3_
  refine W.widen (k := 0) (n := 0) (Nat.le_of_ble_eq_true rfl) (Nat.le_of_ble_eq_true rfl) ?_
  refine lv_if_ne (tgt := 9) hx hb dX4_needNewName_4 rfl (fun c4_ => ?_) (fun c4_ => ?_)
  · have tc4_ := (show z1_.toInt ≠ 0 from ti_ne rfl rg_11 c4_)
    refine lv_aload_n hx hb dX4_needNewName_9 rfl (lv_at hl 0 rfl) ?_
    refine va_get (D := (dC, dI)) (ci := 4) (v := .ref (kA κ 1)) (C := RX4) (T := TX4) (N := 4) hx hb hts hin4 hown hK hP 0 rfl rfl 0 (Nat.le_of_ble_eq_true rfl) (ho (.fieldLink RX4 30 "NearEnough$Reader" "scanner" "LNearEnough$Scanner;") (List.mem_of_getElem? (i := 0) rfl)) (fun _ h9 => h9) rfl dX4_needNewName_10 ?_
    refine va_get (D := (dC, dI)) (ci := 6) (v := .long (τ2_.2.2.2 7)) (C := RX6) (T := TX6) (N := 7) hx hb hts hin6 hown hK hP 1 rfl rfl 5 (Nat.le_of_ble_eq_true rfl) (ho (.fieldLink RX4 81 "NearEnough$Scanner" "word" "J") (List.mem_of_getElem? (i := 1) rfl)) (fun _ h9 => h9) rfl dX4_needNewName_13 ?_
    refine lv_lstore_n (lv' := [(1, .long (τ2_.2.2.2 7)), (0, .ref (kA κ 0))]) hx hb dX4_needNewName_16 rfl hl (Nat.le_of_ble_eq_true rfl) rfl (fun ls hl => ?_)
    refine lv_aload_n hx hb dX4_needNewName_17 rfl (lv_at hl 1 rfl) ?_
    refine va_get (D := (dC, dI)) (ci := 4) (v := .ref (kA κ 3)) (C := RX4) (T := TX4) (N := 4) hx hb hts hin4 hown hK hP 0 rfl rfl 1 (Nat.le_of_ble_eq_true rfl) (ho (.fieldLink RX4 12 "NearEnough$Reader" "told" "LNearEnough$Program;") (List.mem_of_getElem? (i := 2) rfl)) (fun _ h9 => h9) rfl dX4_needNewName_18 ?_
    refine lv_lload_n hx hb dX4_needNewName_21 rfl (lv_at hl 0 rfl) ?_
    refine zy_q (va_runV (As := [.long (τ2_.2.2.2 7)]) (rest := []) ⟨hx, hb, hml, hown, hts⟩ (r_rowNamed l dC dI adK adV κ H.size τ2_ (τ2_.2.2.2 7) hk hτ2_ ) (cwV 1 hts gd_r_needNewName_85_r_rowNamed rfl rfl rfl dd_r_rowNamed ⟨Nat.le_of_ble_eq_true rfl, Nat.le_of_ble_eq_true rfl⟩) (preVr hP hK hD hE hZ hR hS hA (ci := 3) (q0 := 3) rfl rfl) rfl rfl hl.1 rfl (lv_room (Nat.le_of_ble_eq_true rfl)) dX4_needNewName_22 ⟨Nat.le_of_ble_eq_true rfl, Nat.le_of_ble_eq_true rfl⟩) hD hS hA (fun z5_ τ6_ H locs hq hP hD hS => ?_)
    obtain ⟨hτ6_, q7_⟩ := hq
    rw [hτ6_] at hP hD
    refine W.widen (k := 0) (n := 0) (Nat.le_of_ble_eq_true rfl) (Nat.le_of_ble_eq_true rfl) ?_
    rcases z5_ with _ | r8_
    · refine zv (v := .null) rfl ?_
      refine lv_ifnonnullN hx hb dX4_needNewName_25 ?_
      refine lv_aload_n hx hb dX4_needNewName_28 rfl (lv_at hl 1 rfl) ?_
      refine va_get (D := (dC, dI)) (ci := 4) (v := .ref (kA κ 3)) (C := RX4) (T := TX4) (N := 4) hx hb hts hin4 hown hK hP 0 rfl rfl 1 (Nat.le_of_ble_eq_true rfl) (ho (.fieldLink RX4 12 "NearEnough$Reader" "told" "LNearEnough$Program;") (List.mem_of_getElem? (i := 2) rfl)) (fun _ h9 => h9) rfl dX4_needNewName_29 ?_
      refine lv_lload_n hx hb dX4_needNewName_32 rfl (lv_at hl 0 rfl) ?_
      refine zy_i (va_runV (As := [.long (τ2_.2.2.2 7)]) (rest := []) ⟨hx, hb, hml, hown, hts⟩ (r_stepNamed l dC dI adK adV κ H.size τ2_ (τ2_.2.2.2 7) hk hτ2_ ) (cwV 1 hts gd_r_needNewName_89_r_stepNamed rfl rfl rfl dd_r_stepNamed ⟨Nat.le_of_ble_eq_true rfl, Nat.le_of_ble_eq_true rfl⟩) (preVr hP hK hD hE hZ hR hS hA (ci := 3) (q0 := 3) rfl rfl) rfl rfl hl.1 rfl (lv_room (Nat.le_of_ble_eq_true rfl)) dX4_needNewName_33 ⟨Nat.le_of_ble_eq_true rfl, Nat.le_of_ble_eq_true rfl⟩) hD hS hA (fun z9_ τ10_ H locs hq hP hD hS => ?_)
      obtain ⟨hτ10_, q11_⟩ := hq
      rw [hτ10_] at hP hD
      have q11_ : -1 ≤ z9_.toInt ∧ z9_.toInt < (pI κ 1).toInt := q11_
      refine W.widen (k := 0) (n := 0) (Nat.le_of_ble_eq_true rfl) (Nat.le_of_ble_eq_true rfl) ?_
      refine lv_iconst (v := (-1)) hx hb dX4_needNewName_36 rg_53 ?_
      refine lv_icmp_eq (tgt := 54) hx hb dX4_needNewName_37 rfl (fun c12_ => ?_) (fun c12_ => ?_)
      · have tc12_ := (show z9_.toInt = (-1) from ti_eq rfl rg_489 c12_)
        refine lv_aload_n hx hb dX4_needNewName_54 rfl (lv_at hl 1 rfl) ?_
        refine va_get (D := (dC, dI)) (ci := 4) (v := .ref (kA κ 1)) (C := RX4) (T := TX4) (N := 4) hx hb hts hin4 hown hK hP 0 rfl rfl 0 (Nat.le_of_ble_eq_true rfl) (ho (.fieldLink RX4 30 "NearEnough$Reader" "scanner" "LNearEnough$Scanner;") (List.mem_of_getElem? (i := 0) rfl)) (fun _ h9 => h9) rfl dX4_needNewName_55 ?_
        refine zy_v (va_runV (As := []) (rest := []) ⟨hx, hb, hml, hown, hts⟩ (r_advance l dC dI adK adV κ H.size τ2_  hk hτ2_ ) (cwV 0 hts gd_r_needNewName_34_r_advance rfl rfl rfl dd_r_advance ⟨Nat.le_of_ble_eq_true rfl, Nat.le_of_ble_eq_true rfl⟩) (preVr hP hK hD hE hZ hR hS hA (ci := 6) (q0 := 1) rfl rfl) rfl rfl hl.1 rfl (lv_room (Nat.le_of_ble_eq_true rfl)) dX4_needNewName_58 ⟨Nat.le_of_ble_eq_true rfl, Nat.le_of_ble_eq_true rfl⟩) hD hS hA (fun τ14_ H locs hq hP hD hS => ?_)
        obtain ⟨hτ14_, q15_⟩ := hq
        have q15_ : (τ14_.1 1).toInt = (τ2_.1 1).toInt := q15_
        refine W.widen (k := 0) (n := 0) (Nat.le_of_ble_eq_true rfl) (Nat.le_of_ble_eq_true rfl) ?_
        refine lv_lload_n hx hb dX4_needNewName_61 rfl (lv_at hl 0 rfl) ?_
        have o1 : ((σ.1 1).toInt = 0 ∨ (τ14_.1 1).toInt ≠ 0) := by omega
        rw [hQ]
        exact W.lret (v := (τ2_.2.2.2 7)) hx hb hr (fun t ht hW => ⟨⟨(τ2_.2.2.2 7), τ14_, rfl, ⟨hτ14_, o1⟩, wEn_of hP (hK.sub [] rfl) hD ht hW⟩, hS.F ht⟩) hS.2.2 dX4_needNewName_62
      · have tc12_ := (show z9_.toInt ≠ (-1) from ti_ne rfl rg_489 c12_)
        refine lv_aload_n hx hb dX4_needNewName_40 rfl (lv_at hl 1 rfl) ?_
        refine lv_iconst (v := 3) hx hb dX4_needNewName_41 rg_16 ?_
        refine lv_aload_n hx hb dX4_needNewName_42 rfl (lv_at hl 1 rfl) ?_
        refine va_get (D := (dC, dI)) (ci := 4) (v := .ref (kA κ 1)) (C := RX4) (T := TX4) (N := 4) hx hb hts hin4 hown hK hP 0 rfl rfl 0 (Nat.le_of_ble_eq_true rfl) (ho (.fieldLink RX4 30 "NearEnough$Reader" "scanner" "LNearEnough$Scanner;") (List.mem_of_getElem? (i := 0) rfl)) (fun _ h9 => h9) rfl dX4_needNewName_43 ?_
        have bτ2__5 : 0 ≤ (τ2_.1 5).toInt ∧ (τ2_.1 5).toInt ≤ 1000 := hτ2_ 5
        refine va_get (D := (dC, dI)) (ci := 6) (v := .int (τ2_.1 5)) (C := RX6) (T := TX6) (N := 7) hx hb hts hin6 hown hK hP 1 rfl rfl 4 (Nat.le_of_ble_eq_true rfl) (ho (.fieldLink RX4 61 "NearEnough$Scanner" "place" "I") (List.mem_of_getElem? (i := 3) rfl)) (fun _ h9 => h9) rfl dX4_needNewName_46 ?_
        have kk16_ : (3 : Int32).toInt = 3 := rg_17
        refine zy_v (va_runV (As := [.int 3, .int (τ2_.1 5)]) (rest := []) ⟨hx, hb, hml, hown, hts⟩ (r_refuse l dC dI adK adV κ H.size τ2_ 3 (τ2_.1 5) hk hτ2_ (by decide)) (cwV 2 hts gd_r_needNewName_64_r_refuse rfl rfl rfl dd_r_refuse ⟨Nat.le_of_ble_eq_true rfl, Nat.le_of_ble_eq_true rfl⟩) (preVr hP hK hD hE hZ hR hS hA (ci := 4) (q0 := 0) rfl rfl) rfl rfl hl.1 rfl (lv_room (Nat.le_of_ble_eq_true rfl)) dX4_needNewName_49 ⟨Nat.le_of_ble_eq_true rfl, Nat.le_of_ble_eq_true rfl⟩) hD hS hA (fun τ18_ H locs hq hP hD hS => ?_)
        obtain ⟨hτ18_, q19_⟩ := hq
        have q19_ : (τ18_.1 1).toInt ≠ 0 := q19_
        refine W.widen (k := 0) (n := 0) (Nat.le_of_ble_eq_true rfl) (Nat.le_of_ble_eq_true rfl) ?_
        refine lv_lconst (v := 0) hx hb dX4_needNewName_52 (by decide) ?_
        have o2 : ((σ.1 1).toInt = 0 ∨ (τ18_.1 1).toInt ≠ 0) := by omega
        rw [hQ]
        exact W.lret (v := 0) hx hb hr (fun t ht hW => ⟨⟨0, τ18_, rfl, ⟨hτ18_, o2⟩, wEn_of hP (hK.sub [] rfl) hD ht hW⟩, hS.F ht⟩) hS.2.2 dX4_needNewName_53
    · refine zv (v := .ref r8_) rfl ?_
      obtain ⟨u20_, gu20_⟩ := q7_ r8_ rfl
      refine lv_ifnonnull (tgt := 40) hx hb dX4_needNewName_25 rfl ?_
      refine lv_aload_n hx hb dX4_needNewName_40 rfl (lv_at hl 1 rfl) ?_
      refine lv_iconst (v := 3) hx hb dX4_needNewName_41 rg_16 ?_
      refine lv_aload_n hx hb dX4_needNewName_42 rfl (lv_at hl 1 rfl) ?_
      refine va_get (D := (dC, dI)) (ci := 4) (v := .ref (kA κ 1)) (C := RX4) (T := TX4) (N := 4) hx hb hts hin4 hown hK hP 0 rfl rfl 0 (Nat.le_of_ble_eq_true rfl) (ho (.fieldLink RX4 30 "NearEnough$Reader" "scanner" "LNearEnough$Scanner;") (List.mem_of_getElem? (i := 0) rfl)) (fun _ h9 => h9) rfl dX4_needNewName_43 ?_
      have bτ2__5 : 0 ≤ (τ2_.1 5).toInt ∧ (τ2_.1 5).toInt ≤ 1000 := hτ2_ 5
      refine va_get (D := (dC, dI)) (ci := 6) (v := .int (τ2_.1 5)) (C := RX6) (T := TX6) (N := 7) hx hb hts hin6 hown hK hP 1 rfl rfl 4 (Nat.le_of_ble_eq_true rfl) (ho (.fieldLink RX4 61 "NearEnough$Scanner" "place" "I") (List.mem_of_getElem? (i := 3) rfl)) (fun _ h9 => h9) rfl dX4_needNewName_46 ?_
      have kk21_ : (3 : Int32).toInt = 3 := rg_17
      refine zy_v (va_runV (As := [.int 3, .int (τ2_.1 5)]) (rest := []) ⟨hx, hb, hml, hown, hts⟩ (r_refuse l dC dI adK adV κ H.size τ2_ 3 (τ2_.1 5) hk hτ2_ (by decide)) (cwV 2 hts gd_r_needNewName_64_r_refuse rfl rfl rfl dd_r_refuse ⟨Nat.le_of_ble_eq_true rfl, Nat.le_of_ble_eq_true rfl⟩) (preVr hP hK hD hE hZ hR hS hA (ci := 4) (q0 := 0) rfl rfl) rfl rfl hl.1 rfl (lv_room (Nat.le_of_ble_eq_true rfl)) dX4_needNewName_49 ⟨Nat.le_of_ble_eq_true rfl, Nat.le_of_ble_eq_true rfl⟩) hD hS hA (fun τ23_ H locs hq hP hD hS => ?_)
      obtain ⟨hτ23_, q24_⟩ := hq
      have q24_ : (τ23_.1 1).toInt ≠ 0 := q24_
      refine W.widen (k := 0) (n := 0) (Nat.le_of_ble_eq_true rfl) (Nat.le_of_ble_eq_true rfl) ?_
      refine lv_lconst (v := 0) hx hb dX4_needNewName_52 (by decide) ?_
      have o3 : ((σ.1 1).toInt = 0 ∨ (τ23_.1 1).toInt ≠ 0) := by omega
      rw [hQ]
      exact W.lret (v := 0) hx hb hr (fun t ht hW => ⟨⟨0, τ23_, rfl, ⟨hτ23_, o3⟩, wEn_of hP (hK.sub [] rfl) hD ht hW⟩, hS.F ht⟩) hS.2.2 dX4_needNewName_53
  · have tc4_ := (show z1_.toInt = 0 from ti_eq rfl rg_11 c4_)
    refine lv_lconst (v := 0) hx hb dX4_needNewName_7 (by decide) ?_
    have o4 : ((σ.1 1).toInt = 0 ∨ (τ2_.1 1).toInt ≠ 0) := by omega
    rw [hQ]
    exact W.lret (v := 0) hx hb hr (fun t ht hW => ⟨⟨0, τ2_, rfl, ⟨hτ2_, o4⟩, wEn_of hP (hK.sub [] rfl) hD ht hW⟩, hS.F ht⟩) hS.2.2 dX4_needNewName_8
def ow_r_needStep : List Cond := [.fieldLink RX4 12 "NearEnough$Reader" "told" "LNearEnough$Program;", .fieldLink RX4 30 "NearEnough$Reader" "scanner" "LNearEnough$Scanner;", .fieldLink RX4 81 "NearEnough$Scanner" "word" "J", .fieldLink RX4 61 "NearEnough$Scanner" "place" "I"]
def vs_r_needStep : List Cond := .code yX4_needStep cX4_needStep 2 (some .int) :: (ow_r_needStep ++ (([.methodLink RX4 77 yX4_expectsName, .instanceMethod yX4_expectsName, .selects RX4 yX4_expectsName yX4_expectsName, .initialized RX4] : List Cond) ++ (vs_r_expectsName ++ (([.methodLink RX4 89 yX3_stepNamed, .instanceMethod yX3_stepNamed, .selects RX3 yX3_stepNamed yX3_stepNamed, .initialized RX3] : List Cond) ++ (vs_r_stepNamed ++ (([.methodLink RX4 34 yX6_advance, .instanceMethod yX6_advance, .selects RX6 yX6_advance yX6_advance, .initialized RX6] : List Cond) ++ (vs_r_advance ++ (([.methodLink RX4 64 yX4_refuse, .instanceMethod yX4_refuse, .selects RX4 yX4_refuse yX4_refuse, .initialized RX4] : List Cond) ++ (vs_r_refuse ++ (wsX40 ++ (wsX60)))))))))))
theorem vg_r_needStep : vs_r_needStep.all goodWord = true := by decide +kernel
theorem dd_r_needStep : yX4_needStep.cls = RX4 ∧ yX4_needStep.cls ≠ "java/lang/invoke/MethodHandle" ∧ yX4_needStep.cls ≠ "java/lang/invoke/VarHandle" ∧ (parseMethodDescriptor yX4_needStep.desc).map (fun d => d.parameters.length) = some 0 := by decide +kernel
def rm_r_needStep : Room := { frames := 6, cells := 0, slots := 0, locals := 130 }
theorem gd_r_needStep_77_r_expectsName : GoodIn vs_r_needStep (wsV RX4 77 RX4 yX4_expectsName vs_r_expectsName) := goodIn_app (goodIn_sub (fun w h => (List.mem_cons_of_mem _ (List.mem_append_right _ (List.mem_append_left _ h)))) (by decide +kernel)) (goodIn_sub (fun w h => (List.mem_cons_of_mem _ (List.mem_append_right _ (List.mem_append_right _ (List.mem_append_left _ h))))) vg_r_expectsName)
theorem gd_r_needStep_89_r_stepNamed : GoodIn vs_r_needStep (wsV RX4 89 RX3 yX3_stepNamed vs_r_stepNamed) := goodIn_app (goodIn_sub (fun w h => (List.mem_cons_of_mem _ (List.mem_append_right _ (List.mem_append_right _ (List.mem_append_right _ (List.mem_append_left _ h)))))) (by decide +kernel)) (goodIn_sub (fun w h => (List.mem_cons_of_mem _ (List.mem_append_right _ (List.mem_append_right _ (List.mem_append_right _ (List.mem_append_right _ (List.mem_append_left _ h))))))) vg_r_stepNamed)
theorem gd_r_needStep_34_r_advance : GoodIn vs_r_needStep (wsV RX4 34 RX6 yX6_advance vs_r_advance) := goodIn_app (goodIn_sub (fun w h => (List.mem_cons_of_mem _ (List.mem_append_right _ (List.mem_append_right _ (List.mem_append_right _ (List.mem_append_right _ (List.mem_append_right _ (List.mem_append_left _ h)))))))) (by decide +kernel)) (goodIn_sub (fun w h => (List.mem_cons_of_mem _ (List.mem_append_right _ (List.mem_append_right _ (List.mem_append_right _ (List.mem_append_right _ (List.mem_append_right _ (List.mem_append_right _ (List.mem_append_left _ h))))))))) vg_r_advance)
theorem gd_r_needStep_64_r_refuse : GoodIn vs_r_needStep (wsV RX4 64 RX4 yX4_refuse vs_r_refuse) := goodIn_app (goodIn_sub (fun w h => (List.mem_cons_of_mem _ (List.mem_append_right _ (List.mem_append_right _ (List.mem_append_right _ (List.mem_append_right _ (List.mem_append_right _ (List.mem_append_right _ (List.mem_append_right _ (List.mem_append_left _ h)))))))))) (by decide +kernel)) (goodIn_sub (fun w h => (List.mem_cons_of_mem _ (List.mem_append_right _ (List.mem_append_right _ (List.mem_append_right _ (List.mem_append_right _ (List.mem_append_right _ (List.mem_append_right _ (List.mem_append_right _ (List.mem_append_right _ (List.mem_append_left _ h))))))))))) vg_r_refuse)
set_option maxHeartbeats 4000000 in
set_option maxRecDepth 100000 in
theorem r_needStep (l : Launch) (dC : Nat → ClassId) (dI : Nat → Nat → Nat) (adK adV : Nat → Nat) (κ : CE) (sz : Nat) (σ : MS) (hk : PInv κ) (hI : RInv σ)  : Met l yX4_needStep vs_r_needStep rm_r_needStep (va_Pc [.ref (kA κ 0)] (wSr dC dI adK adV (rW κ σ) (rT κ) sz)) (va_Qi (fun (r : Int32) (τ : MS) => RInv τ ∧ (((σ.1 1).toInt = 0 ∨ (τ.1 1).toInt ≠ 0) ∧ 0 ≤ r.toInt ∧ r.toInt ≤ 11 ∧ ((τ.1 1).toInt ≠ 0 ∨ r.toInt < (pI κ 1).toInt))) (fun (τ : MS) => wEn dC dI (va_A (rW κ σ) sz) (rW κ τ) []) (va_A (rW κ σ) sz)) 0 0 (va_A (rW κ σ) sz) := by
  refine Met.ofW (cc := cX4_needStep) (maxL := 2) (ret := (some .int)) (by decide +kernel) rfl ?_
  intro p e s m args below meth c s₁ B hml hv
  obtain ⟨rfl, ⟨hsz, hP, hK, hD0, hE⟩, hZ, hR⟩ := hv
  have hx := B.exec
  have hb := B.bytes
  have hr := B.returns
  have hts := atoms_spec (ws := vs_r_needStep) B.pre
  have hown : s.vm.findClass RX4 = some m.cls := findClass_of_methodNamed B.named
  have hlocks := B.notSynchronized
  subst hsz
  have hD := hD0.self (sz := s.heap.size)
  generalize hAe : va_A (rW κ σ) s.heap.size = A at hD hZ ⊢
  have hA : ∀ q : Nat, s.heap.size ≤ q → A q := fun q h => by rw [← hAe]; exact Or.inr h
  have hl := lv_entry ([.ref (kA κ 0)]) (n := 2) (Nat.le_of_ble_eq_true rfl)
  rw [lg_entry_eq]
  generalize (lg_sl ([.ref (kA κ 0)]) ++ List.replicate (2 - (lg_sl ([.ref (kA κ 0)])).length) Slot.unset).toArray = ls at hl ⊢
  have hl : lv_has ls 2 [(0, .ref (kA κ 0))] := hl
  have ho := fun w (h : w ∈ ow_r_needStep) => hts w (List.mem_cons_of_mem _ (List.mem_append_left _ h))
  have hin4 : ∀ w ∈ u_ws RX4 TX4 4, w ∈ vs_r_needStep := fun w h => (List.mem_cons_of_mem _ (List.mem_append_right _ (List.mem_append_right _ (List.mem_append_right _ (List.mem_append_right _ (List.mem_append_right _ (List.mem_append_right _ (List.mem_append_right _ (List.mem_append_right _ (List.mem_append_right _ (List.mem_append_left _ h)))))))))))
  have hin6 : ∀ w ∈ u_ws RX6 TX6 7, w ∈ vs_r_needStep := fun w h => (List.mem_cons_of_mem _ (List.mem_append_right _ (List.mem_append_right _ (List.mem_append_right _ (List.mem_append_right _ (List.mem_append_right _ (List.mem_append_right _ (List.mem_append_right _ (List.mem_append_right _ (List.mem_append_right _ (List.mem_append_right _ h)))))))))))
  refine zQ (fun Q hQ => ?_)
  refine zH (A := A) (ws := (rW κ σ)) (fun H hP hS => ?_) hP
  have hk0 := hk.1
  have hk1 := hk.2.1
  have hk2 := hk.2.2.1
  refine lv_aload_n hx hb dX4_needStep_0 rfl (lv_at hl 0 rfl) ?_
  refine zy_i (va_runV (As := []) (rest := []) ⟨hx, hb, hml, hown, hts⟩ (r_expectsName l dC dI adK adV κ H.size σ  hk hI ) (cwV 0 hts gd_r_needStep_77_r_expectsName rfl rfl rfl dd_r_expectsName ⟨Nat.le_of_ble_eq_true rfl, Nat.le_of_ble_eq_true rfl⟩) (preVr hP hK hD hE hZ hR hS hA (ci := 4) (q0 := 0) rfl rfl) rfl rfl hl.1 rfl (lv_room (Nat.le_of_ble_eq_true rfl)) dX4_needStep_1 ⟨Nat.le_of_ble_eq_true rfl, Nat.le_of_ble_eq_true rfl⟩) hD hS hA (fun z1_ τ2_ H locs hq hP hD hS => ?_)
  obtain ⟨hτ2_, q3_⟩ := hq
  have q3_ : ((σ.1 1).toInt = 0 ∨ (τ2_.1 1).toInt ≠ 0) ∧ ((z1_.toInt = 1 ∧ (τ2_.1 1).toInt = 0) ∨ (z1_.toInt = 0 ∧ (τ2_.1 1).toInt ≠ 0)) := q3_
  refine W.widen (k := 0) (n := 0) (Nat.le_of_ble_eq_true rfl) (Nat.le_of_ble_eq_true rfl) ?_
  refine lv_if_ne (tgt := 9) hx hb dX4_needStep_4 rfl (fun c4_ => ?_) (fun c4_ => ?_)
  · have tc4_ := (show z1_.toInt ≠ 0 from ti_ne rfl rg_11 c4_)
    refine lv_aload_n hx hb dX4_needStep_9 rfl (lv_at hl 0 rfl) ?_
    refine va_get (D := (dC, dI)) (ci := 4) (v := .ref (kA κ 3)) (C := RX4) (T := TX4) (N := 4) hx hb hts hin4 hown hK hP 0 rfl rfl 1 (Nat.le_of_ble_eq_true rfl) (ho (.fieldLink RX4 12 "NearEnough$Reader" "told" "LNearEnough$Program;") (List.mem_of_getElem? (i := 0) rfl)) (fun _ h9 => h9) rfl dX4_needStep_10 ?_
    refine lv_aload_n hx hb dX4_needStep_13 rfl (lv_at hl 0 rfl) ?_
    refine va_get (D := (dC, dI)) (ci := 4) (v := .ref (kA κ 1)) (C := RX4) (T := TX4) (N := 4) hx hb hts hin4 hown hK hP 0 rfl rfl 0 (Nat.le_of_ble_eq_true rfl) (ho (.fieldLink RX4 30 "NearEnough$Reader" "scanner" "LNearEnough$Scanner;") (List.mem_of_getElem? (i := 1) rfl)) (fun _ h9 => h9) rfl dX4_needStep_14 ?_
    refine va_get (D := (dC, dI)) (ci := 6) (v := .long (τ2_.2.2.2 7)) (C := RX6) (T := TX6) (N := 7) hx hb hts hin6 hown hK hP 1 rfl rfl 5 (Nat.le_of_ble_eq_true rfl) (ho (.fieldLink RX4 81 "NearEnough$Scanner" "word" "J") (List.mem_of_getElem? (i := 2) rfl)) (fun _ h9 => h9) rfl dX4_needStep_17 ?_
    refine zy_i (va_runV (As := [.long (τ2_.2.2.2 7)]) (rest := []) ⟨hx, hb, hml, hown, hts⟩ (r_stepNamed l dC dI adK adV κ H.size τ2_ (τ2_.2.2.2 7) hk hτ2_ ) (cwV 1 hts gd_r_needStep_89_r_stepNamed rfl rfl rfl dd_r_stepNamed ⟨Nat.le_of_ble_eq_true rfl, Nat.le_of_ble_eq_true rfl⟩) (preVr hP hK hD hE hZ hR hS hA (ci := 3) (q0 := 3) rfl rfl) rfl rfl hl.1 rfl (lv_room (Nat.le_of_ble_eq_true rfl)) dX4_needStep_20 ⟨Nat.le_of_ble_eq_true rfl, Nat.le_of_ble_eq_true rfl⟩) hD hS hA (fun z5_ τ6_ H locs hq hP hD hS => ?_)
    obtain ⟨hτ6_, q7_⟩ := hq
    rw [hτ6_] at hP hD
    have q7_ : -1 ≤ z5_.toInt ∧ z5_.toInt < (pI κ 1).toInt := q7_
    refine W.widen (k := 0) (n := 0) (Nat.le_of_ble_eq_true rfl) (Nat.le_of_ble_eq_true rfl) ?_
    refine lv_istore_n (lv' := [(1, .int z5_), (0, .ref (kA κ 0))]) hx hb dX4_needStep_23 rfl hl (Nat.le_of_ble_eq_true rfl) rfl (fun ls hl => ?_)
    refine lv_iload_n hx hb dX4_needStep_24 rfl (lv_at hl 0 rfl) ?_
    refine lv_iconst (v := (-1)) hx hb dX4_needStep_25 rg_53 ?_
    refine lv_icmp_ne (tgt := 43) hx hb dX4_needStep_26 rfl (fun c8_ => ?_) (fun c8_ => ?_)
    · have tc8_ := (show z5_.toInt ≠ (-1) from ti_ne rfl rg_489 c8_)
      refine lv_aload_n hx hb dX4_needStep_43 rfl (lv_at hl 1 rfl) ?_
      refine va_get (D := (dC, dI)) (ci := 4) (v := .ref (kA κ 1)) (C := RX4) (T := TX4) (N := 4) hx hb hts hin4 hown hK hP 0 rfl rfl 0 (Nat.le_of_ble_eq_true rfl) (ho (.fieldLink RX4 30 "NearEnough$Reader" "scanner" "LNearEnough$Scanner;") (List.mem_of_getElem? (i := 1) rfl)) (fun _ h9 => h9) rfl dX4_needStep_44 ?_
      refine zy_v (va_runV (As := []) (rest := []) ⟨hx, hb, hml, hown, hts⟩ (r_advance l dC dI adK adV κ H.size τ2_  hk hτ2_ ) (cwV 0 hts gd_r_needStep_34_r_advance rfl rfl rfl dd_r_advance ⟨Nat.le_of_ble_eq_true rfl, Nat.le_of_ble_eq_true rfl⟩) (preVr hP hK hD hE hZ hR hS hA (ci := 6) (q0 := 1) rfl rfl) rfl rfl hl.1 rfl (lv_room (Nat.le_of_ble_eq_true rfl)) dX4_needStep_47 ⟨Nat.le_of_ble_eq_true rfl, Nat.le_of_ble_eq_true rfl⟩) hD hS hA (fun τ10_ H locs hq hP hD hS => ?_)
      obtain ⟨hτ10_, q11_⟩ := hq
      have q11_ : (τ10_.1 1).toInt = (τ2_.1 1).toInt := q11_
      refine W.widen (k := 0) (n := 0) (Nat.le_of_ble_eq_true rfl) (Nat.le_of_ble_eq_true rfl) ?_
      refine lv_iload_n hx hb dX4_needStep_50 rfl (lv_at hl 0 rfl) ?_
      have o1 : ((σ.1 1).toInt = 0 ∨ (τ10_.1 1).toInt ≠ 0) ∧ 0 ≤ z5_.toInt ∧ z5_.toInt ≤ 11 ∧ ((τ10_.1 1).toInt ≠ 0 ∨ z5_.toInt < (pI κ 1).toInt) := by omega
      rw [hQ]
      exact W.iret (v := z5_) hx hb hr (fun t ht hW => ⟨⟨z5_, τ10_, rfl, ⟨hτ10_, o1⟩, wEn_of hP (hK.sub [] rfl) hD ht hW⟩, hS.F ht⟩) hS.2.2 dX4_needStep_51
    · have tc8_ := (show z5_.toInt = (-1) from ti_eq rfl rg_489 c8_)
      refine lv_aload_n hx hb dX4_needStep_29 rfl (lv_at hl 1 rfl) ?_
      refine lv_iconst (v := 5) hx hb dX4_needStep_30 rg_14 ?_
      refine lv_aload_n hx hb dX4_needStep_31 rfl (lv_at hl 1 rfl) ?_
      refine va_get (D := (dC, dI)) (ci := 4) (v := .ref (kA κ 1)) (C := RX4) (T := TX4) (N := 4) hx hb hts hin4 hown hK hP 0 rfl rfl 0 (Nat.le_of_ble_eq_true rfl) (ho (.fieldLink RX4 30 "NearEnough$Reader" "scanner" "LNearEnough$Scanner;") (List.mem_of_getElem? (i := 1) rfl)) (fun _ h9 => h9) rfl dX4_needStep_32 ?_
      have bτ2__5 : 0 ≤ (τ2_.1 5).toInt ∧ (τ2_.1 5).toInt ≤ 1000 := hτ2_ 5
      refine va_get (D := (dC, dI)) (ci := 6) (v := .int (τ2_.1 5)) (C := RX6) (T := TX6) (N := 7) hx hb hts hin6 hown hK hP 1 rfl rfl 4 (Nat.le_of_ble_eq_true rfl) (ho (.fieldLink RX4 61 "NearEnough$Scanner" "place" "I") (List.mem_of_getElem? (i := 3) rfl)) (fun _ h9 => h9) rfl dX4_needStep_35 ?_
      have kk12_ : (5 : Int32).toInt = 5 := rg_15
      refine zy_v (va_runV (As := [.int 5, .int (τ2_.1 5)]) (rest := []) ⟨hx, hb, hml, hown, hts⟩ (r_refuse l dC dI adK adV κ H.size τ2_ 5 (τ2_.1 5) hk hτ2_ (by decide)) (cwV 2 hts gd_r_needStep_64_r_refuse rfl rfl rfl dd_r_refuse ⟨Nat.le_of_ble_eq_true rfl, Nat.le_of_ble_eq_true rfl⟩) (preVr hP hK hD hE hZ hR hS hA (ci := 4) (q0 := 0) rfl rfl) rfl rfl hl.1 rfl (lv_room (Nat.le_of_ble_eq_true rfl)) dX4_needStep_38 ⟨Nat.le_of_ble_eq_true rfl, Nat.le_of_ble_eq_true rfl⟩) hD hS hA (fun τ14_ H locs hq hP hD hS => ?_)
      obtain ⟨hτ14_, q15_⟩ := hq
      have q15_ : (τ14_.1 1).toInt ≠ 0 := q15_
      refine W.widen (k := 0) (n := 0) (Nat.le_of_ble_eq_true rfl) (Nat.le_of_ble_eq_true rfl) ?_
      refine lv_iconst (v := 0) hx hb dX4_needStep_41 rg_0 ?_
      have kk16_ : (0 : Int32).toInt = 0 := rg_11
      have o2 : ((σ.1 1).toInt = 0 ∨ (τ14_.1 1).toInt ≠ 0) ∧ 0 ≤ (0 : Int32).toInt ∧ (0 : Int32).toInt ≤ 11 ∧ ((τ14_.1 1).toInt ≠ 0 ∨ (0 : Int32).toInt < (pI κ 1).toInt) := by omega
      rw [hQ]
      exact W.iret (v := 0) hx hb hr (fun t ht hW => ⟨⟨0, τ14_, rfl, ⟨hτ14_, o2⟩, wEn_of hP (hK.sub [] rfl) hD ht hW⟩, hS.F ht⟩) hS.2.2 dX4_needStep_42
  · have tc4_ := (show z1_.toInt = 0 from ti_eq rfl rg_11 c4_)
    refine lv_iconst (v := 0) hx hb dX4_needStep_7 rg_0 ?_
    have kk17_ : (0 : Int32).toInt = 0 := rg_11
    have o3 : ((σ.1 1).toInt = 0 ∨ (τ2_.1 1).toInt ≠ 0) ∧ 0 ≤ (0 : Int32).toInt ∧ (0 : Int32).toInt ≤ 11 ∧ ((τ2_.1 1).toInt ≠ 0 ∨ (0 : Int32).toInt < (pI κ 1).toInt) := by omega
    rw [hQ]
    exact W.iret (v := 0) hx hb hr (fun t ht hW => ⟨⟨0, τ2_, rfl, ⟨hτ2_, o3⟩, wEn_of hP (hK.sub [] rfl) hD ht hW⟩, hS.F ht⟩) hS.2.2 dX4_needStep_8
def ow_r_needRow : List Cond := [.fieldLink RX4 12 "NearEnough$Reader" "told" "LNearEnough$Program;", .fieldLink RX4 30 "NearEnough$Reader" "scanner" "LNearEnough$Scanner;", .fieldLink RX4 81 "NearEnough$Scanner" "word" "J", .fieldLink RX4 61 "NearEnough$Scanner" "place" "I"]
def vs_r_needRow : List Cond := .code yX4_needRow cX4_needRow 2 (some (.object "NearEnough$Row")) :: (ow_r_needRow ++ (([.methodLink RX4 77 yX4_expectsName, .instanceMethod yX4_expectsName, .selects RX4 yX4_expectsName yX4_expectsName, .initialized RX4] : List Cond) ++ (vs_r_expectsName ++ (([.methodLink RX4 85 yX3_rowNamed, .instanceMethod yX3_rowNamed, .selects RX3 yX3_rowNamed yX3_rowNamed, .initialized RX3] : List Cond) ++ (vs_r_rowNamed ++ (([.methodLink RX4 64 yX4_refuse, .instanceMethod yX4_refuse, .selects RX4 yX4_refuse yX4_refuse, .initialized RX4] : List Cond) ++ (vs_r_refuse ++ (([.methodLink RX4 34 yX6_advance, .instanceMethod yX6_advance, .selects RX6 yX6_advance yX6_advance, .initialized RX6] : List Cond) ++ (vs_r_advance ++ (wsX40 ++ (wsX60)))))))))))
theorem vg_r_needRow : vs_r_needRow.all goodWord = true := by decide +kernel
theorem dd_r_needRow : yX4_needRow.cls = RX4 ∧ yX4_needRow.cls ≠ "java/lang/invoke/MethodHandle" ∧ yX4_needRow.cls ≠ "java/lang/invoke/VarHandle" ∧ (parseMethodDescriptor yX4_needRow.desc).map (fun d => d.parameters.length) = some 0 := by decide +kernel
def rm_r_needRow : Room := { frames := 6, cells := 0, slots := 0, locals := 130 }
theorem gd_r_needRow_77_r_expectsName : GoodIn vs_r_needRow (wsV RX4 77 RX4 yX4_expectsName vs_r_expectsName) := goodIn_app (goodIn_sub (fun w h => (List.mem_cons_of_mem _ (List.mem_append_right _ (List.mem_append_left _ h)))) (by decide +kernel)) (goodIn_sub (fun w h => (List.mem_cons_of_mem _ (List.mem_append_right _ (List.mem_append_right _ (List.mem_append_left _ h))))) vg_r_expectsName)
theorem gd_r_needRow_85_r_rowNamed : GoodIn vs_r_needRow (wsV RX4 85 RX3 yX3_rowNamed vs_r_rowNamed) := goodIn_app (goodIn_sub (fun w h => (List.mem_cons_of_mem _ (List.mem_append_right _ (List.mem_append_right _ (List.mem_append_right _ (List.mem_append_left _ h)))))) (by decide +kernel)) (goodIn_sub (fun w h => (List.mem_cons_of_mem _ (List.mem_append_right _ (List.mem_append_right _ (List.mem_append_right _ (List.mem_append_right _ (List.mem_append_left _ h))))))) vg_r_rowNamed)
theorem gd_r_needRow_64_r_refuse : GoodIn vs_r_needRow (wsV RX4 64 RX4 yX4_refuse vs_r_refuse) := goodIn_app (goodIn_sub (fun w h => (List.mem_cons_of_mem _ (List.mem_append_right _ (List.mem_append_right _ (List.mem_append_right _ (List.mem_append_right _ (List.mem_append_right _ (List.mem_append_left _ h)))))))) (by decide +kernel)) (goodIn_sub (fun w h => (List.mem_cons_of_mem _ (List.mem_append_right _ (List.mem_append_right _ (List.mem_append_right _ (List.mem_append_right _ (List.mem_append_right _ (List.mem_append_right _ (List.mem_append_left _ h))))))))) vg_r_refuse)
theorem gd_r_needRow_34_r_advance : GoodIn vs_r_needRow (wsV RX4 34 RX6 yX6_advance vs_r_advance) := goodIn_app (goodIn_sub (fun w h => (List.mem_cons_of_mem _ (List.mem_append_right _ (List.mem_append_right _ (List.mem_append_right _ (List.mem_append_right _ (List.mem_append_right _ (List.mem_append_right _ (List.mem_append_right _ (List.mem_append_left _ h)))))))))) (by decide +kernel)) (goodIn_sub (fun w h => (List.mem_cons_of_mem _ (List.mem_append_right _ (List.mem_append_right _ (List.mem_append_right _ (List.mem_append_right _ (List.mem_append_right _ (List.mem_append_right _ (List.mem_append_right _ (List.mem_append_right _ (List.mem_append_left _ h))))))))))) vg_r_advance)
set_option maxHeartbeats 4000000 in
set_option maxRecDepth 100000 in
theorem r_needRow (l : Launch) (dC : Nat → ClassId) (dI : Nat → Nat → Nat) (adK adV : Nat → Nat) (κ : CE) (sz : Nat) (σ : MS) (hk : PInv κ) (hI : RInv σ)  : Met l yX4_needRow vs_r_needRow rm_r_needRow (va_Pc [.ref (kA κ 0)] (wSr dC dI adK adV (rW κ σ) (rT κ) sz)) (va_Qq (fun (r : Option Nat) (τ : MS) => RInv τ ∧ (((σ.1 1).toInt = 0 ∨ (τ.1 1).toInt ≠ 0) ∧ ((τ.1 1).toInt ≠ 0 ∨ r ≠ none) ∧ ∀ a9, r = some a9 → ∃ u9, IsRow κ a9 u9)) (fun (τ : MS) => wEn dC dI (va_A (rW κ σ) sz) (rW κ τ) []) (va_A (rW κ σ) sz)) 0 0 (va_A (rW κ σ) sz) := by
  refine Met.ofW (cc := cX4_needRow) (maxL := 2) (ret := (some (.object "NearEnough$Row"))) (by decide +kernel) rfl ?_
  intro p e s m args below meth c s₁ B hml hv
  obtain ⟨rfl, ⟨hsz, hP, hK, hD0, hE⟩, hZ, hR⟩ := hv
  have hx := B.exec
  have hb := B.bytes
  have hr := B.returns
  have hts := atoms_spec (ws := vs_r_needRow) B.pre
  have hown : s.vm.findClass RX4 = some m.cls := findClass_of_methodNamed B.named
  have hlocks := B.notSynchronized
  subst hsz
  have hD := hD0.self (sz := s.heap.size)
  generalize hAe : va_A (rW κ σ) s.heap.size = A at hD hZ ⊢
  have hA : ∀ q : Nat, s.heap.size ≤ q → A q := fun q h => by rw [← hAe]; exact Or.inr h
  have hl := lv_entry ([.ref (kA κ 0)]) (n := 2) (Nat.le_of_ble_eq_true rfl)
  rw [lg_entry_eq]
  generalize (lg_sl ([.ref (kA κ 0)]) ++ List.replicate (2 - (lg_sl ([.ref (kA κ 0)])).length) Slot.unset).toArray = ls at hl ⊢
  have hl : lv_has ls 2 [(0, .ref (kA κ 0))] := hl
  have ho := fun w (h : w ∈ ow_r_needRow) => hts w (List.mem_cons_of_mem _ (List.mem_append_left _ h))
  have hin4 : ∀ w ∈ u_ws RX4 TX4 4, w ∈ vs_r_needRow := fun w h => (List.mem_cons_of_mem _ (List.mem_append_right _ (List.mem_append_right _ (List.mem_append_right _ (List.mem_append_right _ (List.mem_append_right _ (List.mem_append_right _ (List.mem_append_right _ (List.mem_append_right _ (List.mem_append_right _ (List.mem_append_left _ h)))))))))))
  have hin6 : ∀ w ∈ u_ws RX6 TX6 7, w ∈ vs_r_needRow := fun w h => (List.mem_cons_of_mem _ (List.mem_append_right _ (List.mem_append_right _ (List.mem_append_right _ (List.mem_append_right _ (List.mem_append_right _ (List.mem_append_right _ (List.mem_append_right _ (List.mem_append_right _ (List.mem_append_right _ (List.mem_append_right _ h)))))))))))
  refine zQ (fun Q hQ => ?_)
  refine zH (A := A) (ws := (rW κ σ)) (fun H hP hS => ?_) hP
  have hk0 := hk.1
  have hk1 := hk.2.1
  have hk2 := hk.2.2.1
  refine lv_aload_n hx hb dX4_needRow_0 rfl (lv_at hl 0 rfl) ?_
  refine zy_i (va_runV (As := []) (rest := []) ⟨hx, hb, hml, hown, hts⟩ (r_expectsName l dC dI adK adV κ H.size σ  hk hI ) (cwV 0 hts gd_r_needRow_77_r_expectsName rfl rfl rfl dd_r_expectsName ⟨Nat.le_of_ble_eq_true rfl, Nat.le_of_ble_eq_true rfl⟩) (preVr hP hK hD hE hZ hR hS hA (ci := 4) (q0 := 0) rfl rfl) rfl rfl hl.1 rfl (lv_room (Nat.le_of_ble_eq_true rfl)) dX4_needRow_1 ⟨Nat.le_of_ble_eq_true rfl, Nat.le_of_ble_eq_true rfl⟩) hD hS hA (fun z1_ τ2_ H locs hq hP hD hS => ?_)
  obtain ⟨hτ2_, q3_⟩ := hq
  have q3_ : ((σ.1 1).toInt = 0 ∨ (τ2_.1 1).toInt ≠ 0) ∧ ((z1_.toInt = 1 ∧ (τ2_.1 1).toInt = 0) ∨ (z1_.toInt = 0 ∧ (τ2_.1 1).toInt ≠ 0)) := q3_
  refine W.widen (k := 0) (n := 0) (Nat.le_of_ble_eq_true rfl) (Nat.le_of_ble_eq_true rfl) ?_
  refine lv_if_ne (tgt := 9) hx hb dX4_needRow_4 rfl (fun c4_ => ?_) (fun c4_ => ?_)
  · have tc4_ := (show z1_.toInt ≠ 0 from ti_ne rfl rg_11 c4_)
    refine lv_aload_n hx hb dX4_needRow_9 rfl (lv_at hl 0 rfl) ?_
    refine va_get (D := (dC, dI)) (ci := 4) (v := .ref (kA κ 3)) (C := RX4) (T := TX4) (N := 4) hx hb hts hin4 hown hK hP 0 rfl rfl 1 (Nat.le_of_ble_eq_true rfl) (ho (.fieldLink RX4 12 "NearEnough$Reader" "told" "LNearEnough$Program;") (List.mem_of_getElem? (i := 0) rfl)) (fun _ h9 => h9) rfl dX4_needRow_10 ?_
    refine lv_aload_n hx hb dX4_needRow_13 rfl (lv_at hl 0 rfl) ?_
    refine va_get (D := (dC, dI)) (ci := 4) (v := .ref (kA κ 1)) (C := RX4) (T := TX4) (N := 4) hx hb hts hin4 hown hK hP 0 rfl rfl 0 (Nat.le_of_ble_eq_true rfl) (ho (.fieldLink RX4 30 "NearEnough$Reader" "scanner" "LNearEnough$Scanner;") (List.mem_of_getElem? (i := 1) rfl)) (fun _ h9 => h9) rfl dX4_needRow_14 ?_
    refine va_get (D := (dC, dI)) (ci := 6) (v := .long (τ2_.2.2.2 7)) (C := RX6) (T := TX6) (N := 7) hx hb hts hin6 hown hK hP 1 rfl rfl 5 (Nat.le_of_ble_eq_true rfl) (ho (.fieldLink RX4 81 "NearEnough$Scanner" "word" "J") (List.mem_of_getElem? (i := 2) rfl)) (fun _ h9 => h9) rfl dX4_needRow_17 ?_
    refine zy_q (va_runV (As := [.long (τ2_.2.2.2 7)]) (rest := []) ⟨hx, hb, hml, hown, hts⟩ (r_rowNamed l dC dI adK adV κ H.size τ2_ (τ2_.2.2.2 7) hk hτ2_ ) (cwV 1 hts gd_r_needRow_85_r_rowNamed rfl rfl rfl dd_r_rowNamed ⟨Nat.le_of_ble_eq_true rfl, Nat.le_of_ble_eq_true rfl⟩) (preVr hP hK hD hE hZ hR hS hA (ci := 3) (q0 := 3) rfl rfl) rfl rfl hl.1 rfl (lv_room (Nat.le_of_ble_eq_true rfl)) dX4_needRow_20 ⟨Nat.le_of_ble_eq_true rfl, Nat.le_of_ble_eq_true rfl⟩) hD hS hA (fun z5_ τ6_ H locs hq hP hD hS => ?_)
    obtain ⟨hτ6_, q7_⟩ := hq
    rw [hτ6_] at hP hD
    refine W.widen (k := 0) (n := 0) (Nat.le_of_ble_eq_true rfl) (Nat.le_of_ble_eq_true rfl) ?_
    rcases z5_ with _ | r8_
    · refine zv (v := .null) rfl ?_
      refine lv_astore_nN (lv' := [(1, .null), (0, .ref (kA κ 0))]) hx hb dX4_needRow_23 rfl hl (Nat.le_of_ble_eq_true rfl) rfl (fun ls hl => ?_)
      refine lv_aload_nN hx hb dX4_needRow_24 rfl (lv_at hl 0 rfl) ?_
      refine lv_ifnonnullN hx hb dX4_needRow_25 ?_
      refine lv_aload_n hx hb dX4_needRow_28 rfl (lv_at hl 1 rfl) ?_
      refine lv_iconst (v := 5) hx hb dX4_needRow_29 rg_14 ?_
      refine lv_aload_n hx hb dX4_needRow_30 rfl (lv_at hl 1 rfl) ?_
      refine va_get (D := (dC, dI)) (ci := 4) (v := .ref (kA κ 1)) (C := RX4) (T := TX4) (N := 4) hx hb hts hin4 hown hK hP 0 rfl rfl 0 (Nat.le_of_ble_eq_true rfl) (ho (.fieldLink RX4 30 "NearEnough$Reader" "scanner" "LNearEnough$Scanner;") (List.mem_of_getElem? (i := 1) rfl)) (fun _ h9 => h9) rfl dX4_needRow_31 ?_
      have bτ2__5 : 0 ≤ (τ2_.1 5).toInt ∧ (τ2_.1 5).toInt ≤ 1000 := hτ2_ 5
      refine va_get (D := (dC, dI)) (ci := 6) (v := .int (τ2_.1 5)) (C := RX6) (T := TX6) (N := 7) hx hb hts hin6 hown hK hP 1 rfl rfl 4 (Nat.le_of_ble_eq_true rfl) (ho (.fieldLink RX4 61 "NearEnough$Scanner" "place" "I") (List.mem_of_getElem? (i := 3) rfl)) (fun _ h9 => h9) rfl dX4_needRow_34 ?_
      have kk9_ : (5 : Int32).toInt = 5 := rg_15
      refine zy_v (va_runV (As := [.int 5, .int (τ2_.1 5)]) (rest := []) ⟨hx, hb, hml, hown, hts⟩ (r_refuse l dC dI adK adV κ H.size τ2_ 5 (τ2_.1 5) hk hτ2_ (by decide)) (cwV 2 hts gd_r_needRow_64_r_refuse rfl rfl rfl dd_r_refuse ⟨Nat.le_of_ble_eq_true rfl, Nat.le_of_ble_eq_true rfl⟩) (preVr hP hK hD hE hZ hR hS hA (ci := 4) (q0 := 0) rfl rfl) rfl rfl hl.1 rfl (lv_room (Nat.le_of_ble_eq_true rfl)) dX4_needRow_37 ⟨Nat.le_of_ble_eq_true rfl, Nat.le_of_ble_eq_true rfl⟩) hD hS hA (fun τ11_ H locs hq hP hD hS => ?_)
      obtain ⟨hτ11_, q12_⟩ := hq
      have q12_ : (τ11_.1 1).toInt ≠ 0 := q12_
      refine W.widen (k := 0) (n := 0) (Nat.le_of_ble_eq_true rfl) (Nat.le_of_ble_eq_true rfl) ?_
      refine lv_goto (tgt := 50) hx hb dX4_needRow_40 rfl ?_
      refine lv_aload_nN hx hb dX4_needRow_50 rfl (lv_at hl 0 rfl) ?_
      have o1 : ((σ.1 1).toInt = 0 ∨ (τ11_.1 1).toInt ≠ 0) := by omega
      have o2 : (τ11_.1 1).toInt ≠ 0 := by omega
      rw [hQ]
      exact W.aret (v := .null) hx hb hr (Or.inl ⟨_, rfl⟩) (Or.inl rfl) (fun t ht hW => ⟨⟨none, τ11_, rfl, ⟨hτ11_, ⟨o1, Or.inl o2, fun a9 h9 => absurd h9 (by simp)⟩⟩, wEn_of hP (hK.sub [] rfl) hD ht hW⟩, hS.F ht⟩) hS.2.2 dX4_needRow_51
    · refine zv (v := .ref r8_) rfl ?_
      obtain ⟨u13_, gu13_⟩ := q7_ r8_ rfl
      refine lv_astore_n (lv' := [(1, .ref r8_), (0, .ref (kA κ 0))]) hx hb dX4_needRow_23 rfl hl (Nat.le_of_ble_eq_true rfl) rfl (fun ls hl => ?_)
      refine lv_aload_n hx hb dX4_needRow_24 rfl (lv_at hl 0 rfl) ?_
      refine lv_ifnonnull (tgt := 43) hx hb dX4_needRow_25 rfl ?_
      refine lv_aload_n hx hb dX4_needRow_43 rfl (lv_at hl 1 rfl) ?_
      refine va_get (D := (dC, dI)) (ci := 4) (v := .ref (kA κ 1)) (C := RX4) (T := TX4) (N := 4) hx hb hts hin4 hown hK hP 0 rfl rfl 0 (Nat.le_of_ble_eq_true rfl) (ho (.fieldLink RX4 30 "NearEnough$Reader" "scanner" "LNearEnough$Scanner;") (List.mem_of_getElem? (i := 1) rfl)) (fun _ h9 => h9) rfl dX4_needRow_44 ?_
      refine zy_v (va_runV (As := []) (rest := []) ⟨hx, hb, hml, hown, hts⟩ (r_advance l dC dI adK adV κ H.size τ2_  hk hτ2_ ) (cwV 0 hts gd_r_needRow_34_r_advance rfl rfl rfl dd_r_advance ⟨Nat.le_of_ble_eq_true rfl, Nat.le_of_ble_eq_true rfl⟩) (preVr hP hK hD hE hZ hR hS hA (ci := 6) (q0 := 1) rfl rfl) rfl rfl hl.1 rfl (lv_room (Nat.le_of_ble_eq_true rfl)) dX4_needRow_47 ⟨Nat.le_of_ble_eq_true rfl, Nat.le_of_ble_eq_true rfl⟩) hD hS hA (fun τ15_ H locs hq hP hD hS => ?_)
      obtain ⟨hτ15_, q16_⟩ := hq
      have q16_ : (τ15_.1 1).toInt = (τ2_.1 1).toInt := q16_
      refine W.widen (k := 0) (n := 0) (Nat.le_of_ble_eq_true rfl) (Nat.le_of_ble_eq_true rfl) ?_
      refine lv_aload_n hx hb dX4_needRow_50 rfl (lv_at hl 0 rfl) ?_
      have o3 : ((σ.1 1).toInt = 0 ∨ (τ15_.1 1).toInt ≠ 0) := by omega
      rw [hQ]
      exact W.aret (v := .ref r8_) hx hb hr (Or.inl ⟨_, rfl⟩) (Or.inr ⟨_, rfl⟩) (fun t ht hW => ⟨⟨(some r8_), τ15_, rfl, ⟨hτ15_, ⟨o3, Or.inr (by simp), fun a9 h9 => by rw [← Option.some.inj h9]; exact ⟨_, gu13_⟩⟩⟩, wEn_of hP (hK.sub [] rfl) hD ht hW⟩, hS.F ht⟩) hS.2.2 dX4_needRow_51
  · have tc4_ := (show z1_.toInt = 0 from ti_eq rfl rg_11 c4_)
    refine lv_null hx hb dX4_needRow_7 ?_
    have o4 : ((σ.1 1).toInt = 0 ∨ (τ2_.1 1).toInt ≠ 0) := by omega
    have o5 : (τ2_.1 1).toInt ≠ 0 := by omega
    rw [hQ]
    exact W.aret (v := .null) hx hb hr (Or.inl ⟨_, rfl⟩) (Or.inl rfl) (fun t ht hW => ⟨⟨none, τ2_, rfl, ⟨hτ2_, ⟨o4, Or.inl o5, fun a9 h9 => absurd h9 (by simp)⟩⟩, wEn_of hP (hK.sub [] rfl) hD ht hW⟩, hS.F ht⟩) hS.2.2 dX4_needRow_8
def ow_r_needEndKind : List Cond := [.fieldLink RX4 30 "NearEnough$Reader" "scanner" "LNearEnough$Scanner;"]
def vs_r_needEndKind : List Cond := .code yX4_needEndKind cX4_needEndKind 2 (some .int) :: (ow_r_needEndKind ++ (([.methodLink RX4 40 yX4_expects, .instanceMethod yX4_expects, .selects RX4 yX4_expects yX4_expects, .initialized RX4] : List Cond) ++ (vs_r_expects ++ (([.methodLink RX4 46 yX6_isOneOf, .instanceMethod yX6_isOneOf, .selects RX6 yX6_isOneOf yX6_isOneOf, .initialized RX6] : List Cond) ++ (vs_r_isOneOf ++ (([.methodLink RX4 102 yX4_needWord, .instanceMethod yX4_needWord, .selects RX4 yX4_needWord yX4_needWord, .initialized RX4] : List Cond) ++ (vs_r_needWord ++ (wsX40))))))))
theorem vg_r_needEndKind : vs_r_needEndKind.all goodWord = true := by decide +kernel
theorem dd_r_needEndKind : yX4_needEndKind.cls = RX4 ∧ yX4_needEndKind.cls ≠ "java/lang/invoke/MethodHandle" ∧ yX4_needEndKind.cls ≠ "java/lang/invoke/VarHandle" ∧ (parseMethodDescriptor yX4_needEndKind.desc).map (fun d => d.parameters.length) = some 0 := by decide +kernel
def rm_r_needEndKind : Room := { frames := 6, cells := 0, slots := 0, locals := 131 }
theorem gd_r_needEndKind_40_r_expects : GoodIn vs_r_needEndKind (wsV RX4 40 RX4 yX4_expects vs_r_expects) := goodIn_app (goodIn_sub (fun w h => (List.mem_cons_of_mem _ (List.mem_append_right _ (List.mem_append_left _ h)))) (by decide +kernel)) (goodIn_sub (fun w h => (List.mem_cons_of_mem _ (List.mem_append_right _ (List.mem_append_right _ (List.mem_append_left _ h))))) vg_r_expects)
theorem gd_r_needEndKind_46_r_isOneOf : GoodIn vs_r_needEndKind (wsV RX4 46 RX6 yX6_isOneOf vs_r_isOneOf) := goodIn_app (goodIn_sub (fun w h => (List.mem_cons_of_mem _ (List.mem_append_right _ (List.mem_append_right _ (List.mem_append_right _ (List.mem_append_left _ h)))))) (by decide +kernel)) (goodIn_sub (fun w h => (List.mem_cons_of_mem _ (List.mem_append_right _ (List.mem_append_right _ (List.mem_append_right _ (List.mem_append_right _ (List.mem_append_left _ h))))))) vg_r_isOneOf)
theorem gd_r_needEndKind_102_r_needWord : GoodIn vs_r_needEndKind (wsV RX4 102 RX4 yX4_needWord vs_r_needWord) := goodIn_app (goodIn_sub (fun w h => (List.mem_cons_of_mem _ (List.mem_append_right _ (List.mem_append_right _ (List.mem_append_right _ (List.mem_append_right _ (List.mem_append_right _ (List.mem_append_left _ h)))))))) (by decide +kernel)) (goodIn_sub (fun w h => (List.mem_cons_of_mem _ (List.mem_append_right _ (List.mem_append_right _ (List.mem_append_right _ (List.mem_append_right _ (List.mem_append_right _ (List.mem_append_right _ (List.mem_append_left _ h))))))))) vg_r_needWord)
set_option maxHeartbeats 4000000 in
set_option maxRecDepth 100000 in
theorem r_needEndKind (l : Launch) (dC : Nat → ClassId) (dI : Nat → Nat → Nat) (adK adV : Nat → Nat) (κ : CE) (sz : Nat) (σ : MS) (hk : PInv κ) (hI : RInv σ)  : Met l yX4_needEndKind vs_r_needEndKind rm_r_needEndKind (va_Pc [.ref (kA κ 0)] (wSr dC dI adK adV (rW κ σ) (rT κ) sz)) (va_Qi (fun (r : Int32) (τ : MS) => RInv τ ∧ (((σ.1 1).toInt = 0 ∨ (τ.1 1).toInt ≠ 0))) (fun (τ : MS) => wEn dC dI (va_A (rW κ σ) sz) (rW κ τ) []) (va_A (rW κ σ) sz)) 0 0 (va_A (rW κ σ) sz) := by
  refine Met.ofW (cc := cX4_needEndKind) (maxL := 2) (ret := (some .int)) (by decide +kernel) rfl ?_
  intro p e s m args below meth c s₁ B hml hv
  obtain ⟨rfl, ⟨hsz, hP, hK, hD0, hE⟩, hZ, hR⟩ := hv
  have hx := B.exec
  have hb := B.bytes
  have hr := B.returns
  have hts := atoms_spec (ws := vs_r_needEndKind) B.pre
  have hown : s.vm.findClass RX4 = some m.cls := findClass_of_methodNamed B.named
  have hlocks := B.notSynchronized
  subst hsz
  have hD := hD0.self (sz := s.heap.size)
  generalize hAe : va_A (rW κ σ) s.heap.size = A at hD hZ ⊢
  have hA : ∀ q : Nat, s.heap.size ≤ q → A q := fun q h => by rw [← hAe]; exact Or.inr h
  have hl := lv_entry ([.ref (kA κ 0)]) (n := 2) (Nat.le_of_ble_eq_true rfl)
  rw [lg_entry_eq]
  generalize (lg_sl ([.ref (kA κ 0)]) ++ List.replicate (2 - (lg_sl ([.ref (kA κ 0)])).length) Slot.unset).toArray = ls at hl ⊢
  have hl : lv_has ls 2 [(0, .ref (kA κ 0))] := hl
  have ho := fun w (h : w ∈ ow_r_needEndKind) => hts w (List.mem_cons_of_mem _ (List.mem_append_left _ h))
  have hin4 : ∀ w ∈ u_ws RX4 TX4 4, w ∈ vs_r_needEndKind := fun w h => (List.mem_cons_of_mem _ (List.mem_append_right _ (List.mem_append_right _ (List.mem_append_right _ (List.mem_append_right _ (List.mem_append_right _ (List.mem_append_right _ (List.mem_append_right _ h))))))))
  refine zQ (fun Q hQ => ?_)
  refine zH (A := A) (ws := (rW κ σ)) (fun H hP hS => ?_) hP
  have hk0 := hk.1
  have hk1 := hk.2.1
  have hk2 := hk.2.2.1
  refine lv_aload_n hx hb dX4_needEndKind_0 rfl (lv_at hl 0 rfl) ?_
  refine lv_iconst (v := 1) hx hb dX4_needEndKind_1 rg_6 ?_
  have kk1_ : (1 : Int32).toInt = 1 := rg_18
  refine zy_i (va_runV (As := [.int 1]) (rest := []) ⟨hx, hb, hml, hown, hts⟩ (r_expects l dC dI adK adV κ H.size σ 1 hk hI ) (cwV 1 hts gd_r_needEndKind_40_r_expects rfl rfl rfl dd_r_expects ⟨Nat.le_of_ble_eq_true rfl, Nat.le_of_ble_eq_true rfl⟩) (preVr hP hK hD hE hZ hR hS hA (ci := 4) (q0 := 0) rfl rfl) rfl rfl hl.1 rfl (lv_room (Nat.le_of_ble_eq_true rfl)) dX4_needEndKind_2 ⟨Nat.le_of_ble_eq_true rfl, Nat.le_of_ble_eq_true rfl⟩) hD hS hA (fun z2_ τ3_ H locs hq hP hD hS => ?_)
  obtain ⟨hτ3_, q4_⟩ := hq
  have q4_ : ((σ.1 1).toInt = 0 ∨ (τ3_.1 1).toInt ≠ 0) ∧ ((z2_.toInt = 1 ∧ (τ3_.1 1).toInt = 0) ∨ (z2_.toInt = 0 ∧ (τ3_.1 1).toInt ≠ 0)) := q4_
  refine W.widen (k := 0) (n := 0) (Nat.le_of_ble_eq_true rfl) (Nat.le_of_ble_eq_true rfl) ?_
  refine lv_if_ne (tgt := 10) hx hb dX4_needEndKind_5 rfl (fun c5_ => ?_) (fun c5_ => ?_)
  · have tc5_ := (show z2_.toInt ≠ 0 from ti_ne rfl rg_11 c5_)
    refine lv_aload_n hx hb dX4_needEndKind_10 rfl (lv_at hl 0 rfl) ?_
    refine va_get (D := (dC, dI)) (ci := 4) (v := .ref (kA κ 1)) (C := RX4) (T := TX4) (N := 4) hx hb hts hin4 hown hK hP 0 rfl rfl 0 (Nat.le_of_ble_eq_true rfl) (ho (.fieldLink RX4 30 "NearEnough$Reader" "scanner" "LNearEnough$Scanner;") (List.mem_of_getElem? (i := 0) rfl)) (fun _ h9 => h9) rfl dX4_needEndKind_11 ?_
    refine va_ldcS (tx := "mean ") (q := adK 7) hx hb hown (hR (140, "mean ", 7) (List.mem_of_getElem? (i := 7) rfl)) dX4_needEndKind_14 ?_
    refine zy_i (va_runV (As := [.ref (adK 7)]) (rest := []) ⟨hx, hb, hml, hown, hts⟩ (r_isOneOf l dC dI adK adV κ H.size τ3_ 7 (by decide) hk hτ3_ ) (cwV 1 hts gd_r_needEndKind_46_r_isOneOf rfl rfl rfl dd_r_isOneOf ⟨Nat.le_of_ble_eq_true rfl, Nat.le_of_ble_eq_true rfl⟩) (preVr hP hK hD hE hZ hR hS hA (ci := 6) (q0 := 1) rfl rfl) rfl rfl hl.1 rfl (lv_room (Nat.le_of_ble_eq_true rfl)) dX4_needEndKind_16 ⟨Nat.le_of_ble_eq_true rfl, Nat.le_of_ble_eq_true rfl⟩) hD hS hA (fun z6_ τ7_ H locs hq hP hD hS => ?_)
    obtain ⟨hτ7_, q8_⟩ := hq
    rw [hτ7_] at hP hD
    have q8_ : z6_.toInt = 0 ∨ z6_.toInt = 1 := q8_
    refine W.widen (k := 0) (n := 0) (Nat.le_of_ble_eq_true rfl) (Nat.le_of_ble_eq_true rfl) ?_
    refine lv_if_eq (tgt := 26) hx hb dX4_needEndKind_19 rfl (fun c9_ => ?_) (fun c9_ => ?_)
    · have tc9_ := (show z6_.toInt = 0 from ti_eq rfl rg_11 c9_)
      refine lv_aload_n hx hb dX4_needEndKind_26 rfl (lv_at hl 0 rfl) ?_
      refine va_get (D := (dC, dI)) (ci := 4) (v := .ref (kA κ 1)) (C := RX4) (T := TX4) (N := 4) hx hb hts hin4 hown hK hP 0 rfl rfl 0 (Nat.le_of_ble_eq_true rfl) (ho (.fieldLink RX4 30 "NearEnough$Reader" "scanner" "LNearEnough$Scanner;") (List.mem_of_getElem? (i := 0) rfl)) (fun _ h9 => h9) rfl dX4_needEndKind_27 ?_
      refine va_ldcS (tx := "one ") (q := adK 8) hx hb hown (hR (142, "one ", 8) (List.mem_of_getElem? (i := 8) rfl)) dX4_needEndKind_30 ?_
      refine zy_i (va_runV (As := [.ref (adK 8)]) (rest := []) ⟨hx, hb, hml, hown, hts⟩ (r_isOneOf l dC dI adK adV κ H.size τ3_ 8 (by decide) hk hτ3_ ) (cwV 1 hts gd_r_needEndKind_46_r_isOneOf rfl rfl rfl dd_r_isOneOf ⟨Nat.le_of_ble_eq_true rfl, Nat.le_of_ble_eq_true rfl⟩) (preVr hP hK hD hE hZ hR hS hA (ci := 6) (q0 := 1) rfl rfl) rfl rfl hl.1 rfl (lv_room (Nat.le_of_ble_eq_true rfl)) dX4_needEndKind_32 ⟨Nat.le_of_ble_eq_true rfl, Nat.le_of_ble_eq_true rfl⟩) hD hS hA (fun z10_ τ11_ H locs hq hP hD hS => ?_)
      obtain ⟨hτ11_, q12_⟩ := hq
      rw [hτ11_] at hP hD
      have q12_ : z10_.toInt = 0 ∨ z10_.toInt = 1 := q12_
      refine W.widen (k := 0) (n := 0) (Nat.le_of_ble_eq_true rfl) (Nat.le_of_ble_eq_true rfl) ?_
      refine lv_if_eq (tgt := 42) hx hb dX4_needEndKind_35 rfl (fun c13_ => ?_) (fun c13_ => ?_)
      · have tc13_ := (show z10_.toInt = 0 from ti_eq rfl rg_11 c13_)
        refine lv_iconst (v := 0) hx hb dX4_needEndKind_42 rg_0 ?_
        refine lv_istore_n (lv' := [(1, .int 0), (0, .ref (kA κ 0))]) hx hb dX4_needEndKind_43 rfl hl (Nat.le_of_ble_eq_true rfl) rfl (fun ls hl => ?_)
        refine lv_aload_n hx hb dX4_needEndKind_44 rfl (lv_at hl 1 rfl) ?_
        refine va_ldcS (tx := "never mean one ") (q := adK 9) hx hb hown (hR (144, "never mean one ", 9) (List.mem_of_getElem? (i := 9) rfl)) dX4_needEndKind_45 ?_
        refine zy_v (va_runV (As := [.ref (adK 9)]) (rest := []) ⟨hx, hb, hml, hown, hts⟩ (r_needWord l dC dI adK adV κ H.size τ3_ 9 (by decide) hk hτ3_ ) (cwV 1 hts gd_r_needEndKind_102_r_needWord rfl rfl rfl dd_r_needWord ⟨Nat.le_of_ble_eq_true rfl, Nat.le_of_ble_eq_true rfl⟩) (preVr hP hK hD hE hZ hR hS hA (ci := 4) (q0 := 0) rfl rfl) rfl rfl hl.1 rfl (lv_room (Nat.le_of_ble_eq_true rfl)) dX4_needEndKind_47 ⟨Nat.le_of_ble_eq_true rfl, Nat.le_of_ble_eq_true rfl⟩) hD hS hA (fun τ15_ H locs hq hP hD hS => ?_)
        obtain ⟨hτ15_, q16_⟩ := hq
        have q16_ : ((τ3_.1 1).toInt = 0 ∨ (τ15_.1 1).toInt ≠ 0) := q16_
        refine W.widen (k := 0) (n := 0) (Nat.le_of_ble_eq_true rfl) (Nat.le_of_ble_eq_true rfl) ?_
        refine lv_iload_n hx hb dX4_needEndKind_50 rfl (lv_at hl 0 rfl) ?_
        have kk17_ : (0 : Int32).toInt = 0 := rg_11
        have o1 : ((σ.1 1).toInt = 0 ∨ (τ15_.1 1).toInt ≠ 0) := by omega
        rw [hQ]
        exact W.iret (v := 0) hx hb hr (fun t ht hW => ⟨⟨0, τ15_, rfl, ⟨hτ15_, o1⟩, wEn_of hP (hK.sub [] rfl) hD ht hW⟩, hS.F ht⟩) hS.2.2 dX4_needEndKind_51
      · have tc13_ := (show z10_.toInt ≠ 0 from ti_ne rfl rg_11 c13_)
        refine lv_iconst (v := 2) hx hb dX4_needEndKind_38 rg_19 ?_
        refine lv_goto (tgt := 43) hx hb dX4_needEndKind_39 rfl ?_
        refine lv_istore_n (lv' := [(1, .int 2), (0, .ref (kA κ 0))]) hx hb dX4_needEndKind_43 rfl hl (Nat.le_of_ble_eq_true rfl) rfl (fun ls hl => ?_)
        refine lv_aload_n hx hb dX4_needEndKind_44 rfl (lv_at hl 1 rfl) ?_
        refine va_ldcS (tx := "never mean one ") (q := adK 9) hx hb hown (hR (144, "never mean one ", 9) (List.mem_of_getElem? (i := 9) rfl)) dX4_needEndKind_45 ?_
        refine zy_v (va_runV (As := [.ref (adK 9)]) (rest := []) ⟨hx, hb, hml, hown, hts⟩ (r_needWord l dC dI adK adV κ H.size τ3_ 9 (by decide) hk hτ3_ ) (cwV 1 hts gd_r_needEndKind_102_r_needWord rfl rfl rfl dd_r_needWord ⟨Nat.le_of_ble_eq_true rfl, Nat.le_of_ble_eq_true rfl⟩) (preVr hP hK hD hE hZ hR hS hA (ci := 4) (q0 := 0) rfl rfl) rfl rfl hl.1 rfl (lv_room (Nat.le_of_ble_eq_true rfl)) dX4_needEndKind_47 ⟨Nat.le_of_ble_eq_true rfl, Nat.le_of_ble_eq_true rfl⟩) hD hS hA (fun τ19_ H locs hq hP hD hS => ?_)
        obtain ⟨hτ19_, q20_⟩ := hq
        have q20_ : ((τ3_.1 1).toInt = 0 ∨ (τ19_.1 1).toInt ≠ 0) := q20_
        refine W.widen (k := 0) (n := 0) (Nat.le_of_ble_eq_true rfl) (Nat.le_of_ble_eq_true rfl) ?_
        refine lv_iload_n hx hb dX4_needEndKind_50 rfl (lv_at hl 0 rfl) ?_
        have kk21_ : (2 : Int32).toInt = 2 := rg_20
        have o2 : ((σ.1 1).toInt = 0 ∨ (τ19_.1 1).toInt ≠ 0) := by omega
        rw [hQ]
        exact W.iret (v := 2) hx hb hr (fun t ht hW => ⟨⟨2, τ19_, rfl, ⟨hτ19_, o2⟩, wEn_of hP (hK.sub [] rfl) hD ht hW⟩, hS.F ht⟩) hS.2.2 dX4_needEndKind_51
    · have tc9_ := (show z6_.toInt ≠ 0 from ti_ne rfl rg_11 c9_)
      refine lv_iconst (v := 1) hx hb dX4_needEndKind_22 rg_6 ?_
      refine lv_goto (tgt := 43) hx hb dX4_needEndKind_23 rfl ?_
      refine lv_istore_n (lv' := [(1, .int 1), (0, .ref (kA κ 0))]) hx hb dX4_needEndKind_43 rfl hl (Nat.le_of_ble_eq_true rfl) rfl (fun ls hl => ?_)
      refine lv_aload_n hx hb dX4_needEndKind_44 rfl (lv_at hl 1 rfl) ?_
      refine va_ldcS (tx := "never mean one ") (q := adK 9) hx hb hown (hR (144, "never mean one ", 9) (List.mem_of_getElem? (i := 9) rfl)) dX4_needEndKind_45 ?_
      refine zy_v (va_runV (As := [.ref (adK 9)]) (rest := []) ⟨hx, hb, hml, hown, hts⟩ (r_needWord l dC dI adK adV κ H.size τ3_ 9 (by decide) hk hτ3_ ) (cwV 1 hts gd_r_needEndKind_102_r_needWord rfl rfl rfl dd_r_needWord ⟨Nat.le_of_ble_eq_true rfl, Nat.le_of_ble_eq_true rfl⟩) (preVr hP hK hD hE hZ hR hS hA (ci := 4) (q0 := 0) rfl rfl) rfl rfl hl.1 rfl (lv_room (Nat.le_of_ble_eq_true rfl)) dX4_needEndKind_47 ⟨Nat.le_of_ble_eq_true rfl, Nat.le_of_ble_eq_true rfl⟩) hD hS hA (fun τ23_ H locs hq hP hD hS => ?_)
      obtain ⟨hτ23_, q24_⟩ := hq
      have q24_ : ((τ3_.1 1).toInt = 0 ∨ (τ23_.1 1).toInt ≠ 0) := q24_
      refine W.widen (k := 0) (n := 0) (Nat.le_of_ble_eq_true rfl) (Nat.le_of_ble_eq_true rfl) ?_
      refine lv_iload_n hx hb dX4_needEndKind_50 rfl (lv_at hl 0 rfl) ?_
      have kk25_ : (1 : Int32).toInt = 1 := rg_18
      have o3 : ((σ.1 1).toInt = 0 ∨ (τ23_.1 1).toInt ≠ 0) := by omega
      rw [hQ]
      exact W.iret (v := 1) hx hb hr (fun t ht hW => ⟨⟨1, τ23_, rfl, ⟨hτ23_, o3⟩, wEn_of hP (hK.sub [] rfl) hD ht hW⟩, hS.F ht⟩) hS.2.2 dX4_needEndKind_51
  · have tc5_ := (show z2_.toInt = 0 from ti_eq rfl rg_11 c5_)
    refine lv_iconst (v := 0) hx hb dX4_needEndKind_8 rg_0 ?_
    have kk26_ : (0 : Int32).toInt = 0 := rg_11
    have o4 : ((σ.1 1).toInt = 0 ∨ (τ3_.1 1).toInt ≠ 0) := by omega
    rw [hQ]
    exact W.iret (v := 0) hx hb hr (fun t ht hW => ⟨⟨0, τ3_, rfl, ⟨hτ3_, o4⟩, wEn_of hP (hK.sub [] rfl) hD ht hW⟩, hS.F ht⟩) hS.2.2 dX4_needEndKind_9
def ow_r_stepKind : List Cond := [.fieldLink RX4 30 "NearEnough$Reader" "scanner" "LNearEnough$Scanner;"]
def vs_r_stepKind : List Cond := .code yX4_stepKind cX4_stepKind 1 (some .int) :: (ow_r_stepKind ++ (([.methodLink RX4 46 yX6_isOneOf, .instanceMethod yX6_isOneOf, .selects RX6 yX6_isOneOf yX6_isOneOf, .initialized RX6] : List Cond) ++ (vs_r_isOneOf ++ (wsX40))))
theorem vg_r_stepKind : vs_r_stepKind.all goodWord = true := by decide +kernel
theorem dd_r_stepKind : yX4_stepKind.cls = RX4 ∧ yX4_stepKind.cls ≠ "java/lang/invoke/MethodHandle" ∧ yX4_stepKind.cls ≠ "java/lang/invoke/VarHandle" ∧ (parseMethodDescriptor yX4_stepKind.desc).map (fun d => d.parameters.length) = some 0 := by decide +kernel
def rm_r_stepKind : Room := { frames := 5, cells := 0, slots := 0, locals := 110 }
theorem gd_r_stepKind_46_r_isOneOf : GoodIn vs_r_stepKind (wsV RX4 46 RX6 yX6_isOneOf vs_r_isOneOf) := goodIn_app (goodIn_sub (fun w h => (List.mem_cons_of_mem _ (List.mem_append_right _ (List.mem_append_left _ h)))) (by decide +kernel)) (goodIn_sub (fun w h => (List.mem_cons_of_mem _ (List.mem_append_right _ (List.mem_append_right _ (List.mem_append_left _ h))))) vg_r_isOneOf)
set_option maxHeartbeats 4000000 in
set_option maxRecDepth 100000 in
theorem r_stepKind (l : Launch) (dC : Nat → ClassId) (dI : Nat → Nat → Nat) (adK adV : Nat → Nat) (κ : CE) (sz : Nat) (σ : MS) (hk : PInv κ) (hI : RInv σ)  : Met l yX4_stepKind vs_r_stepKind rm_r_stepKind (va_Pc [.ref (kA κ 0)] (wSr dC dI adK adV (rW κ σ) (rT κ) sz)) (va_Qi (fun (r : Int32) (τ : MS) => τ = σ ∧ ((-1) ≤ r.toInt ∧ r.toInt ≤ 7)) (fun (τ : MS) => wEn dC dI (va_A (rW κ σ) sz) (rW κ τ) []) (va_A (rW κ σ) sz)) 0 0 (va_A (rW κ σ) sz) := by
  refine Met.ofW (cc := cX4_stepKind) (maxL := 1) (ret := (some .int)) (by decide +kernel) rfl ?_
  intro p e s m args below meth c s₁ B hml hv
  obtain ⟨rfl, ⟨hsz, hP, hK, hD0, hE⟩, hZ, hR⟩ := hv
  have hx := B.exec
  have hb := B.bytes
  have hr := B.returns
  have hts := atoms_spec (ws := vs_r_stepKind) B.pre
  have hown : s.vm.findClass RX4 = some m.cls := findClass_of_methodNamed B.named
  have hlocks := B.notSynchronized
  subst hsz
  have hD := hD0.self (sz := s.heap.size)
  generalize hAe : va_A (rW κ σ) s.heap.size = A at hD hZ ⊢
  have hA : ∀ q : Nat, s.heap.size ≤ q → A q := fun q h => by rw [← hAe]; exact Or.inr h
  have hl := lv_entry ([.ref (kA κ 0)]) (n := 1) (Nat.le_of_ble_eq_true rfl)
  rw [lg_entry_eq]
  generalize (lg_sl ([.ref (kA κ 0)]) ++ List.replicate (1 - (lg_sl ([.ref (kA κ 0)])).length) Slot.unset).toArray = ls at hl ⊢
  have hl : lv_has ls 1 [(0, .ref (kA κ 0))] := hl
  have ho := fun w (h : w ∈ ow_r_stepKind) => hts w (List.mem_cons_of_mem _ (List.mem_append_left _ h))
  have hin4 : ∀ w ∈ u_ws RX4 TX4 4, w ∈ vs_r_stepKind := fun w h => (List.mem_cons_of_mem _ (List.mem_append_right _ (List.mem_append_right _ (List.mem_append_right _ h))))
  refine zQ (fun Q hQ => ?_)
  refine zH (A := A) (ws := (rW κ σ)) (fun H hP hS => ?_) hP
  have hk0 := hk.1
  have hk1 := hk.2.1
  have hk2 := hk.2.2.1
  refine lv_aload_n hx hb dX4_stepKind_0 rfl (lv_at hl 0 rfl) ?_
  refine va_get (D := (dC, dI)) (ci := 4) (v := .ref (kA κ 1)) (C := RX4) (T := TX4) (N := 4) hx hb hts hin4 hown hK hP 0 rfl rfl 0 (Nat.le_of_ble_eq_true rfl) (ho (.fieldLink RX4 30 "NearEnough$Reader" "scanner" "LNearEnough$Scanner;") (List.mem_of_getElem? (i := 0) rfl)) (fun _ h9 => h9) rfl dX4_stepKind_1 ?_
  refine va_ldcS (tx := "sum ") (q := adK 10) hx hb hown (hR (177, "sum ", 10) (List.mem_of_getElem? (i := 10) rfl)) dX4_stepKind_4 ?_
  refine zy_i (va_runV (As := [.ref (adK 10)]) (rest := []) ⟨hx, hb, hml, hown, hts⟩ (r_isOneOf l dC dI adK adV κ H.size σ 10 (by decide) hk hI ) (cwV 1 hts gd_r_stepKind_46_r_isOneOf rfl rfl rfl dd_r_isOneOf ⟨Nat.le_of_ble_eq_true rfl, Nat.le_of_ble_eq_true rfl⟩) (preVr hP hK hD hE hZ hR hS hA (ci := 6) (q0 := 1) rfl rfl) rfl rfl hl.1 rfl (lv_room (Nat.le_of_ble_eq_true rfl)) dX4_stepKind_6 ⟨Nat.le_of_ble_eq_true rfl, Nat.le_of_ble_eq_true rfl⟩) hD hS hA (fun z1_ τ2_ H locs hq hP hD hS => ?_)
  obtain ⟨hτ2_, q3_⟩ := hq
  rw [hτ2_] at hP hD
  have q3_ : z1_.toInt = 0 ∨ z1_.toInt = 1 := q3_
  refine W.widen (k := 0) (n := 0) (Nat.le_of_ble_eq_true rfl) (Nat.le_of_ble_eq_true rfl) ?_
  refine lv_if_eq (tgt := 14) hx hb dX4_stepKind_9 rfl (fun c4_ => ?_) (fun c4_ => ?_)
  · have tc4_ := (show z1_.toInt = 0 from ti_eq rfl rg_11 c4_)
    refine lv_aload_n hx hb dX4_stepKind_14 rfl (lv_at hl 0 rfl) ?_
    refine va_get (D := (dC, dI)) (ci := 4) (v := .ref (kA κ 1)) (C := RX4) (T := TX4) (N := 4) hx hb hts hin4 hown hK hP 0 rfl rfl 0 (Nat.le_of_ble_eq_true rfl) (ho (.fieldLink RX4 30 "NearEnough$Reader" "scanner" "LNearEnough$Scanner;") (List.mem_of_getElem? (i := 0) rfl)) (fun _ h9 => h9) rfl dX4_stepKind_15 ?_
    refine va_ldcS (tx := "most ") (q := adK 11) hx hb hown (hR (179, "most ", 11) (List.mem_of_getElem? (i := 11) rfl)) dX4_stepKind_18 ?_
    refine zy_i (va_runV (As := [.ref (adK 11)]) (rest := []) ⟨hx, hb, hml, hown, hts⟩ (r_isOneOf l dC dI adK adV κ H.size σ 11 (by decide) hk hI ) (cwV 1 hts gd_r_stepKind_46_r_isOneOf rfl rfl rfl dd_r_isOneOf ⟨Nat.le_of_ble_eq_true rfl, Nat.le_of_ble_eq_true rfl⟩) (preVr hP hK hD hE hZ hR hS hA (ci := 6) (q0 := 1) rfl rfl) rfl rfl hl.1 rfl (lv_room (Nat.le_of_ble_eq_true rfl)) dX4_stepKind_20 ⟨Nat.le_of_ble_eq_true rfl, Nat.le_of_ble_eq_true rfl⟩) hD hS hA (fun z5_ τ6_ H locs hq hP hD hS => ?_)
    obtain ⟨hτ6_, q7_⟩ := hq
    rw [hτ6_] at hP hD
    have q7_ : z5_.toInt = 0 ∨ z5_.toInt = 1 := q7_
    refine W.widen (k := 0) (n := 0) (Nat.le_of_ble_eq_true rfl) (Nat.le_of_ble_eq_true rfl) ?_
    refine lv_if_eq (tgt := 28) hx hb dX4_stepKind_23 rfl (fun c8_ => ?_) (fun c8_ => ?_)
    · have tc8_ := (show z5_.toInt = 0 from ti_eq rfl rg_11 c8_)
      refine lv_aload_n hx hb dX4_stepKind_28 rfl (lv_at hl 0 rfl) ?_
      refine va_get (D := (dC, dI)) (ci := 4) (v := .ref (kA κ 1)) (C := RX4) (T := TX4) (N := 4) hx hb hts hin4 hown hK hP 0 rfl rfl 0 (Nat.le_of_ble_eq_true rfl) (ho (.fieldLink RX4 30 "NearEnough$Reader" "scanner" "LNearEnough$Scanner;") (List.mem_of_getElem? (i := 0) rfl)) (fun _ h9 => h9) rfl dX4_stepKind_29 ?_
      refine va_ldcS (tx := "add ") (q := adK 12) hx hb hown (hR (181, "add ", 12) (List.mem_of_getElem? (i := 12) rfl)) dX4_stepKind_32 ?_
      refine zy_i (va_runV (As := [.ref (adK 12)]) (rest := []) ⟨hx, hb, hml, hown, hts⟩ (r_isOneOf l dC dI adK adV κ H.size σ 12 (by decide) hk hI ) (cwV 1 hts gd_r_stepKind_46_r_isOneOf rfl rfl rfl dd_r_isOneOf ⟨Nat.le_of_ble_eq_true rfl, Nat.le_of_ble_eq_true rfl⟩) (preVr hP hK hD hE hZ hR hS hA (ci := 6) (q0 := 1) rfl rfl) rfl rfl hl.1 rfl (lv_room (Nat.le_of_ble_eq_true rfl)) dX4_stepKind_34 ⟨Nat.le_of_ble_eq_true rfl, Nat.le_of_ble_eq_true rfl⟩) hD hS hA (fun z9_ τ10_ H locs hq hP hD hS => ?_)
      obtain ⟨hτ10_, q11_⟩ := hq
      rw [hτ10_] at hP hD
      have q11_ : z9_.toInt = 0 ∨ z9_.toInt = 1 := q11_
      refine W.widen (k := 0) (n := 0) (Nat.le_of_ble_eq_true rfl) (Nat.le_of_ble_eq_true rfl) ?_
      refine lv_if_eq (tgt := 42) hx hb dX4_stepKind_37 rfl (fun c12_ => ?_) (fun c12_ => ?_)
      · have tc12_ := (show z9_.toInt = 0 from ti_eq rfl rg_11 c12_)
        refine lv_aload_n hx hb dX4_stepKind_42 rfl (lv_at hl 0 rfl) ?_
        refine va_get (D := (dC, dI)) (ci := 4) (v := .ref (kA κ 1)) (C := RX4) (T := TX4) (N := 4) hx hb hts hin4 hown hK hP 0 rfl rfl 0 (Nat.le_of_ble_eq_true rfl) (ho (.fieldLink RX4 30 "NearEnough$Reader" "scanner" "LNearEnough$Scanner;") (List.mem_of_getElem? (i := 0) rfl)) (fun _ h9 => h9) rfl dX4_stepKind_43 ?_
        refine va_ldcS (tx := "less ") (q := adK 13) hx hb hown (hR (183, "less ", 13) (List.mem_of_getElem? (i := 13) rfl)) dX4_stepKind_46 ?_
        refine zy_i (va_runV (As := [.ref (adK 13)]) (rest := []) ⟨hx, hb, hml, hown, hts⟩ (r_isOneOf l dC dI adK adV κ H.size σ 13 (by decide) hk hI ) (cwV 1 hts gd_r_stepKind_46_r_isOneOf rfl rfl rfl dd_r_isOneOf ⟨Nat.le_of_ble_eq_true rfl, Nat.le_of_ble_eq_true rfl⟩) (preVr hP hK hD hE hZ hR hS hA (ci := 6) (q0 := 1) rfl rfl) rfl rfl hl.1 rfl (lv_room (Nat.le_of_ble_eq_true rfl)) dX4_stepKind_48 ⟨Nat.le_of_ble_eq_true rfl, Nat.le_of_ble_eq_true rfl⟩) hD hS hA (fun z13_ τ14_ H locs hq hP hD hS => ?_)
        obtain ⟨hτ14_, q15_⟩ := hq
        rw [hτ14_] at hP hD
        have q15_ : z13_.toInt = 0 ∨ z13_.toInt = 1 := q15_
        refine W.widen (k := 0) (n := 0) (Nat.le_of_ble_eq_true rfl) (Nat.le_of_ble_eq_true rfl) ?_
        refine lv_if_eq (tgt := 56) hx hb dX4_stepKind_51 rfl (fun c16_ => ?_) (fun c16_ => ?_)
        · have tc16_ := (show z13_.toInt = 0 from ti_eq rfl rg_11 c16_)
          refine lv_aload_n hx hb dX4_stepKind_56 rfl (lv_at hl 0 rfl) ?_
          refine va_get (D := (dC, dI)) (ci := 4) (v := .ref (kA κ 1)) (C := RX4) (T := TX4) (N := 4) hx hb hts hin4 hown hK hP 0 rfl rfl 0 (Nat.le_of_ble_eq_true rfl) (ho (.fieldLink RX4 30 "NearEnough$Reader" "scanner" "LNearEnough$Scanner;") (List.mem_of_getElem? (i := 0) rfl)) (fun _ h9 => h9) rfl dX4_stepKind_57 ?_
          refine va_ldcS (tx := "times ") (q := adK 14) hx hb hown (hR (185, "times ", 14) (List.mem_of_getElem? (i := 14) rfl)) dX4_stepKind_60 ?_
          refine zy_i (va_runV (As := [.ref (adK 14)]) (rest := []) ⟨hx, hb, hml, hown, hts⟩ (r_isOneOf l dC dI adK adV κ H.size σ 14 (by decide) hk hI ) (cwV 1 hts gd_r_stepKind_46_r_isOneOf rfl rfl rfl dd_r_isOneOf ⟨Nat.le_of_ble_eq_true rfl, Nat.le_of_ble_eq_true rfl⟩) (preVr hP hK hD hE hZ hR hS hA (ci := 6) (q0 := 1) rfl rfl) rfl rfl hl.1 rfl (lv_room (Nat.le_of_ble_eq_true rfl)) dX4_stepKind_62 ⟨Nat.le_of_ble_eq_true rfl, Nat.le_of_ble_eq_true rfl⟩) hD hS hA (fun z17_ τ18_ H locs hq hP hD hS => ?_)
          obtain ⟨hτ18_, q19_⟩ := hq
          rw [hτ18_] at hP hD
          have q19_ : z17_.toInt = 0 ∨ z17_.toInt = 1 := q19_
          refine W.widen (k := 0) (n := 0) (Nat.le_of_ble_eq_true rfl) (Nat.le_of_ble_eq_true rfl) ?_
          refine lv_if_eq (tgt := 70) hx hb dX4_stepKind_65 rfl (fun c20_ => ?_) (fun c20_ => ?_)
          · have tc20_ := (show z17_.toInt = 0 from ti_eq rfl rg_11 c20_)
            refine lv_aload_n hx hb dX4_stepKind_70 rfl (lv_at hl 0 rfl) ?_
            refine va_get (D := (dC, dI)) (ci := 4) (v := .ref (kA κ 1)) (C := RX4) (T := TX4) (N := 4) hx hb hts hin4 hown hK hP 0 rfl rfl 0 (Nat.le_of_ble_eq_true rfl) (ho (.fieldLink RX4 30 "NearEnough$Reader" "scanner" "LNearEnough$Scanner;") (List.mem_of_getElem? (i := 0) rfl)) (fun _ h9 => h9) rfl dX4_stepKind_71 ?_
            refine va_ldcS (tx := "scale ") (q := adK 15) hx hb hown (hR (187, "scale ", 15) (List.mem_of_getElem? (i := 15) rfl)) dX4_stepKind_74 ?_
            refine zy_i (va_runV (As := [.ref (adK 15)]) (rest := []) ⟨hx, hb, hml, hown, hts⟩ (r_isOneOf l dC dI adK adV κ H.size σ 15 (by decide) hk hI ) (cwV 1 hts gd_r_stepKind_46_r_isOneOf rfl rfl rfl dd_r_isOneOf ⟨Nat.le_of_ble_eq_true rfl, Nat.le_of_ble_eq_true rfl⟩) (preVr hP hK hD hE hZ hR hS hA (ci := 6) (q0 := 1) rfl rfl) rfl rfl hl.1 rfl (lv_room (Nat.le_of_ble_eq_true rfl)) dX4_stepKind_76 ⟨Nat.le_of_ble_eq_true rfl, Nat.le_of_ble_eq_true rfl⟩) hD hS hA (fun z21_ τ22_ H locs hq hP hD hS => ?_)
            obtain ⟨hτ22_, q23_⟩ := hq
            rw [hτ22_] at hP hD
            have q23_ : z21_.toInt = 0 ∨ z21_.toInt = 1 := q23_
            refine W.widen (k := 0) (n := 0) (Nat.le_of_ble_eq_true rfl) (Nat.le_of_ble_eq_true rfl) ?_
            refine lv_if_eq (tgt := 84) hx hb dX4_stepKind_79 rfl (fun c24_ => ?_) (fun c24_ => ?_)
            · have tc24_ := (show z21_.toInt = 0 from ti_eq rfl rg_11 c24_)
              refine lv_aload_n hx hb dX4_stepKind_84 rfl (lv_at hl 0 rfl) ?_
              refine va_get (D := (dC, dI)) (ci := 4) (v := .ref (kA κ 1)) (C := RX4) (T := TX4) (N := 4) hx hb hts hin4 hown hK hP 0 rfl rfl 0 (Nat.le_of_ble_eq_true rfl) (ho (.fieldLink RX4 30 "NearEnough$Reader" "scanner" "LNearEnough$Scanner;") (List.mem_of_getElem? (i := 0) rfl)) (fun _ h9 => h9) rfl dX4_stepKind_85 ?_
              refine va_ldcS (tx := "at ") (q := adK 16) hx hb hown (hR (189, "at ", 16) (List.mem_of_getElem? (i := 16) rfl)) dX4_stepKind_88 ?_
              refine zy_i (va_runV (As := [.ref (adK 16)]) (rest := []) ⟨hx, hb, hml, hown, hts⟩ (r_isOneOf l dC dI adK adV κ H.size σ 16 (by decide) hk hI ) (cwV 1 hts gd_r_stepKind_46_r_isOneOf rfl rfl rfl dd_r_isOneOf ⟨Nat.le_of_ble_eq_true rfl, Nat.le_of_ble_eq_true rfl⟩) (preVr hP hK hD hE hZ hR hS hA (ci := 6) (q0 := 1) rfl rfl) rfl rfl hl.1 rfl (lv_room (Nat.le_of_ble_eq_true rfl)) dX4_stepKind_90 ⟨Nat.le_of_ble_eq_true rfl, Nat.le_of_ble_eq_true rfl⟩) hD hS hA (fun z25_ τ26_ H locs hq hP hD hS => ?_)
              obtain ⟨hτ26_, q27_⟩ := hq
              rw [hτ26_] at hP hD
              have q27_ : z25_.toInt = 0 ∨ z25_.toInt = 1 := q27_
              refine W.widen (k := 0) (n := 0) (Nat.le_of_ble_eq_true rfl) (Nat.le_of_ble_eq_true rfl) ?_
              refine lv_if_eq (tgt := 99) hx hb dX4_stepKind_93 rfl (fun c28_ => ?_) (fun c28_ => ?_)
              · have tc28_ := (show z25_.toInt = 0 from ti_eq rfl rg_11 c28_)
                refine lv_aload_n hx hb dX4_stepKind_99 rfl (lv_at hl 0 rfl) ?_
                refine va_get (D := (dC, dI)) (ci := 4) (v := .ref (kA κ 1)) (C := RX4) (T := TX4) (N := 4) hx hb hts hin4 hown hK hP 0 rfl rfl 0 (Nat.le_of_ble_eq_true rfl) (ho (.fieldLink RX4 30 "NearEnough$Reader" "scanner" "LNearEnough$Scanner;") (List.mem_of_getElem? (i := 0) rfl)) (fun _ h9 => h9) rfl dX4_stepKind_100 ?_
                refine va_ldcS (tx := "pick ") (q := adK 17) hx hb hown (hR (191, "pick ", 17) (List.mem_of_getElem? (i := 17) rfl)) dX4_stepKind_103 ?_
                refine zy_i (va_runV (As := [.ref (adK 17)]) (rest := []) ⟨hx, hb, hml, hown, hts⟩ (r_isOneOf l dC dI adK adV κ H.size σ 17 (by decide) hk hI ) (cwV 1 hts gd_r_stepKind_46_r_isOneOf rfl rfl rfl dd_r_isOneOf ⟨Nat.le_of_ble_eq_true rfl, Nat.le_of_ble_eq_true rfl⟩) (preVr hP hK hD hE hZ hR hS hA (ci := 6) (q0 := 1) rfl rfl) rfl rfl hl.1 rfl (lv_room (Nat.le_of_ble_eq_true rfl)) dX4_stepKind_105 ⟨Nat.le_of_ble_eq_true rfl, Nat.le_of_ble_eq_true rfl⟩) hD hS hA (fun z29_ τ30_ H locs hq hP hD hS => ?_)
                obtain ⟨hτ30_, q31_⟩ := hq
                rw [hτ30_] at hP hD
                have q31_ : z29_.toInt = 0 ∨ z29_.toInt = 1 := q31_
                refine W.widen (k := 0) (n := 0) (Nat.le_of_ble_eq_true rfl) (Nat.le_of_ble_eq_true rfl) ?_
                refine lv_if_eq (tgt := 116) hx hb dX4_stepKind_108 rfl (fun c32_ => ?_) (fun c32_ => ?_)
                · have tc32_ := (show z29_.toInt = 0 from ti_eq rfl rg_11 c32_)
                  refine lv_iconst (v := (-1)) hx hb dX4_stepKind_116 rg_53 ?_
                  have kk33_ : ((-1) : Int32).toInt = (-1) := rg_489
                  have o1 : (-1) ≤ (-1 : Int32).toInt := by omega
                  have o2 : (-1 : Int32).toInt ≤ 7 := by omega
                  rw [hQ]
                  exact W.iret (v := (-1)) hx hb hr (fun t ht hW => ⟨⟨(-1), σ, rfl, ⟨rfl, ⟨o1, o2⟩⟩, wEn_of hP (hK.sub [] rfl) hD ht hW⟩, hS.F ht⟩) hS.2.2 dX4_stepKind_117
                · have tc32_ := (show z29_.toInt ≠ 0 from ti_ne rfl rg_11 c32_)
                  refine lv_bipush (v := 7) hx hb dX4_stepKind_111 rg_54 ?_
                  refine lv_goto (tgt := 117) hx hb dX4_stepKind_113 rfl ?_
                  have kk34_ : (7 : Int32).toInt = 7 := rg_77
                  have o3 : (-1) ≤ (7 : Int32).toInt := by omega
                  have o4 : (7 : Int32).toInt ≤ 7 := by omega
                  rw [hQ]
                  exact W.iret (v := 7) hx hb hr (fun t ht hW => ⟨⟨7, σ, rfl, ⟨rfl, ⟨o3, o4⟩⟩, wEn_of hP (hK.sub [] rfl) hD ht hW⟩, hS.F ht⟩) hS.2.2 dX4_stepKind_117
              · have tc28_ := (show z25_.toInt ≠ 0 from ti_ne rfl rg_11 c28_)
                refine lv_bipush (v := 6) hx hb dX4_stepKind_96 rg_55 ?_
                have kk35_ : (6 : Int32).toInt = 6 := rg_70
                have o5 : (-1) ≤ (6 : Int32).toInt := by omega
                have o6 : (6 : Int32).toInt ≤ 7 := by omega
                rw [hQ]
                exact W.iret (v := 6) hx hb hr (fun t ht hW => ⟨⟨6, σ, rfl, ⟨rfl, ⟨o5, o6⟩⟩, wEn_of hP (hK.sub [] rfl) hD ht hW⟩, hS.F ht⟩) hS.2.2 dX4_stepKind_98
            · have tc24_ := (show z21_.toInt ≠ 0 from ti_ne rfl rg_11 c24_)
              refine lv_iconst (v := 5) hx hb dX4_stepKind_82 rg_14 ?_
              have kk36_ : (5 : Int32).toInt = 5 := rg_15
              have o7 : (-1) ≤ (5 : Int32).toInt := by omega
              have o8 : (5 : Int32).toInt ≤ 7 := by omega
              rw [hQ]
              exact W.iret (v := 5) hx hb hr (fun t ht hW => ⟨⟨5, σ, rfl, ⟨rfl, ⟨o7, o8⟩⟩, wEn_of hP (hK.sub [] rfl) hD ht hW⟩, hS.F ht⟩) hS.2.2 dX4_stepKind_83
          · have tc20_ := (show z17_.toInt ≠ 0 from ti_ne rfl rg_11 c20_)
            refine lv_iconst (v := 4) hx hb dX4_stepKind_68 rg_31 ?_
            have kk37_ : (4 : Int32).toInt = 4 := rg_32
            have o9 : (-1) ≤ (4 : Int32).toInt := by omega
            have o10 : (4 : Int32).toInt ≤ 7 := by omega
            rw [hQ]
            exact W.iret (v := 4) hx hb hr (fun t ht hW => ⟨⟨4, σ, rfl, ⟨rfl, ⟨o9, o10⟩⟩, wEn_of hP (hK.sub [] rfl) hD ht hW⟩, hS.F ht⟩) hS.2.2 dX4_stepKind_69
        · have tc16_ := (show z13_.toInt ≠ 0 from ti_ne rfl rg_11 c16_)
          refine lv_iconst (v := 3) hx hb dX4_stepKind_54 rg_16 ?_
          have kk38_ : (3 : Int32).toInt = 3 := rg_17
          have o11 : (-1) ≤ (3 : Int32).toInt := by omega
          have o12 : (3 : Int32).toInt ≤ 7 := by omega
          rw [hQ]
          exact W.iret (v := 3) hx hb hr (fun t ht hW => ⟨⟨3, σ, rfl, ⟨rfl, ⟨o11, o12⟩⟩, wEn_of hP (hK.sub [] rfl) hD ht hW⟩, hS.F ht⟩) hS.2.2 dX4_stepKind_55
      · have tc12_ := (show z9_.toInt ≠ 0 from ti_ne rfl rg_11 c12_)
        refine lv_iconst (v := 2) hx hb dX4_stepKind_40 rg_19 ?_
        have kk39_ : (2 : Int32).toInt = 2 := rg_20
        have o13 : (-1) ≤ (2 : Int32).toInt := by omega
        have o14 : (2 : Int32).toInt ≤ 7 := by omega
        rw [hQ]
        exact W.iret (v := 2) hx hb hr (fun t ht hW => ⟨⟨2, σ, rfl, ⟨rfl, ⟨o13, o14⟩⟩, wEn_of hP (hK.sub [] rfl) hD ht hW⟩, hS.F ht⟩) hS.2.2 dX4_stepKind_41
    · have tc8_ := (show z5_.toInt ≠ 0 from ti_ne rfl rg_11 c8_)
      refine lv_iconst (v := 1) hx hb dX4_stepKind_26 rg_6 ?_
      have kk40_ : (1 : Int32).toInt = 1 := rg_18
      have o15 : (-1) ≤ (1 : Int32).toInt := by omega
      have o16 : (1 : Int32).toInt ≤ 7 := by omega
      rw [hQ]
      exact W.iret (v := 1) hx hb hr (fun t ht hW => ⟨⟨1, σ, rfl, ⟨rfl, ⟨o15, o16⟩⟩, wEn_of hP (hK.sub [] rfl) hD ht hW⟩, hS.F ht⟩) hS.2.2 dX4_stepKind_27
  · have tc4_ := (show z1_.toInt ≠ 0 from ti_ne rfl rg_11 c4_)
    refine lv_iconst (v := 0) hx hb dX4_stepKind_12 rg_0 ?_
    have kk41_ : (0 : Int32).toInt = 0 := rg_11
    have o17 : (-1) ≤ (0 : Int32).toInt := by omega
    have o18 : (0 : Int32).toInt ≤ 7 := by omega
    rw [hQ]
    exact W.iret (v := 0) hx hb hr (fun t ht hW => ⟨⟨0, σ, rfl, ⟨rfl, ⟨o17, o18⟩⟩, wEn_of hP (hK.sub [] rfl) hD ht hW⟩, hS.F ht⟩) hS.2.2 dX4_stepKind_13
