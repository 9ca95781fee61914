theorem dX11_errorOn_0 : decode cX11_errorOn 0 = .ok (.aload_n 0, 1) := by decide +kernel
theorem dX11_errorOn_1 : decode cX11_errorOn 1 = .ok (.getfield 26, 3) := by decide +kernel
theorem dX11_errorOn_4 : decode cX11_errorOn 4 = .ok (.getfield 230, 3) := by decide +kernel
theorem dX11_errorOn_7 : decode cX11_errorOn 7 = .ok (.iload_n 1, 1) := by decide +kernel
theorem dX11_errorOn_8 : decode cX11_errorOn 8 = .ok (.iaload, 1) := by decide +kernel
theorem dX11_errorOn_9 : decode cX11_errorOn 9 = .ok (.istore_n 3, 1) := by decide +kernel
theorem dX11_errorOn_10 : decode cX11_errorOn 10 = .ok (.aload_n 0, 1) := by decide +kernel
theorem dX11_errorOn_11 : decode cX11_errorOn 11 = .ok (.getfield 58, 3) := by decide +kernel
theorem dX11_errorOn_14 : decode cX11_errorOn 14 = .ok (.iload_n 2, 1) := by decide +kernel
theorem dX11_errorOn_15 : decode cX11_errorOn 15 = .ok (.iconst 0, 1) := by decide +kernel
theorem dX11_errorOn_16 : decode cX11_errorOn 16 = .ok (.iload_n 3, 1) := by decide +kernel
theorem dX11_errorOn_17 : decode cX11_errorOn 17 = .ok (.invokevirtual 214, 3) := by decide +kernel
theorem dX11_errorOn_20 : decode cX11_errorOn 20 = .ok (.aload_n 0, 1) := by decide +kernel
theorem dX11_errorOn_21 : decode cX11_errorOn 21 = .ok (.getfield 58, 3) := by decide +kernel
theorem dX11_errorOn_24 : decode cX11_errorOn 24 = .ok (.iload_n 2, 1) := by decide +kernel
theorem dX11_errorOn_25 : decode cX11_errorOn 25 = .ok (.iload_n 3, 1) := by decide +kernel
theorem dX11_errorOn_26 : decode cX11_errorOn 26 = .ok (.invokevirtual 237, 3) := by decide +kernel
theorem dX11_errorOn_29 : decode cX11_errorOn 29 = .ok (.lreturn, 1) := by decide +kernel
theorem dX11_greatestWrong_0 : decode cX11_greatestWrong 0 = .ok (.lconst 0, 1) := by decide +kernel
theorem dX11_greatestWrong_1 : decode cX11_greatestWrong 1 = .ok (.lstore_n 2, 1) := by decide +kernel
theorem dX11_greatestWrong_2 : decode cX11_greatestWrong 2 = .ok (.iconst 0, 1) := by decide +kernel
theorem dX11_greatestWrong_3 : decode cX11_greatestWrong 3 = .ok (.istore 4, 2) := by decide +kernel
theorem dX11_greatestWrong_5 : decode cX11_greatestWrong 5 = .ok (.iload 4, 2) := by decide +kernel
theorem dX11_greatestWrong_7 : decode cX11_greatestWrong 7 = .ok (.aload_n 0, 1) := by decide +kernel
theorem dX11_greatestWrong_8 : decode cX11_greatestWrong 8 = .ok (.getfield 33, 3) := by decide +kernel
theorem dX11_greatestWrong_11 : decode cX11_greatestWrong 11 = .ok (.getfield 111, 3) := by decide +kernel
theorem dX11_greatestWrong_14 : decode cX11_greatestWrong 14 = .ok (.if_icmp .ge 37, 3) := by decide +kernel
theorem dX11_greatestWrong_51 : decode cX11_greatestWrong 51 = .ok (.lload_n 2, 1) := by decide +kernel
theorem dX11_greatestWrong_52 : decode cX11_greatestWrong 52 = .ok (.lreturn, 1) := by decide +kernel
theorem dX11_greatestWrong_17 : decode cX11_greatestWrong 17 = .ok (.aload_n 0, 1) := by decide +kernel
theorem dX11_greatestWrong_18 : decode cX11_greatestWrong 18 = .ok (.getfield 33, 3) := by decide +kernel
theorem dX11_greatestWrong_21 : decode cX11_greatestWrong 21 = .ok (.getfield 151, 3) := by decide +kernel
theorem dX11_greatestWrong_24 : decode cX11_greatestWrong 24 = .ok (.iload 4, 2) := by decide +kernel
theorem dX11_greatestWrong_26 : decode cX11_greatestWrong 26 = .ok (.baload, 1) := by decide +kernel
theorem dX11_greatestWrong_27 : decode cX11_greatestWrong 27 = .ok (.ifCond .ne 18, 3) := by decide +kernel
theorem dX11_greatestWrong_45 : decode cX11_greatestWrong 45 = .ok (.iinc 4 1, 3) := by decide +kernel
theorem dX11_greatestWrong_48 : decode cX11_greatestWrong 48 = .ok (.goto (-43), 3) := by decide +kernel
theorem dX11_greatestWrong_30 : decode cX11_greatestWrong 30 = .ok (.lload_n 2, 1) := by decide +kernel
theorem dX11_greatestWrong_31 : decode cX11_greatestWrong 31 = .ok (.aload_n 0, 1) := by decide +kernel
theorem dX11_greatestWrong_32 : decode cX11_greatestWrong 32 = .ok (.iload_n 1, 1) := by decide +kernel
theorem dX11_greatestWrong_33 : decode cX11_greatestWrong 33 = .ok (.iload 4, 2) := by decide +kernel
theorem dX11_greatestWrong_35 : decode cX11_greatestWrong 35 = .ok (.invokevirtual 241, 3) := by decide +kernel
theorem dX11_greatestWrong_38 : decode cX11_greatestWrong 38 = .ok (.invokestatic 244, 3) := by decide +kernel
theorem dX11_greatestWrong_41 : decode cX11_greatestWrong 41 = .ok (.invokestatic 250, 3) := by decide +kernel
theorem dX11_greatestWrong_44 : decode cX11_greatestWrong 44 = .ok (.lstore_n 2, 1) := by decide +kernel
theorem dX11_measured_0 : decode cX11_measured 0 = .ok (.aload_n 0, 1) := by decide +kernel
theorem dX11_measured_1 : decode cX11_measured 1 = .ok (.getfield 26, 3) := by decide +kernel
theorem dX11_measured_4 : decode cX11_measured 4 = .ok (.iload_n 1, 1) := by decide +kernel
theorem dX11_measured_5 : decode cX11_measured 5 = .ok (.invokevirtual 227, 3) := by decide +kernel
theorem dX11_measured_8 : decode cX11_measured 8 = .ok (.ifCond .eq 11, 3) := by decide +kernel
theorem dX11_measured_19 : decode cX11_measured 19 = .ok (.ldc2_w 212, 3) := by decide +kernel
theorem dX11_measured_22 : decode cX11_measured 22 = .ok (.lreturn, 1) := by decide +kernel
theorem dX11_measured_11 : decode cX11_measured 11 = .ok (.aload_n 0, 1) := by decide +kernel
theorem dX11_measured_12 : decode cX11_measured 12 = .ok (.iload_n 2, 1) := by decide +kernel
theorem dX11_measured_13 : decode cX11_measured 13 = .ok (.invokevirtual 209, 3) := by decide +kernel
theorem dX11_measured_16 : decode cX11_measured 16 = .ok (.ifCond .ne 7, 3) := by decide +kernel
theorem dX11_measured_23 : decode cX11_measured 23 = .ok (.aload_n 0, 1) := by decide +kernel
theorem dX11_measured_24 : decode cX11_measured 24 = .ok (.iload_n 1, 1) := by decide +kernel
theorem dX11_measured_25 : decode cX11_measured 25 = .ok (.invokevirtual 254, 3) := by decide +kernel
theorem dX11_measured_28 : decode cX11_measured 28 = .ok (.lreturn, 1) := by decide +kernel
theorem dX11_passed_0 : decode cX11_passed 0 = .ok (.aload_n 0, 1) := by decide +kernel
theorem dX11_passed_1 : decode cX11_passed 1 = .ok (.getfield 26, 3) := by decide +kernel
theorem dX11_passed_4 : decode cX11_passed 4 = .ok (.iload_n 1, 1) := by decide +kernel
theorem dX11_passed_5 : decode cX11_passed 5 = .ok (.invokevirtual 227, 3) := by decide +kernel
theorem dX11_passed_8 : decode cX11_passed 8 = .ok (.ifCond .eq 11, 3) := by decide +kernel
theorem dX11_passed_19 : decode cX11_passed 19 = .ok (.iconst (-1), 1) := by decide +kernel
theorem dX11_passed_20 : decode cX11_passed 20 = .ok (.ireturn, 1) := by decide +kernel
theorem dX11_passed_11 : decode cX11_passed 11 = .ok (.aload_n 0, 1) := by decide +kernel
theorem dX11_passed_12 : decode cX11_passed 12 = .ok (.iload_n 2, 1) := by decide +kernel
theorem dX11_passed_13 : decode cX11_passed 13 = .ok (.invokevirtual 209, 3) := by decide +kernel
theorem dX11_passed_16 : decode cX11_passed 16 = .ok (.ifCond .ne 5, 3) := by decide +kernel
theorem dX11_passed_21 : decode cX11_passed 21 = .ok (.aload_n 0, 1) := by decide +kernel
theorem dX11_passed_22 : decode cX11_passed 22 = .ok (.iload_n 1, 1) := by decide +kernel
theorem dX11_passed_23 : decode cX11_passed 23 = .ok (.invokevirtual 254, 3) := by decide +kernel
theorem dX11_passed_26 : decode cX11_passed 26 = .ok (.lstore_n 3, 1) := by decide +kernel
theorem dX11_passed_27 : decode cX11_passed 27 = .ok (.iconst 0, 1) := by decide +kernel
theorem dX11_passed_28 : decode cX11_passed 28 = .ok (.istore 5, 2) := by decide +kernel
theorem dX11_passed_30 : decode cX11_passed 30 = .ok (.iconst 0, 1) := by decide +kernel
theorem dX11_passed_31 : decode cX11_passed 31 = .ok (.istore 6, 2) := by decide +kernel
theorem dX11_passed_33 : decode cX11_passed 33 = .ok (.iload 6, 2) := by decide +kernel
theorem dX11_passed_35 : decode cX11_passed 35 = .ok (.aload_n 0, 1) := by decide +kernel
theorem dX11_passed_36 : decode cX11_passed 36 = .ok (.getfield 33, 3) := by decide +kernel
theorem dX11_passed_39 : decode cX11_passed 39 = .ok (.getfield 111, 3) := by decide +kernel
theorem dX11_passed_42 : decode cX11_passed 42 = .ok (.if_icmp .ge 40, 3) := by decide +kernel
theorem dX11_passed_82 : decode cX11_passed 82 = .ok (.iload 5, 2) := by decide +kernel
theorem dX11_passed_84 : decode cX11_passed 84 = .ok (.ireturn, 1) := by decide +kernel
theorem dX11_passed_45 : decode cX11_passed 45 = .ok (.aload_n 0, 1) := by decide +kernel
theorem dX11_passed_46 : decode cX11_passed 46 = .ok (.getfield 33, 3) := by decide +kernel
theorem dX11_passed_49 : decode cX11_passed 49 = .ok (.getfield 151, 3) := by decide +kernel
theorem dX11_passed_52 : decode cX11_passed 52 = .ok (.iload 6, 2) := by decide +kernel
theorem dX11_passed_54 : decode cX11_passed 54 = .ok (.baload, 1) := by decide +kernel
theorem dX11_passed_55 : decode cX11_passed 55 = .ok (.ifCond .eq 21, 3) := by decide +kernel
theorem dX11_passed_76 : decode cX11_passed 76 = .ok (.iinc 6 1, 3) := by decide +kernel
theorem dX11_passed_79 : decode cX11_passed 79 = .ok (.goto (-46), 3) := by decide +kernel
theorem dX11_passed_58 : decode cX11_passed 58 = .ok (.aload_n 0, 1) := by decide +kernel
theorem dX11_passed_59 : decode cX11_passed 59 = .ok (.iload_n 1, 1) := by decide +kernel
theorem dX11_passed_60 : decode cX11_passed 60 = .ok (.iload 6, 2) := by decide +kernel
theorem dX11_passed_62 : decode cX11_passed 62 = .ok (.invokevirtual 241, 3) := by decide +kernel
theorem dX11_passed_65 : decode cX11_passed 65 = .ok (.invokestatic 244, 3) := by decide +kernel
theorem dX11_passed_68 : decode cX11_passed 68 = .ok (.lload_n 3, 1) := by decide +kernel
theorem dX11_passed_69 : decode cX11_passed 69 = .ok (.lcmp, 1) := by decide +kernel
theorem dX11_passed_70 : decode cX11_passed 70 = .ok (.ifCond .le 6, 3) := by decide +kernel
theorem dX11_passed_73 : decode cX11_passed 73 = .ok (.iinc 5 1, 3) := by decide +kernel
theorem dX11_mean_0 : decode cX11_mean 0 = .ok (.aload_n 0, 1) := by decide +kernel
theorem dX11_mean_1 : decode cX11_mean 1 = .ok (.getfield 26, 3) := by decide +kernel
theorem dX11_mean_4 : decode cX11_mean 4 = .ok (.iload_n 1, 1) := by decide +kernel
theorem dX11_mean_5 : decode cX11_mean 5 = .ok (.invokevirtual 227, 3) := by decide +kernel
theorem dX11_mean_8 : decode cX11_mean 8 = .ok (.ifCond .eq 30, 3) := by decide +kernel
theorem dX11_mean_38 : decode cX11_mean 38 = .ok (.ldc2_w 212, 3) := by decide +kernel
theorem dX11_mean_41 : decode cX11_mean 41 = .ok (.lreturn, 1) := by decide +kernel
theorem dX11_mean_11 : decode cX11_mean 11 = .ok (.iload_n 3, 1) := by decide +kernel
theorem dX11_mean_12 : decode cX11_mean 12 = .ok (.ifCond .lt 26, 3) := by decide +kernel
theorem dX11_mean_15 : decode cX11_mean 15 = .ok (.iload_n 3, 1) := by decide +kernel
theorem dX11_mean_16 : decode cX11_mean 16 = .ok (.iconst 1, 1) := by decide +kernel
theorem dX11_mean_17 : decode cX11_mean 17 = .ok (.if_icmp .gt 21, 3) := by decide +kernel
theorem dX11_mean_20 : decode cX11_mean 20 = .ok (.aload_n 0, 1) := by decide +kernel
theorem dX11_mean_21 : decode cX11_mean 21 = .ok (.getfield 33, 3) := by decide +kernel
theorem dX11_mean_24 : decode cX11_mean 24 = .ok (.getfield 111, 3) := by decide +kernel
theorem dX11_mean_27 : decode cX11_mean 27 = .ok (.ifCond .eq 11, 3) := by decide +kernel
theorem dX11_mean_30 : decode cX11_mean 30 = .ok (.aload_n 0, 1) := by decide +kernel
theorem dX11_mean_31 : decode cX11_mean 31 = .ok (.iload_n 2, 1) := by decide +kernel
theorem dX11_mean_32 : decode cX11_mean 32 = .ok (.invokevirtual 209, 3) := by decide +kernel
theorem dX11_mean_35 : decode cX11_mean 35 = .ok (.ifCond .ne 7, 3) := by decide +kernel
theorem dX11_mean_42 : decode cX11_mean 42 = .ok (.lconst 0, 1) := by decide +kernel
theorem dX11_mean_43 : decode cX11_mean 43 = .ok (.lstore 4, 2) := by decide +kernel
theorem dX11_mean_45 : decode cX11_mean 45 = .ok (.iconst 0, 1) := by decide +kernel
theorem dX11_mean_46 : decode cX11_mean 46 = .ok (.istore 6, 2) := by decide +kernel
theorem dX11_mean_48 : decode cX11_mean 48 = .ok (.iload 6, 2) := by decide +kernel
theorem dX11_mean_50 : decode cX11_mean 50 = .ok (.aload_n 0, 1) := by decide +kernel
theorem dX11_mean_51 : decode cX11_mean 51 = .ok (.getfield 33, 3) := by decide +kernel
theorem dX11_mean_54 : decode cX11_mean 54 = .ok (.getfield 111, 3) := by decide +kernel
theorem dX11_mean_57 : decode cX11_mean 57 = .ok (.if_icmp .ge 24, 3) := by decide +kernel
theorem dX11_mean_81 : decode cX11_mean 81 = .ok (.lconst 1, 1) := by decide +kernel
theorem dX11_mean_82 : decode cX11_mean 82 = .ok (.lload 4, 2) := by decide +kernel
theorem dX11_mean_84 : decode cX11_mean 84 = .ok (.aload_n 0, 1) := by decide +kernel
theorem dX11_mean_85 : decode cX11_mean 85 = .ok (.getfield 33, 3) := by decide +kernel
theorem dX11_mean_88 : decode cX11_mean 88 = .ok (.getfield 111, 3) := by decide +kernel
theorem dX11_mean_91 : decode cX11_mean 91 = .ok (.i2l, 1) := by decide +kernel
theorem dX11_mean_92 : decode cX11_mean 92 = .ok (.invokestatic 257, 3) := by decide +kernel
theorem dX11_mean_95 : decode cX11_mean 95 = .ok (.invokestatic 250, 3) := by decide +kernel
theorem dX11_mean_98 : decode cX11_mean 98 = .ok (.lstore 6, 2) := by decide +kernel
theorem dX11_mean_100 : decode cX11_mean 100 = .ok (.iload_n 3, 1) := by decide +kernel
theorem dX11_mean_101 : decode cX11_mean 101 = .ok (.ifCond .ne 8, 3) := by decide +kernel
theorem dX11_mean_109 : decode cX11_mean 109 = .ok (.aload_n 0, 1) := by decide +kernel
theorem dX11_mean_110 : decode cX11_mean 110 = .ok (.getfield 33, 3) := by decide +kernel
theorem dX11_mean_113 : decode cX11_mean 113 = .ok (.getfield 111, 3) := by decide +kernel
theorem dX11_mean_116 : decode cX11_mean 116 = .ok (.i2l, 1) := by decide +kernel
theorem dX11_mean_117 : decode cX11_mean 117 = .ok (.lload 6, 2) := by decide +kernel
theorem dX11_mean_119 : decode cX11_mean 119 = .ok (.ldiv, 1) := by decide +kernel
theorem dX11_mean_120 : decode cX11_mean 120 = .ok (.lreturn, 1) := by decide +kernel
theorem dX11_mean_104 : decode cX11_mean 104 = .ok (.lload 4, 2) := by decide +kernel
theorem dX11_mean_106 : decode cX11_mean 106 = .ok (.goto 11, 3) := by decide +kernel
theorem dX11_mean_60 : decode cX11_mean 60 = .ok (.lload 4, 2) := by decide +kernel
theorem dX11_mean_62 : decode cX11_mean 62 = .ok (.aload_n 0, 1) := by decide +kernel
theorem dX11_mean_63 : decode cX11_mean 63 = .ok (.iload_n 1, 1) := by decide +kernel
theorem dX11_mean_64 : decode cX11_mean 64 = .ok (.iload 6, 2) := by decide +kernel
theorem dX11_mean_66 : decode cX11_mean 66 = .ok (.invokevirtual 241, 3) := by decide +kernel
theorem dX11_mean_69 : decode cX11_mean 69 = .ok (.invokestatic 244, 3) := by decide +kernel
theorem dX11_mean_72 : decode cX11_mean 72 = .ok (.ladd, 1) := by decide +kernel
theorem dX11_mean_73 : decode cX11_mean 73 = .ok (.lstore 4, 2) := by decide +kernel
theorem dX11_mean_75 : decode cX11_mean 75 = .ok (.iinc 6 1, 3) := by decide +kernel
theorem dX11_mean_78 : decode cX11_mean 78 = .ok (.goto (-30), 3) := by decide +kernel
theorem dX11_saved_0 : decode cX11_saved 0 = .ok (.aload_n 0, 1) := by decide +kernel
theorem dX11_saved_1 : decode cX11_saved 1 = .ok (.getfield 40, 3) := by decide +kernel
theorem dX11_saved_4 : decode cX11_saved 4 = .ok (.iload_n 1, 1) := by decide +kernel
theorem dX11_saved_5 : decode cX11_saved 5 = .ok (.invokevirtual 202, 3) := by decide +kernel
theorem dX11_saved_8 : decode cX11_saved 8 = .ok (.ifCond .eq 14, 3) := by decide +kernel
theorem dX11_saved_22 : decode cX11_saved 22 = .ok (.iconst (-1), 1) := by decide +kernel
theorem dX11_saved_23 : decode cX11_saved 23 = .ok (.ireturn, 1) := by decide +kernel
theorem dX11_saved_11 : decode cX11_saved 11 = .ok (.aload_n 0, 1) := by decide +kernel
theorem dX11_saved_12 : decode cX11_saved 12 = .ok (.getfield 40, 3) := by decide +kernel
theorem dX11_saved_15 : decode cX11_saved 15 = .ok (.iload_n 1, 1) := by decide +kernel
theorem dX11_saved_16 : decode cX11_saved 16 = .ok (.invokevirtual 260, 3) := by decide +kernel
theorem dX11_saved_19 : decode cX11_saved 19 = .ok (.goto 4, 3) := by decide +kernel
theorem dX11_ticksOf_0 : decode cX11_ticksOf 0 = .ok (.aload_n 0, 1) := by decide +kernel
theorem dX11_ticksOf_1 : decode cX11_ticksOf 1 = .ok (.getfield 26, 3) := by decide +kernel
theorem dX11_ticksOf_4 : decode cX11_ticksOf 4 = .ok (.getfield 138, 3) := by decide +kernel
theorem dX11_ticksOf_7 : decode cX11_ticksOf 7 = .ok (.iload_n 1, 1) := by decide +kernel
theorem dX11_ticksOf_8 : decode cX11_ticksOf 8 = .ok (.aaload, 1) := by decide +kernel
theorem dX11_ticksOf_9 : decode cX11_ticksOf 9 = .ok (.astore_n 2, 1) := by decide +kernel
theorem dX11_ticksOf_10 : decode cX11_ticksOf 10 = .ok (.aload_n 0, 1) := by decide +kernel
theorem dX11_ticksOf_11 : decode cX11_ticksOf 11 = .ok (.getfield 40, 3) := by decide +kernel
theorem dX11_ticksOf_14 : decode cX11_ticksOf 14 = .ok (.iload_n 1, 1) := by decide +kernel
theorem dX11_ticksOf_15 : decode cX11_ticksOf 15 = .ok (.invokevirtual 266, 3) := by decide +kernel
theorem dX11_ticksOf_18 : decode cX11_ticksOf 18 = .ok (.iconst 4, 1) := by decide +kernel
theorem dX11_ticksOf_19 : decode cX11_ticksOf 19 = .ok (.if_icmp .ne 5, 3) := by decide +kernel
theorem dX11_ticksOf_24 : decode cX11_ticksOf 24 = .ok (.aload_n 2, 1) := by decide +kernel
theorem dX11_ticksOf_25 : decode cX11_ticksOf 25 = .ok (.getfield 269, 3) := by decide +kernel
theorem dX11_ticksOf_28 : decode cX11_ticksOf 28 = .ok (.ifnull 12, 3) := by decide +kernel
theorem dX11_ticksOf_40 : decode cX11_ticksOf 40 = .ok (.iconst 1, 1) := by decide +kernel
theorem dX11_ticksOf_41 : decode cX11_ticksOf 41 = .ok (.ireturn, 1) := by decide +kernel
theorem dX11_ticksOf_31 : decode cX11_ticksOf 31 = .ok (.aload_n 2, 1) := by decide +kernel
theorem dX11_ticksOf_32 : decode cX11_ticksOf 32 = .ok (.getfield 191, 3) := by decide +kernel
theorem dX11_ticksOf_35 : decode cX11_ticksOf 35 = .ok (.bipush 6, 2) := by decide +kernel
theorem dX11_ticksOf_37 : decode cX11_ticksOf 37 = .ok (.if_icmp .ne 5, 3) := by decide +kernel
theorem dX11_ticksOf_42 : decode cX11_ticksOf 42 = .ok (.aload_n 0, 1) := by decide +kernel
theorem dX11_ticksOf_43 : decode cX11_ticksOf 43 = .ok (.getfield 40, 3) := by decide +kernel
theorem dX11_ticksOf_46 : decode cX11_ticksOf 46 = .ok (.iload_n 1, 1) := by decide +kernel
theorem dX11_ticksOf_47 : decode cX11_ticksOf 47 = .ok (.aload_n 2, 1) := by decide +kernel
theorem dX11_ticksOf_48 : decode cX11_ticksOf 48 = .ok (.getfield 269, 3) := by decide +kernel
theorem dX11_ticksOf_51 : decode cX11_ticksOf 51 = .ok (.getfield 177, 3) := by decide +kernel
theorem dX11_ticksOf_54 : decode cX11_ticksOf 54 = .ok (.invokevirtual 273, 3) := by decide +kernel
theorem dX11_ticksOf_57 : decode cX11_ticksOf 57 = .ok (.ireturn, 1) := by decide +kernel
theorem dX11_ticksOf_22 : decode cX11_ticksOf 22 = .ok (.iconst 0, 1) := by decide +kernel
theorem dX11_ticksOf_23 : decode cX11_ticksOf 23 = .ok (.ireturn, 1) := by decide +kernel
theorem dX11_ticks_0 : decode cX11_ticks 0 = .ok (.aload_n 0, 1) := by decide +kernel
theorem dX11_ticks_1 : decode cX11_ticks 1 = .ok (.getfield 40, 3) := by decide +kernel
theorem dX11_ticks_4 : decode cX11_ticks 4 = .ok (.iload_n 1, 1) := by decide +kernel
theorem dX11_ticks_5 : decode cX11_ticks 5 = .ok (.invokevirtual 202, 3) := by decide +kernel
theorem dX11_ticks_8 : decode cX11_ticks 8 = .ok (.ifCond .ne 5, 3) := by decide +kernel
theorem dX11_ticks_13 : decode cX11_ticks 13 = .ok (.iconst 0, 1) := by decide +kernel
theorem dX11_ticks_14 : decode cX11_ticks 14 = .ok (.istore_n 2, 1) := by decide +kernel
theorem dX11_ticks_15 : decode cX11_ticks 15 = .ok (.iconst 0, 1) := by decide +kernel
theorem dX11_ticks_16 : decode cX11_ticks 16 = .ok (.istore_n 3, 1) := by decide +kernel
theorem dX11_ticks_17 : decode cX11_ticks 17 = .ok (.iload_n 3, 1) := by decide +kernel
theorem dX11_ticks_18 : decode cX11_ticks 18 = .ok (.aload_n 0, 1) := by decide +kernel
theorem dX11_ticks_19 : decode cX11_ticks 19 = .ok (.getfield 26, 3) := by decide +kernel
theorem dX11_ticks_22 : decode cX11_ticks 22 = .ok (.getfield 123, 3) := by decide +kernel
theorem dX11_ticks_25 : decode cX11_ticks 25 = .ok (.if_icmp .ge 17, 3) := by decide +kernel
theorem dX11_ticks_42 : decode cX11_ticks 42 = .ok (.iload_n 2, 1) := by decide +kernel
theorem dX11_ticks_43 : decode cX11_ticks 43 = .ok (.ireturn, 1) := by decide +kernel
theorem dX11_ticks_28 : decode cX11_ticks 28 = .ok (.iload_n 2, 1) := by decide +kernel
theorem dX11_ticks_29 : decode cX11_ticks 29 = .ok (.aload_n 0, 1) := by decide +kernel
theorem dX11_ticks_30 : decode cX11_ticks 30 = .ok (.iload_n 3, 1) := by decide +kernel
theorem dX11_ticks_31 : decode cX11_ticks 31 = .ok (.invokevirtual 263, 3) := by decide +kernel
theorem dX11_ticks_34 : decode cX11_ticks 34 = .ok (.iadd, 1) := by decide +kernel
theorem dX11_ticks_35 : decode cX11_ticks 35 = .ok (.istore_n 2, 1) := by decide +kernel
theorem dX11_ticks_36 : decode cX11_ticks 36 = .ok (.iinc 3 1, 3) := by decide +kernel
theorem dX11_ticks_39 : decode cX11_ticks 39 = .ok (.goto (-22), 3) := by decide +kernel
theorem dX11_ticks_11 : decode cX11_ticks 11 = .ok (.iconst (-1), 1) := by decide +kernel
theorem dX11_ticks_12 : decode cX11_ticks 12 = .ok (.ireturn, 1) := by decide +kernel

def ow_k_errorOn : List Cond := [.fieldLink RX11 26 "NearEnough" "told" "LNearEnough$Program;", .fieldLink RX11 230 "NearEnough$Program" "endStep" "[I", .fieldLink RX11 58 "NearEnough" "worker" "LNearEnough$Worker;"]
def vs_k_errorOn : List Cond := .code yX11_errorOn cX11_errorOn 4 (some .long) :: (ow_k_errorOn ++ (([.methodLink RX11 214 yX10_workChanged, .instanceMethod yX10_workChanged, .selects RX10 yX10_workChanged yX10_workChanged, .initialized RX10] : List Cond) ++ (vs_k_workChanged ++ (([.methodLink RX11 237 yX10_errorAt, .instanceMethod yX10_errorAt, .selects RX10 yX10_errorAt yX10_errorAt, .initialized RX10] : List Cond) ++ (vs_k_errorAt ++ (wsX30 ++ (wsX110)))))))
theorem vg_k_errorOn : vs_k_errorOn.all goodWord = true := by decide +kernel
theorem dd_k_errorOn : yX11_errorOn.cls = RX11 ∧ yX11_errorOn.cls ≠ "java/lang/invoke/MethodHandle" ∧ yX11_errorOn.cls ≠ "java/lang/invoke/VarHandle" ∧ (parseMethodDescriptor yX11_errorOn.desc).map (fun d => d.parameters.length) = some 2 := by decide +kernel
def rm_k_errorOn : Room := { frames := 5, cells := 0, slots := 0, locals := 137 }
theorem gd_k_errorOn_214_k_workChanged : GoodIn vs_k_errorOn (wsV RX11 214 RX10 yX10_workChanged vs_k_workChanged) := goodIn_app (goodIn_sub (fun w h => (List.mem_cons_of_mem _ (List.mem_append_right _ (List.mem_append_left _ h)))) (by decide +kernel)) (goodIn_sub (fun w h => (List.mem_cons_of_mem _ (List.mem_append_right _ (List.mem_append_right _ (List.mem_append_left _ h))))) vg_k_workChanged)
theorem gd_k_errorOn_237_k_errorAt : GoodIn vs_k_errorOn (wsV RX11 237 RX10 yX10_errorAt vs_k_errorAt) := goodIn_app (goodIn_sub (fun w h => (List.mem_cons_of_mem _ (List.mem_append_right _ (List.mem_append_right _ (List.mem_append_right _ (List.mem_append_left _ h)))))) (by decide +kernel)) (goodIn_sub (fun w h => (List.mem_cons_of_mem _ (List.mem_append_right _ (List.mem_append_right _ (List.mem_append_right _ (List.mem_append_right _ (List.mem_append_left _ h))))))) vg_k_errorAt)
set_option maxHeartbeats 4000000 in
set_option maxRecDepth 100000 in
theorem k_errorOn (l : Launch) (dC : Nat → ClassId) (dI : Nat → Nat → Nat) (κ : CE) (sz : Nat) (σ : MS) (x : Int32) (y : Int32) (hk : PInv κ) (hI : CInv σ) (hx0 : 0 ≤ x.toInt ∧ x.toInt < (pI κ 2).toInt) (hy0 : 0 ≤ y.toInt ∧ y.toInt ≤ 40) : Met l yX11_errorOn vs_k_errorOn rm_k_errorOn (va_Pc [.ref (kA κ 0), .int x, .int y] (wSy dC dI (cW κ σ) (cT κ) sz)) (va_Ql (fun (r : Int64) (τ : MS) => CInv τ ∧ True) (fun (τ : MS) => wEn dC dI (va_A (cW κ σ) sz) (cW κ τ) []) (va_A (cW κ σ) sz)) 0 0 (va_A (cW κ σ) sz) := by
  refine Met.ofW (cc := cX11_errorOn) (maxL := 4) (ret := (some .long)) (by decide +kernel) rfl ?_
  intro p e s m args below meth c s₁ B hml hv
  obtain ⟨rfl, hsz, hP, hK, hD0, hE⟩ := hv
  have hx := B.exec
  have hb := B.bytes
  have hr := B.returns
  have hts := atoms_spec (ws := vs_k_errorOn) B.pre
  have hown : s.vm.findClass RX11 = some m.cls := findClass_of_methodNamed B.named
  have hlocks := B.notSynchronized
  subst hsz
  have hD := hD0.self (sz := s.heap.size)
  generalize hAe : va_A (cW κ σ) s.heap.size = A at hD ⊢
  have hA : ∀ q : Nat, s.heap.size ≤ q → A q := fun q h => by rw [← hAe]; exact Or.inr h
  have hl := lv_entry ([.ref (kA κ 0), .int x, .int y]) (n := 4) (Nat.le_of_ble_eq_true rfl)
  rw [lg_entry_eq]
  generalize (lg_sl ([.ref (kA κ 0), .int x, .int y]) ++ List.replicate (4 - (lg_sl ([.ref (kA κ 0), .int x, .int y])).length) Slot.unset).toArray = ls at hl ⊢
  have hl : lv_has ls 4 [(0, .ref (kA κ 0)), (1, .int x), (2, .int y)] := hl
  have ho := fun w (h : w ∈ ow_k_errorOn) => hts w (List.mem_cons_of_mem _ (List.mem_append_left _ h))
  have hin3 : ∀ w ∈ u_ws RX3 TX3 8, w ∈ vs_k_errorOn := fun w h => (List.mem_cons_of_mem _ (List.mem_append_right _ (List.mem_append_right _ (List.mem_append_right _ (List.mem_append_right _ (List.mem_append_right _ (List.mem_append_left _ h)))))))
  have hin11 : ∀ w ∈ u_ws RX11 TX11 17, w ∈ vs_k_errorOn := fun w h => (List.mem_cons_of_mem _ (List.mem_append_right _ (List.mem_append_right _ (List.mem_append_right _ (List.mem_append_right _ (List.mem_append_right _ (List.mem_append_right _ h)))))))
  refine zQ (fun Q hQ => ?_)
  refine zH (A := A) (ws := (cW κ σ)) (fun H hP hS => ?_) hP
  have hk0 := hk.1
  have hk1 := hk.2.1
  have hk2 := hk.2.2.1
  refine lv_aload_n hx hb dX11_errorOn_0 rfl (lv_at hl 0 rfl) ?_
  refine va_get (D := (dC, dI)) (ci := 11) (v := .ref (kA κ 6)) (C := RX11) (T := TX11) (N := 17) hx hb hts hin11 hown hK hP 0 rfl rfl 4 (Nat.le_of_ble_eq_true rfl) (ho (.fieldLink RX11 26 "NearEnough" "told" "LNearEnough$Program;") (List.mem_of_getElem? (i := 0) rfl)) (fun _ h9 => h9) rfl dX11_errorOn_1 ?_
  refine va_get (D := (dC, dI)) (ci := 3) (v := .ref (kA κ 9)) (C := RX3) (T := TX3) (N := 8) hx hb hts hin3 hown hK hP 6 rfl rfl 2 (Nat.le_of_ble_eq_true rfl) (ho (.fieldLink RX11 230 "NearEnough$Program" "endStep" "[I") (List.mem_of_getElem? (i := 1) rfl)) (fun _ h9 => h9) rfl dX11_errorOn_4 ?_
  refine lv_iload_n hx hb dX11_errorOn_7 rfl (lv_at hl 1 rfl) ?_
  have o1 : 0 ≤ x.toInt := by omega
  have o2 : x.toInt < ((4 : Nat) : Int) := by omega
  refine va_iald hx hb hK hP 9 7 rfl rfl (ti_inx o1 o2) dX11_errorOn_8 ?_
  refine lv_topi (fun z1_ ez1_ => ?_)
  have o3 : x.toInt < (pI κ 2).toInt := by omega
  have bz1_ := hk.en ez1_ o1 o3
  refine lv_istore_n (lv' := [(3, .int z1_), (0, .ref (kA κ 0)), (1, .int x), (2, .int y)]) hx hb dX11_errorOn_9 rfl hl (Nat.le_of_ble_eq_true rfl) rfl (fun ls hl => ?_)
  refine lv_aload_n hx hb dX11_errorOn_10 rfl (lv_at hl 1 rfl) ?_
  refine va_get (D := (dC, dI)) (ci := 11) (v := .ref (kA κ 24)) (C := RX11) (T := TX11) (N := 17) hx hb hts hin11 hown hK hP 0 rfl rfl 8 (Nat.le_of_ble_eq_true rfl) (ho (.fieldLink RX11 58 "NearEnough" "worker" "LNearEnough$Worker;") (List.mem_of_getElem? (i := 2) rfl)) (fun _ h9 => h9) rfl dX11_errorOn_11 ?_
  refine lv_iload_n hx hb dX11_errorOn_14 rfl (lv_at hl 3 rfl) ?_
  refine lv_iconst (v := 0) hx hb dX11_errorOn_15 rg_0 ?_
  refine lv_iload_n hx hb dX11_errorOn_16 rfl (lv_at hl 0 rfl) ?_
  have kk2_ : (0 : Int32).toInt = 0 := rg_11
  have o4 : 0 ≤ y.toInt := by omega
  have o5 : y.toInt ≤ 40 := by omega
  have o6 : 0 ≤ (0 : Int32).toInt := by omega
  have o7 : (0 : Int32).toInt ≤ 12 := by omega
  have o8 : -1 ≤ z1_.toInt := by omega
  have o9 : z1_.toInt < (pI κ 1).toInt := by omega
  refine zy_v (va_runV (As := [.int y, .int 0, .int z1_]) (rest := []) ⟨hx, hb, hml, hown, hts⟩ (k_workChanged l dC dI κ H.size σ y 0 z1_ hk hI ⟨o4, o5⟩ ⟨o6, o7⟩ ⟨o8, o9⟩) (cwV 3 hts gd_k_errorOn_214_k_workChanged rfl rfl rfl dd_k_workChanged ⟨Nat.le_of_ble_eq_true rfl, Nat.le_of_ble_eq_true rfl⟩) (preVy hP hK hD hE (ci := 10) (q0 := 24) rfl rfl) rfl rfl hl.1 rfl (lv_room (Nat.le_of_ble_eq_true rfl)) dX11_errorOn_17 ⟨Nat.le_of_ble_eq_true rfl, Nat.le_of_ble_eq_true rfl⟩) hD hS hA (fun τ4_ H locs hq hP hD hS => ?_)
  obtain ⟨hτ4_, q5_⟩ := hq
  refine W.widen (k := 0) (n := 0) (Nat.le_of_ble_eq_true rfl) (Nat.le_of_ble_eq_true rfl) ?_
  refine lv_aload_n hx hb dX11_errorOn_20 rfl (lv_at hl 1 rfl) ?_
  refine va_get (D := (dC, dI)) (ci := 11) (v := .ref (kA κ 24)) (C := RX11) (T := TX11) (N := 17) hx hb hts hin11 hown hK hP 0 rfl rfl 8 (Nat.le_of_ble_eq_true rfl) (ho (.fieldLink RX11 58 "NearEnough" "worker" "LNearEnough$Worker;") (List.mem_of_getElem? (i := 2) rfl)) (fun _ h9 => h9) rfl dX11_errorOn_21 ?_
  refine lv_iload_n hx hb dX11_errorOn_24 rfl (lv_at hl 3 rfl) ?_
  refine lv_iload_n hx hb dX11_errorOn_25 rfl (lv_at hl 0 rfl) ?_
  have o10 : 0 ≤ z1_.toInt := by omega
  have o11 : z1_.toInt ≤ 11 := by omega
  refine zy_l (va_runV (As := [.int y, .int z1_]) (rest := []) ⟨hx, hb, hml, hown, hts⟩ (k_errorAt l dC dI κ H.size τ4_ y z1_ hk hτ4_ ⟨o4, o5⟩ ⟨o10, o11⟩) (cwV 2 hts gd_k_errorOn_237_k_errorAt rfl rfl rfl dd_k_errorAt ⟨Nat.le_of_ble_eq_true rfl, Nat.le_of_ble_eq_true rfl⟩) (preVy hP hK hD hE (ci := 10) (q0 := 24) rfl rfl) rfl rfl hl.1 rfl (lv_room (Nat.le_of_ble_eq_true rfl)) dX11_errorOn_26 ⟨Nat.le_of_ble_eq_true rfl, Nat.le_of_ble_eq_true rfl⟩) hD hS hA (fun y6_ τ7_ H locs hq hP hD hS => ?_)
  obtain ⟨hτ7_, q8_⟩ := hq
  rw [hτ7_] at hP hD
  refine W.widen (k := 0) (n := 0) (Nat.le_of_ble_eq_true rfl) (Nat.le_of_ble_eq_true rfl) ?_
  rw [hQ]
  exact W.lret (v := y6_) hx hb hr (fun t ht hW => ⟨⟨y6_, τ4_, rfl, ⟨hτ4_, trivial⟩, wEn_of hP (hK.sub [] rfl) hD ht hW⟩, hS.F ht⟩) hS.2.2 dX11_errorOn_29
def ow_k_greatestWrong : List Cond := [.fieldLink RX11 33 "NearEnough" "sheets" "LNearEnough$Sheets;", .fieldLink RX11 111 "NearEnough$Sheets" "count" "I", .fieldLink RX11 151 "NearEnough$Sheets" "kept" "[Z", .methodLink RX11 244 Lib.MathLoose.abs_long.x, .static Lib.MathLoose.abs_long.x, .initialized "java/lang/Math", .code Lib.MathLoose.abs_long.x Lib.MathLoose.abs_long.code 2 (some .long), .methodLink RX11 250 Lib.MathLoose.max_long.x, .static Lib.MathLoose.max_long.x, .code Lib.MathLoose.max_long.x Lib.MathLoose.max_long.code 4 (some .long)]
def vs_k_greatestWrong : List Cond := .code yX11_greatestWrong cX11_greatestWrong 5 (some .long) :: (ow_k_greatestWrong ++ (([.methodLink RX11 241 yX11_errorOn, .instanceMethod yX11_errorOn, .selects RX11 yX11_errorOn yX11_errorOn, .initialized RX11] : List Cond) ++ (vs_k_errorOn ++ (wsX70 ++ (wsX110)))))
theorem vg_k_greatestWrong : vs_k_greatestWrong.all goodWord = true := by decide +kernel
theorem dd_k_greatestWrong : yX11_greatestWrong.cls = RX11 ∧ yX11_greatestWrong.cls ≠ "java/lang/invoke/MethodHandle" ∧ yX11_greatestWrong.cls ≠ "java/lang/invoke/VarHandle" ∧ (parseMethodDescriptor yX11_greatestWrong.desc).map (fun d => d.parameters.length) = some 1 := by decide +kernel
def rm_k_greatestWrong : Room := { frames := 6, cells := 0, slots := 0, locals := 160 }
theorem gd_k_greatestWrong_241_k_errorOn : GoodIn vs_k_greatestWrong (wsV RX11 241 RX11 yX11_errorOn vs_k_errorOn) := goodIn_app (goodIn_sub (fun w h => (List.mem_cons_of_mem _ (List.mem_append_right _ (List.mem_append_left _ h)))) (by decide +kernel)) (goodIn_sub (fun w h => (List.mem_cons_of_mem _ (List.mem_append_right _ (List.mem_append_right _ (List.mem_append_left _ h))))) vg_k_errorOn)
set_option maxHeartbeats 4000000 in
set_option maxRecDepth 100000 in
theorem k_greatestWrong (l : Launch) (dC : Nat → ClassId) (dI : Nat → Nat → Nat) (κ : CE) (sz : Nat) (σ : MS) (x : Int32) (hk : PInv κ) (hI : CInv σ) (hx0 : 0 ≤ x.toInt ∧ x.toInt < (pI κ 2).toInt) : Met l yX11_greatestWrong vs_k_greatestWrong rm_k_greatestWrong (va_Pc [.ref (kA κ 0), .int x] (wSy dC dI (cW κ σ) (cT κ) sz)) (va_Ql (fun (r : Int64) (τ : MS) => CInv τ ∧ True) (fun (τ : MS) => wEn dC dI (va_A (cW κ σ) sz) (cW κ τ) []) (va_A (cW κ σ) sz)) 0 0 (va_A (cW κ σ) sz) := by
  refine Met.ofW (cc := cX11_greatestWrong) (maxL := 5) (ret := (some .long)) (by decide +kernel) rfl ?_
  intro p e s m args below meth c s₁ B hml hv
  obtain ⟨rfl, hsz, hP, hK, hD0, hE⟩ := hv
  have hx := B.exec
  have hb := B.bytes
  have hr := B.returns
  have hts := atoms_spec (ws := vs_k_greatestWrong) B.pre
  have hown : s.vm.findClass RX11 = some m.cls := findClass_of_methodNamed B.named
  have hlocks := B.notSynchronized
  subst hsz
  have hD := hD0.self (sz := s.heap.size)
  generalize hAe : va_A (cW κ σ) s.heap.size = A at hD ⊢
  have hA : ∀ q : Nat, s.heap.size ≤ q → A q := fun q h => by rw [← hAe]; exact Or.inr h
  have hl := lv_entry ([.ref (kA κ 0), .int x]) (n := 5) (Nat.le_of_ble_eq_true rfl)
  rw [lg_entry_eq]
  generalize (lg_sl ([.ref (kA κ 0), .int x]) ++ List.replicate (5 - (lg_sl ([.ref (kA κ 0), .int x])).length) Slot.unset).toArray = ls at hl ⊢
  have hl : lv_has ls 5 [(0, .ref (kA κ 0)), (1, .int x)] := hl
  have ho := fun w (h : w ∈ ow_k_greatestWrong) => hts w (List.mem_cons_of_mem _ (List.mem_append_left _ h))
  have hin7 : ∀ w ∈ u_ws RX7 TX7 3, w ∈ vs_k_greatestWrong := fun w h => (List.mem_cons_of_mem _ (List.mem_append_right _ (List.mem_append_right _ (List.mem_append_right _ (List.mem_append_left _ h)))))
  have hin11 : ∀ w ∈ u_ws RX11 TX11 17, w ∈ vs_k_greatestWrong := fun w h => (List.mem_cons_of_mem _ (List.mem_append_right _ (List.mem_append_right _ (List.mem_append_right _ (List.mem_append_right _ h)))))
  refine zQ (fun Q hQ => ?_)
  refine zH (A := A) (ws := (cW κ σ)) (fun H hP hS => ?_) hP
  have hk0 := hk.1
  have hk1 := hk.2.1
  have hk2 := hk.2.2.1
  refine lv_lconst (v := 0) hx hb dX11_greatestWrong_0 (by decide) ?_
  refine lv_lstore_n (lv' := [(2, .long 0), (0, .ref (kA κ 0)), (1, .int x)]) hx hb dX11_greatestWrong_1 rfl hl (Nat.le_of_ble_eq_true rfl) rfl (fun ls hl => ?_)
  refine lv_iconst (v := 0) hx hb dX11_greatestWrong_2 rg_0 ?_
  refine lv_istore (lv' := [(4, .int 0), (2, .long 0), (0, .ref (kA κ 0)), (1, .int x)]) hx hb dX11_greatestWrong_3 hl (Nat.le_of_ble_eq_true rfl) rfl (fun ls hl => ?_)
  have pt5_ : ∀ (n5_ : Nat) (σ5_ : MS) (v2_ : Int64) (v4_ : Int32) (H : Heap) (locs : List Loc) (ls : Array Slot), (40 - v4_.toInt).toNat < n5_ → CInv σ5_ → (0 ≤ v4_.toInt) → va_P (dC, dI) vwCl (cW κ σ5_) H → va_D A (cW κ σ5_) → va_S A s.heap H locs → lv_has ls 5 [(2, .long v2_), (4, .int v4_), (0, .ref (kA κ 0)), (1, .int x)] → W p l e (headSpec vs_k_greatestWrong rm_k_greatestWrong).room s m #[Value.ref (kA κ 0), Value.int x] below meth c H locs 0 0 Q (F0 m 5 ls []) := by
    intro n5_
    induction n5_ with
    | zero => intro σ5_ v2_ v4_ H locs ls hn5_ hIσ5_ hf5_0_ hP hD hS hl; exact absurd hn5_ (Nat.not_lt_zero _)
    | succ n5_ ih5_ =>
      intro σ5_ v2_ v4_ H locs ls hn5_ hIσ5_ hf5_0_ hP hD hS hl
      refine lv_iload hx hb dX11_greatestWrong_5 (lv_at hl 1 rfl) ?_
      refine lv_aload_n hx hb dX11_greatestWrong_7 rfl (lv_at hl 2 rfl) ?_
      refine va_get (D := (dC, dI)) (ci := 11) (v := .ref (kA κ 12)) (C := RX11) (T := TX11) (N := 17) hx hb hts hin11 hown hK hP 0 rfl rfl 5 (Nat.le_of_ble_eq_true rfl) (ho (.fieldLink RX11 33 "NearEnough" "sheets" "LNearEnough$Sheets;") (List.mem_of_getElem? (i := 0) rfl)) (fun _ h9 => h9) rfl dX11_greatestWrong_8 ?_
      have bσ5__12 : 0 ≤ (σ5_.1 12).toInt ∧ (σ5_.1 12).toInt ≤ 40 := hIσ5_.1 12
      refine va_get (D := (dC, dI)) (ci := 7) (v := .int (σ5_.1 12)) (C := RX7) (T := TX7) (N := 3) hx hb hts hin7 hown hK hP 12 rfl rfl 2 (Nat.le_of_ble_eq_true rfl) (ho (.fieldLink RX11 111 "NearEnough$Sheets" "count" "I") (List.mem_of_getElem? (i := 1) rfl)) (fun _ h9 => h9) rfl dX11_greatestWrong_11 ?_
      refine lv_icmp_ge (tgt := 51) hx hb dX11_greatestWrong_14 rfl (fun c1_ => ?_) (fun c1_ => ?_)
      · have tc1_ := (show (σ5_.1 12).toInt ≤ v4_.toInt from ti_le rfl rfl c1_)
        refine lv_lload_n hx hb dX11_greatestWrong_51 rfl (lv_at hl 0 rfl) ?_
        rw [hQ]
        exact W.lret (v := v2_) hx hb hr (fun t ht hW => ⟨⟨v2_, σ5_, rfl, ⟨hIσ5_, trivial⟩, wEn_of hP (hK.sub [] rfl) hD ht hW⟩, hS.F ht⟩) hS.2.2 dX11_greatestWrong_52
      · have tc1_ := (show v4_.toInt < (σ5_.1 12).toInt from ti_nle rfl rfl c1_)
        refine lv_aload_n hx hb dX11_greatestWrong_17 rfl (lv_at hl 2 rfl) ?_
        refine va_get (D := (dC, dI)) (ci := 11) (v := .ref (kA κ 12)) (C := RX11) (T := TX11) (N := 17) hx hb hts hin11 hown hK hP 0 rfl rfl 5 (Nat.le_of_ble_eq_true rfl) (ho (.fieldLink RX11 33 "NearEnough" "sheets" "LNearEnough$Sheets;") (List.mem_of_getElem? (i := 0) rfl)) (fun _ h9 => h9) rfl dX11_greatestWrong_18 ?_
        refine va_get (D := (dC, dI)) (ci := 7) (v := .ref (kA κ 14)) (C := RX7) (T := TX7) (N := 3) hx hb hts hin7 hown hK hP 12 rfl rfl 1 (Nat.le_of_ble_eq_true rfl) (ho (.fieldLink RX11 151 "NearEnough$Sheets" "kept" "[Z") (List.mem_of_getElem? (i := 2) rfl)) (fun _ h9 => h9) rfl dX11_greatestWrong_21 ?_
        refine lv_iload hx hb dX11_greatestWrong_24 (lv_at hl 1 rfl) ?_
        have o1 : 0 ≤ v4_.toInt := by omega
        have o2 : v4_.toInt < ((40 : Nat) : Int) := by omega
        refine va_zald hx hb hK hP 14 11 rfl rfl (ti_inx o1 o2) dX11_greatestWrong_26 ?_
        refine lv_topi (fun z2_ ez2_ => ?_)
        refine lv_if_ne (tgt := 45) hx hb dX11_greatestWrong_27 rfl (fun c3_ => ?_) (fun c3_ => ?_)
        · have tc3_ := (show z2_.toInt ≠ 0 from ti_ne rfl rg_11 c3_)
          obtain ⟨z4_, ez4_⟩ : ∃ y : Int32, y = v4_ + 1 := ⟨_, rfl⟩
          have o3 : -2147483648 ≤ v4_.toInt + 1 := by omega
          have o4 : v4_.toInt + 1 ≤ 2147483647 := by omega
          have tz4_ := ti_add ez4_ rfl rg_18 o3 o4
          refine lv_iinc (v := z4_) (lv' := [(4, .int z4_), (2, .long v2_), (0, .ref (kA κ 0)), (1, .int x)]) hx hb dX11_greatestWrong_45 hl (k := 1) rfl (iincp ez4_ rg_6) (Nat.le_of_ble_eq_true rfl) rfl (fun ls hl => ?_)
          refine lv_goto (tgt := 5) hx hb dX11_greatestWrong_48 rfl ?_
          have o5 : (40 - z4_.toInt).toNat < n5_ := by omega
          have o6 : 0 ≤ z4_.toInt := by omega
          exact ih5_ σ5_ v2_ z4_ _ _ _ o5 hIσ5_ o6 hP hD hS (lv_sub hl [1, 0, 2, 3] rfl)
        · have tc3_ := (show z2_.toInt = 0 from ti_eq rfl rg_11 c3_)
          refine lv_lload_n hx hb dX11_greatestWrong_30 rfl (lv_at hl 0 rfl) ?_
          refine lv_aload_n hx hb dX11_greatestWrong_31 rfl (lv_at hl 2 rfl) ?_
          refine lv_iload_n hx hb dX11_greatestWrong_32 rfl (lv_at hl 3 rfl) ?_
          refine lv_iload hx hb dX11_greatestWrong_33 (lv_at hl 1 rfl) ?_
          have o7 : 0 ≤ x.toInt := by omega
          have o8 : x.toInt < (pI κ 2).toInt := by omega
          have o9 : v4_.toInt ≤ 40 := by omega
          refine zy_l (va_runV (As := [.int x, .int v4_]) (rest := [.long v2_]) ⟨hx, hb, hml, hown, hts⟩ (k_errorOn l dC dI κ H.size σ5_ x v4_ hk hIσ5_ ⟨o7, o8⟩ ⟨o1, o9⟩) (cwV 2 hts gd_k_greatestWrong_241_k_errorOn rfl rfl rfl dd_k_errorOn ⟨Nat.le_of_ble_eq_true rfl, Nat.le_of_ble_eq_true rfl⟩) (preVy hP hK hD hE (ci := 11) (q0 := 0) rfl rfl) rfl rfl hl.1 rfl (lv_room (Nat.le_of_ble_eq_true rfl)) dX11_greatestWrong_35 ⟨Nat.le_of_ble_eq_true rfl, Nat.le_of_ble_eq_true rfl⟩) hD hS hA (fun y5_ τ6_ H locs hq hP hD hS => ?_)
          obtain ⟨hτ6_, q7_⟩ := hq
          refine W.widen (k := 0) (n := 0) (Nat.le_of_ble_eq_true rfl) (Nat.le_of_ble_eq_true rfl) ?_
          refine va_mabs_long hx hb (hml.trans hl.1.symm) hown (ho (.methodLink RX11 244 Lib.MathLoose.abs_long.x) (List.mem_of_getElem? (i := 3) rfl)) (ho (.static Lib.MathLoose.abs_long.x) (List.mem_of_getElem? (i := 4) rfl)) (ho (.initialized "java/lang/Math") (List.mem_of_getElem? (i := 5) rfl)) (ho (.code Lib.MathLoose.abs_long.x Lib.MathLoose.abs_long.code 2 (some .long)) (List.mem_of_getElem? (i := 6) rfl)) (Nat.le_of_ble_eq_true rfl) (Nat.le_of_ble_eq_true rfl) (Nat.le_of_ble_eq_true rfl) (Nat.le_of_ble_eq_true rfl) dX11_greatestWrong_38 ?_
          refine lv_topl (fun y8_ ey8_ => ?_)
          refine va_mmax_long hx hb (hml.trans hl.1.symm) hown (ho (.methodLink RX11 250 Lib.MathLoose.max_long.x) (List.mem_of_getElem? (i := 7) rfl)) (ho (.static Lib.MathLoose.max_long.x) (List.mem_of_getElem? (i := 8) rfl)) (ho (.initialized "java/lang/Math") (List.mem_of_getElem? (i := 5) rfl)) (ho (.code Lib.MathLoose.max_long.x Lib.MathLoose.max_long.code 4 (some .long)) (List.mem_of_getElem? (i := 9) rfl)) (Nat.le_of_ble_eq_true rfl) (Nat.le_of_ble_eq_true rfl) (Nat.le_of_ble_eq_true rfl) (Nat.le_of_ble_eq_true rfl) dX11_greatestWrong_41 ?_
          refine lv_topl (fun y9_ ey9_ => ?_)
          refine lv_lstore_n (lv' := [(2, .long y9_), (4, .int v4_), (0, .ref (kA κ 0)), (1, .int x)]) hx hb dX11_greatestWrong_44 rfl hl (Nat.le_of_ble_eq_true rfl) rfl (fun ls hl => ?_)
          obtain ⟨z10_, ez10_⟩ : ∃ y : Int32, y = v4_ + 1 := ⟨_, rfl⟩
          have o10 : -2147483648 ≤ v4_.toInt + 1 := by omega
          have o11 : v4_.toInt + 1 ≤ 2147483647 := by omega
          have tz10_ := ti_add ez10_ rfl rg_18 o10 o11
          refine lv_iinc (v := z10_) (lv' := [(4, .int z10_), (2, .long y9_), (0, .ref (kA κ 0)), (1, .int x)]) hx hb dX11_greatestWrong_45 hl (k := 1) rfl (iincp ez10_ rg_6) (Nat.le_of_ble_eq_true rfl) rfl (fun ls hl => ?_)
          refine lv_goto (tgt := 5) hx hb dX11_greatestWrong_48 rfl ?_
          have o12 : (40 - z10_.toInt).toNat < n5_ := by omega
          have o13 : 0 ≤ z10_.toInt := by omega
          exact ih5_ τ6_ y9_ z10_ _ _ _ o12 hτ6_ o13 hP hD hS (lv_sub hl [1, 0, 2, 3] rfl)
  have kk11_ : (0 : Int32).toInt = 0 := rg_11
  have o14 : 0 ≤ (0 : Int32).toInt := by omega
  exact pt5_ _ σ 0 0 _ _ _ (Nat.lt_succ_self _) hI o14 hP hD hS (lv_sub hl [1, 0, 2, 3] rfl)
def ow_k_measured : List Cond := [.fieldLink RX11 26 "NearEnough" "told" "LNearEnough$Program;", .constantLong RX11 212 (-1)]
def vs_k_measured : List Cond := .code yX11_measured cX11_measured 3 (some .long) :: (ow_k_measured ++ (([.methodLink RX11 227 yX3_hasEnd, .instanceMethod yX3_hasEnd, .selects RX3 yX3_hasEnd yX3_hasEnd, .initialized RX3] : List Cond) ++ (vs_k_hasEnd ++ (([.methodLink RX11 209 yX11_stands, .instanceMethod yX11_stands, .selects RX11 yX11_stands yX11_stands, .initialized RX11] : List Cond) ++ (vs_k_stands ++ (([.methodLink RX11 254 yX11_greatestWrong, .instanceMethod yX11_greatestWrong, .selects RX11 yX11_greatestWrong yX11_greatestWrong, .initialized RX11] : List Cond) ++ (vs_k_greatestWrong ++ (wsX110))))))))
theorem vg_k_measured : vs_k_measured.all goodWord = true := by decide +kernel
theorem dd_k_measured : yX11_measured.cls = RX11 ∧ yX11_measured.cls ≠ "java/lang/invoke/MethodHandle" ∧ yX11_measured.cls ≠ "java/lang/invoke/VarHandle" ∧ (parseMethodDescriptor yX11_measured.desc).map (fun d => d.parameters.length) = some 2 := by decide +kernel
def rm_k_measured : Room := { frames := 7, cells := 0, slots := 0, locals := 184 }
theorem gd_k_measured_227_k_hasEnd : GoodIn vs_k_measured (wsV RX11 227 RX3 yX3_hasEnd vs_k_hasEnd) := goodIn_app (goodIn_sub (fun w h => (List.mem_cons_of_mem _ (List.mem_append_right _ (List.mem_append_left _ h)))) (by decide +kernel)) (goodIn_sub (fun w h => (List.mem_cons_of_mem _ (List.mem_append_right _ (List.mem_append_right _ (List.mem_append_left _ h))))) vg_k_hasEnd)
theorem gd_k_measured_209_k_stands : GoodIn vs_k_measured (wsV RX11 209 RX11 yX11_stands vs_k_stands) := goodIn_app (goodIn_sub (fun w h => (List.mem_cons_of_mem _ (List.mem_append_right _ (List.mem_append_right _ (List.mem_append_right _ (List.mem_append_left _ h)))))) (by decide +kernel)) (goodIn_sub (fun w h => (List.mem_cons_of_mem _ (List.mem_append_right _ (List.mem_append_right _ (List.mem_append_right _ (List.mem_append_right _ (List.mem_append_left _ h))))))) vg_k_stands)
theorem gd_k_measured_254_k_greatestWrong : GoodIn vs_k_measured (wsV RX11 254 RX11 yX11_greatestWrong vs_k_greatestWrong) := goodIn_app (goodIn_sub (fun w h => (List.mem_cons_of_mem _ (List.mem_append_right _ (List.mem_append_right _ (List.mem_append_right _ (List.mem_append_right _ (List.mem_append_right _ (List.mem_append_left _ h)))))))) (by decide +kernel)) (goodIn_sub (fun w h => (List.mem_cons_of_mem _ (List.mem_append_right _ (List.mem_append_right _ (List.mem_append_right _ (List.mem_append_right _ (List.mem_append_right _ (List.mem_append_right _ (List.mem_append_left _ h))))))))) vg_k_greatestWrong)
set_option maxHeartbeats 4000000 in
set_option maxRecDepth 100000 in
theorem k_measured (l : Launch) (dC : Nat → ClassId) (dI : Nat → Nat → Nat) (κ : CE) (sz : Nat) (σ : MS) (x : Int32) (y : Int32) (hk : PInv κ) (hI : CInv σ)  : Met l yX11_measured vs_k_measured rm_k_measured (va_Pc [.ref (kA κ 0), .int x, .int y] (wSy dC dI (cW κ σ) (cT κ) sz)) (va_Ql (fun (r : Int64) (τ : MS) => CInv τ ∧ True) (fun (τ : MS) => wEn dC dI (va_A (cW κ σ) sz) (cW κ τ) []) (va_A (cW κ σ) sz)) 0 0 (va_A (cW κ σ) sz) := by
  refine Met.ofW (cc := cX11_measured) (maxL := 3) (ret := (some .long)) (by decide +kernel) rfl ?_
  intro p e s m args below meth c s₁ B hml hv
  obtain ⟨rfl, hsz, hP, hK, hD0, hE⟩ := hv
  have hx := B.exec
  have hb := B.bytes
  have hr := B.returns
  have hts := atoms_spec (ws := vs_k_measured) B.pre
  have hown : s.vm.findClass RX11 = some m.cls := findClass_of_methodNamed B.named
  have hlocks := B.notSynchronized
  subst hsz
  have hD := hD0.self (sz := s.heap.size)
  generalize hAe : va_A (cW κ σ) s.heap.size = A at hD ⊢
  have hA : ∀ q : Nat, s.heap.size ≤ q → A q := fun q h => by rw [← hAe]; exact Or.inr h
  have hl := lv_entry ([.ref (kA κ 0), .int x, .int y]) (n := 3) (Nat.le_of_ble_eq_true rfl)
  rw [lg_entry_eq]
  generalize (lg_sl ([.ref (kA κ 0), .int x, .int y]) ++ List.replicate (3 - (lg_sl ([.ref (kA κ 0), .int x, .int y])).length) Slot.unset).toArray = ls at hl ⊢
  have hl : lv_has ls 3 [(0, .ref (kA κ 0)), (1, .int x), (2, .int y)] := hl
  have ho := fun w (h : w ∈ ow_k_measured) => hts w (List.mem_cons_of_mem _ (List.mem_append_left _ h))
  have hin11 : ∀ w ∈ u_ws RX11 TX11 17, w ∈ vs_k_measured := fun w h => (List.mem_cons_of_mem _ (List.mem_append_right _ (List.mem_append_right _ (List.mem_append_right _ (List.mem_append_right _ (List.mem_append_right _ (List.mem_append_right _ (List.mem_append_right _ h))))))))
  refine zQ (fun Q hQ => ?_)
  refine zH (A := A) (ws := (cW κ σ)) (fun H hP hS => ?_) hP
  have hk0 := hk.1
  have hk1 := hk.2.1
  have hk2 := hk.2.2.1
  refine lv_aload_n hx hb dX11_measured_0 rfl (lv_at hl 0 rfl) ?_
  refine va_get (D := (dC, dI)) (ci := 11) (v := .ref (kA κ 6)) (C := RX11) (T := TX11) (N := 17) hx hb hts hin11 hown hK hP 0 rfl rfl 4 (Nat.le_of_ble_eq_true rfl) (ho (.fieldLink RX11 26 "NearEnough" "told" "LNearEnough$Program;") (List.mem_of_getElem? (i := 0) rfl)) (fun _ h9 => h9) rfl dX11_measured_1 ?_
  refine lv_iload_n hx hb dX11_measured_4 rfl (lv_at hl 1 rfl) ?_
  refine zy_i (va_runV (As := [.int x]) (rest := []) ⟨hx, hb, hml, hown, hts⟩ (k_hasEnd l dC dI κ H.size σ x hk hI ) (cwV 1 hts gd_k_measured_227_k_hasEnd rfl rfl rfl dd_k_hasEnd ⟨Nat.le_of_ble_eq_true rfl, Nat.le_of_ble_eq_true rfl⟩) (preVy hP hK hD hE (ci := 3) (q0 := 6) rfl rfl) rfl rfl hl.1 rfl (lv_room (Nat.le_of_ble_eq_true rfl)) dX11_measured_5 ⟨Nat.le_of_ble_eq_true rfl, Nat.le_of_ble_eq_true rfl⟩) hD hS hA (fun z1_ τ2_ H locs hq hP hD hS => ?_)
  obtain ⟨hτ2_, q3_⟩ := hq
  rw [hτ2_] at hP hD
  have q3_ : (z1_.toInt = 1 ∧ 0 ≤ x.toInt ∧ x.toInt < (pI κ 2).toInt) ∨ z1_.toInt = 0 := q3_
  refine W.widen (k := 0) (n := 0) (Nat.le_of_ble_eq_true rfl) (Nat.le_of_ble_eq_true rfl) ?_
  refine lv_if_eq (tgt := 19) hx hb dX11_measured_8 rfl (fun c4_ => ?_) (fun c4_ => ?_)
  · have tc4_ := (show z1_.toInt = 0 from ti_eq rfl rg_11 c4_)
    refine lv_ldc2 (v := (-1)) hx hb hown (ho (.constantLong RX11 212 (-1)) (List.mem_of_getElem? (i := 1) rfl)) dX11_measured_19 ?_
    rw [hQ]
    exact W.lret (v := (-1)) hx hb hr (fun t ht hW => ⟨⟨(-1), σ, rfl, ⟨hI, trivial⟩, wEn_of hP (hK.sub [] rfl) hD ht hW⟩, hS.F ht⟩) hS.2.2 dX11_measured_22
  · have tc4_ := (show z1_.toInt ≠ 0 from ti_ne rfl rg_11 c4_)
    refine lv_aload_n hx hb dX11_measured_11 rfl (lv_at hl 0 rfl) ?_
    refine lv_iload_n hx hb dX11_measured_12 rfl (lv_at hl 2 rfl) ?_
    refine zy_i (va_runV (As := [.int y]) (rest := []) ⟨hx, hb, hml, hown, hts⟩ (k_stands l dC dI κ H.size σ y hk hI ) (cwV 1 hts gd_k_measured_209_k_stands rfl rfl rfl dd_k_stands ⟨Nat.le_of_ble_eq_true rfl, Nat.le_of_ble_eq_true rfl⟩) (preVy hP hK hD hE (ci := 11) (q0 := 0) rfl rfl) rfl rfl hl.1 rfl (lv_room (Nat.le_of_ble_eq_true rfl)) dX11_measured_13 ⟨Nat.le_of_ble_eq_true rfl, Nat.le_of_ble_eq_true rfl⟩) hD hS hA (fun z5_ τ6_ H locs hq hP hD hS => ?_)
    obtain ⟨hτ6_, q7_⟩ := hq
    have q7_ : z5_.toInt = 0 ∨ z5_.toInt = 1 := q7_
    refine W.widen (k := 0) (n := 0) (Nat.le_of_ble_eq_true rfl) (Nat.le_of_ble_eq_true rfl) ?_
    refine lv_if_ne (tgt := 23) hx hb dX11_measured_16 rfl (fun c8_ => ?_) (fun c8_ => ?_)
    · have tc8_ := (show z5_.toInt ≠ 0 from ti_ne rfl rg_11 c8_)
      refine lv_aload_n hx hb dX11_measured_23 rfl (lv_at hl 0 rfl) ?_
      refine lv_iload_n hx hb dX11_measured_24 rfl (lv_at hl 1 rfl) ?_
      have o1 : 0 ≤ x.toInt := by omega
      have o2 : x.toInt < (pI κ 2).toInt := by omega
      refine zy_l (va_runV (As := [.int x]) (rest := []) ⟨hx, hb, hml, hown, hts⟩ (k_greatestWrong l dC dI κ H.size τ6_ x hk hτ6_ ⟨o1, o2⟩) (cwV 1 hts gd_k_measured_254_k_greatestWrong rfl rfl rfl dd_k_greatestWrong ⟨Nat.le_of_ble_eq_true rfl, Nat.le_of_ble_eq_true rfl⟩) (preVy hP hK hD hE (ci := 11) (q0 := 0) rfl rfl) rfl rfl hl.1 rfl (lv_room (Nat.le_of_ble_eq_true rfl)) dX11_measured_25 ⟨Nat.le_of_ble_eq_true rfl, Nat.le_of_ble_eq_true rfl⟩) hD hS hA (fun y9_ τ10_ H locs hq hP hD hS => ?_)
      obtain ⟨hτ10_, q11_⟩ := hq
      refine W.widen (k := 0) (n := 0) (Nat.le_of_ble_eq_true rfl) (Nat.le_of_ble_eq_true rfl) ?_
      rw [hQ]
      exact W.lret (v := y9_) hx hb hr (fun t ht hW => ⟨⟨y9_, τ10_, rfl, ⟨hτ10_, trivial⟩, wEn_of hP (hK.sub [] rfl) hD ht hW⟩, hS.F ht⟩) hS.2.2 dX11_measured_28
    · have tc8_ := (show z5_.toInt = 0 from ti_eq rfl rg_11 c8_)
      refine lv_ldc2 (v := (-1)) hx hb hown (ho (.constantLong RX11 212 (-1)) (List.mem_of_getElem? (i := 1) rfl)) dX11_measured_19 ?_
      rw [hQ]
      exact W.lret (v := (-1)) hx hb hr (fun t ht hW => ⟨⟨(-1), τ6_, rfl, ⟨hτ6_, trivial⟩, wEn_of hP (hK.sub [] rfl) hD ht hW⟩, hS.F ht⟩) hS.2.2 dX11_measured_22
def ow_k_passed : List Cond := [.fieldLink RX11 26 "NearEnough" "told" "LNearEnough$Program;", .fieldLink RX11 33 "NearEnough" "sheets" "LNearEnough$Sheets;", .fieldLink RX11 111 "NearEnough$Sheets" "count" "I", .fieldLink RX11 151 "NearEnough$Sheets" "kept" "[Z", .methodLink RX11 244 Lib.MathLoose.abs_long.x, .static Lib.MathLoose.abs_long.x, .initialized "java/lang/Math", .code Lib.MathLoose.abs_long.x Lib.MathLoose.abs_long.code 2 (some .long)]
def vs_k_passed : List Cond := .code yX11_passed cX11_passed 7 (some .int) :: (ow_k_passed ++ (([.methodLink RX11 227 yX3_hasEnd, .instanceMethod yX3_hasEnd, .selects RX3 yX3_hasEnd yX3_hasEnd, .initialized RX3] : List Cond) ++ (vs_k_hasEnd ++ (([.methodLink RX11 209 yX11_stands, .instanceMethod yX11_stands, .selects RX11 yX11_stands yX11_stands, .initialized RX11] : List Cond) ++ (vs_k_stands ++ (([.methodLink RX11 254 yX11_greatestWrong, .instanceMethod yX11_greatestWrong, .selects RX11 yX11_greatestWrong yX11_greatestWrong, .initialized RX11] : List Cond) ++ (vs_k_greatestWrong ++ (([.methodLink RX11 241 yX11_errorOn, .instanceMethod yX11_errorOn, .selects RX11 yX11_errorOn yX11_errorOn, .initialized RX11] : List Cond) ++ (vs_k_errorOn ++ (wsX70 ++ (wsX110)))))))))))
theorem vg_k_passed : vs_k_passed.all goodWord = true := by decide +kernel
theorem dd_k_passed : yX11_passed.cls = RX11 ∧ yX11_passed.cls ≠ "java/lang/invoke/MethodHandle" ∧ yX11_passed.cls ≠ "java/lang/invoke/VarHandle" ∧ (parseMethodDescriptor yX11_passed.desc).map (fun d => d.parameters.length) = some 2 := by decide +kernel
def rm_k_passed : Room := { frames := 7, cells := 0, slots := 0, locals := 184 }
theorem gd_k_passed_227_k_hasEnd : GoodIn vs_k_passed (wsV RX11 227 RX3 yX3_hasEnd vs_k_hasEnd) := goodIn_app (goodIn_sub (fun w h => (List.mem_cons_of_mem _ (List.mem_append_right _ (List.mem_append_left _ h)))) (by decide +kernel)) (goodIn_sub (fun w h => (List.mem_cons_of_mem _ (List.mem_append_right _ (List.mem_append_right _ (List.mem_append_left _ h))))) vg_k_hasEnd)
theorem gd_k_passed_209_k_stands : GoodIn vs_k_passed (wsV RX11 209 RX11 yX11_stands vs_k_stands) := goodIn_app (goodIn_sub (fun w h => (List.mem_cons_of_mem _ (List.mem_append_right _ (List.mem_append_right _ (List.mem_append_right _ (List.mem_append_left _ h)))))) (by decide +kernel)) (goodIn_sub (fun w h => (List.mem_cons_of_mem _ (List.mem_append_right _ (List.mem_append_right _ (List.mem_append_right _ (List.mem_append_right _ (List.mem_append_left _ h))))))) vg_k_stands)
theorem gd_k_passed_254_k_greatestWrong : GoodIn vs_k_passed (wsV RX11 254 RX11 yX11_greatestWrong vs_k_greatestWrong) := goodIn_app (goodIn_sub (fun w h => (List.mem_cons_of_mem _ (List.mem_append_right _ (List.mem_append_right _ (List.mem_append_right _ (List.mem_append_right _ (List.mem_append_right _ (List.mem_append_left _ h)))))))) (by decide +kernel)) (goodIn_sub (fun w h => (List.mem_cons_of_mem _ (List.mem_append_right _ (List.mem_append_right _ (List.mem_append_right _ (List.mem_append_right _ (List.mem_append_right _ (List.mem_append_right _ (List.mem_append_left _ h))))))))) vg_k_greatestWrong)
theorem gd_k_passed_241_k_errorOn : GoodIn vs_k_passed (wsV RX11 241 RX11 yX11_errorOn vs_k_errorOn) := goodIn_app (goodIn_sub (fun w h => (List.mem_cons_of_mem _ (List.mem_append_right _ (List.mem_append_right _ (List.mem_append_right _ (List.mem_append_right _ (List.mem_append_right _ (List.mem_append_right _ (List.mem_append_right _ (List.mem_append_left _ h)))))))))) (by decide +kernel)) (goodIn_sub (fun w h => (List.mem_cons_of_mem _ (List.mem_append_right _ (List.mem_append_right _ (List.mem_append_right _ (List.mem_append_right _ (List.mem_append_right _ (List.mem_append_right _ (List.mem_append_right _ (List.mem_append_right _ (List.mem_append_left _ h))))))))))) vg_k_errorOn)
set_option maxHeartbeats 4000000 in
set_option maxRecDepth 100000 in
theorem k_passed (l : Launch) (dC : Nat → ClassId) (dI : Nat → Nat → Nat) (κ : CE) (sz : Nat) (σ : MS) (x : Int32) (y : Int32) (hk : PInv κ) (hI : CInv σ)  : Met l yX11_passed vs_k_passed rm_k_passed (va_Pc [.ref (kA κ 0), .int x, .int y] (wSy dC dI (cW κ σ) (cT κ) sz)) (va_Qi (fun (r : Int32) (τ : MS) => CInv τ ∧ True) (fun (τ : MS) => wEn dC dI (va_A (cW κ σ) sz) (cW κ τ) []) (va_A (cW κ σ) sz)) 0 0 (va_A (cW κ σ) sz) := by
  refine Met.ofW (cc := cX11_passed) (maxL := 7) (ret := (some .int)) (by decide +kernel) rfl ?_
  intro p e s m args below meth c s₁ B hml hv
  obtain ⟨rfl, hsz, hP, hK, hD0, hE⟩ := hv
  have hx := B.exec
  have hb := B.bytes
  have hr := B.returns
  have hts := atoms_spec (ws := vs_k_passed) B.pre
  have hown : s.vm.findClass RX11 = some m.cls := findClass_of_methodNamed B.named
  have hlocks := B.notSynchronized
  subst hsz
  have hD := hD0.self (sz := s.heap.size)
  generalize hAe : va_A (cW κ σ) s.heap.size = A at hD ⊢
  have hA : ∀ q : Nat, s.heap.size ≤ q → A q := fun q h => by rw [← hAe]; exact Or.inr h
  have hl := lv_entry ([.ref (kA κ 0), .int x, .int y]) (n := 7) (Nat.le_of_ble_eq_true rfl)
  rw [lg_entry_eq]
  generalize (lg_sl ([.ref (kA κ 0), .int x, .int y]) ++ List.replicate (7 - (lg_sl ([.ref (kA κ 0), .int x, .int y])).length) Slot.unset).toArray = ls at hl ⊢
  have hl : lv_has ls 7 [(0, .ref (kA κ 0)), (1, .int x), (2, .int y)] := hl
  have ho := fun w (h : w ∈ ow_k_passed) => hts w (List.mem_cons_of_mem _ (List.mem_append_left _ h))
  have hin7 : ∀ w ∈ u_ws RX7 TX7 3, w ∈ vs_k_passed := fun w h => (List.mem_cons_of_mem _ (List.mem_append_right _ (List.mem_append_right _ (List.mem_append_right _ (List.mem_append_right _ (List.mem_append_right _ (List.mem_append_right _ (List.mem_append_right _ (List.mem_append_right _ (List.mem_append_right _ (List.mem_append_left _ h)))))))))))
  have hin11 : ∀ w ∈ u_ws RX11 TX11 17, w ∈ vs_k_passed := fun w h => (List.mem_cons_of_mem _ (List.mem_append_right _ (List.mem_append_right _ (List.mem_append_right _ (List.mem_append_right _ (List.mem_append_right _ (List.mem_append_right _ (List.mem_append_right _ (List.mem_append_right _ (List.mem_append_right _ (List.mem_append_right _ h)))))))))))
  refine zQ (fun Q hQ => ?_)
  refine zH (A := A) (ws := (cW κ σ)) (fun H hP hS => ?_) hP
  have hk0 := hk.1
  have hk1 := hk.2.1
  have hk2 := hk.2.2.1
  refine lv_aload_n hx hb dX11_passed_0 rfl (lv_at hl 0 rfl) ?_
  refine va_get (D := (dC, dI)) (ci := 11) (v := .ref (kA κ 6)) (C := RX11) (T := TX11) (N := 17) hx hb hts hin11 hown hK hP 0 rfl rfl 4 (Nat.le_of_ble_eq_true rfl) (ho (.fieldLink RX11 26 "NearEnough" "told" "LNearEnough$Program;") (List.mem_of_getElem? (i := 0) rfl)) (fun _ h9 => h9) rfl dX11_passed_1 ?_
  refine lv_iload_n hx hb dX11_passed_4 rfl (lv_at hl 1 rfl) ?_
  refine zy_i (va_runV (As := [.int x]) (rest := []) ⟨hx, hb, hml, hown, hts⟩ (k_hasEnd l dC dI κ H.size σ x hk hI ) (cwV 1 hts gd_k_passed_227_k_hasEnd rfl rfl rfl dd_k_hasEnd ⟨Nat.le_of_ble_eq_true rfl, Nat.le_of_ble_eq_true rfl⟩) (preVy hP hK hD hE (ci := 3) (q0 := 6) rfl rfl) rfl rfl hl.1 rfl (lv_room (Nat.le_of_ble_eq_true rfl)) dX11_passed_5 ⟨Nat.le_of_ble_eq_true rfl, Nat.le_of_ble_eq_true rfl⟩) hD hS hA (fun z1_ τ2_ H locs hq hP hD hS => ?_)
  obtain ⟨hτ2_, q3_⟩ := hq
  rw [hτ2_] at hP hD
  have q3_ : (z1_.toInt = 1 ∧ 0 ≤ x.toInt ∧ x.toInt < (pI κ 2).toInt) ∨ z1_.toInt = 0 := q3_
  refine W.widen (k := 0) (n := 0) (Nat.le_of_ble_eq_true rfl) (Nat.le_of_ble_eq_true rfl) ?_
  refine lv_if_eq (tgt := 19) hx hb dX11_passed_8 rfl (fun c4_ => ?_) (fun c4_ => ?_)
  · have tc4_ := (show z1_.toInt = 0 from ti_eq rfl rg_11 c4_)
    refine lv_iconst (v := (-1)) hx hb dX11_passed_19 rg_53 ?_
    have kk5_ : ((-1) : Int32).toInt = (-1) := rg_489
    rw [hQ]
    exact W.iret (v := (-1)) hx hb hr (fun t ht hW => ⟨⟨(-1), σ, rfl, ⟨hI, trivial⟩, wEn_of hP (hK.sub [] rfl) hD ht hW⟩, hS.F ht⟩) hS.2.2 dX11_passed_20
  · have tc4_ := (show z1_.toInt ≠ 0 from ti_ne rfl rg_11 c4_)
    refine lv_aload_n hx hb dX11_passed_11 rfl (lv_at hl 0 rfl) ?_
    refine lv_iload_n hx hb dX11_passed_12 rfl (lv_at hl 2 rfl) ?_
    refine zy_i (va_runV (As := [.int y]) (rest := []) ⟨hx, hb, hml, hown, hts⟩ (k_stands l dC dI κ H.size σ y hk hI ) (cwV 1 hts gd_k_passed_209_k_stands rfl rfl rfl dd_k_stands ⟨Nat.le_of_ble_eq_true rfl, Nat.le_of_ble_eq_true rfl⟩) (preVy hP hK hD hE (ci := 11) (q0 := 0) rfl rfl) rfl rfl hl.1 rfl (lv_room (Nat.le_of_ble_eq_true rfl)) dX11_passed_13 ⟨Nat.le_of_ble_eq_true rfl, Nat.le_of_ble_eq_true rfl⟩) hD hS hA (fun z6_ τ7_ H locs hq hP hD hS => ?_)
    obtain ⟨hτ7_, q8_⟩ := hq
    have q8_ : z6_.toInt = 0 ∨ z6_.toInt = 1 := q8_
    refine W.widen (k := 0) (n := 0) (Nat.le_of_ble_eq_true rfl) (Nat.le_of_ble_eq_true rfl) ?_
    refine lv_if_ne (tgt := 21) hx hb dX11_passed_16 rfl (fun c9_ => ?_) (fun c9_ => ?_)
    · have tc9_ := (show z6_.toInt ≠ 0 from ti_ne rfl rg_11 c9_)
      refine lv_aload_n hx hb dX11_passed_21 rfl (lv_at hl 0 rfl) ?_
      refine lv_iload_n hx hb dX11_passed_22 rfl (lv_at hl 1 rfl) ?_
      have o1 : 0 ≤ x.toInt := by omega
      have o2 : x.toInt < (pI κ 2).toInt := by omega
      refine zy_l (va_runV (As := [.int x]) (rest := []) ⟨hx, hb, hml, hown, hts⟩ (k_greatestWrong l dC dI κ H.size τ7_ x hk hτ7_ ⟨o1, o2⟩) (cwV 1 hts gd_k_passed_254_k_greatestWrong rfl rfl rfl dd_k_greatestWrong ⟨Nat.le_of_ble_eq_true rfl, Nat.le_of_ble_eq_true rfl⟩) (preVy hP hK hD hE (ci := 11) (q0 := 0) rfl rfl) rfl rfl hl.1 rfl (lv_room (Nat.le_of_ble_eq_true rfl)) dX11_passed_23 ⟨Nat.le_of_ble_eq_true rfl, Nat.le_of_ble_eq_true rfl⟩) hD hS hA (fun y10_ τ11_ H locs hq hP hD hS => ?_)
      obtain ⟨hτ11_, q12_⟩ := hq
      refine W.widen (k := 0) (n := 0) (Nat.le_of_ble_eq_true rfl) (Nat.le_of_ble_eq_true rfl) ?_
      refine lv_lstore_n (lv' := [(3, .long y10_), (0, .ref (kA κ 0)), (1, .int x), (2, .int y)]) hx hb dX11_passed_26 rfl hl (Nat.le_of_ble_eq_true rfl) rfl (fun ls hl => ?_)
      refine lv_iconst (v := 0) hx hb dX11_passed_27 rg_0 ?_
      refine lv_istore (lv' := [(5, .int 0), (3, .long y10_), (0, .ref (kA κ 0)), (1, .int x), (2, .int y)]) hx hb dX11_passed_28 hl (Nat.le_of_ble_eq_true rfl) rfl (fun ls hl => ?_)
      refine lv_iconst (v := 0) hx hb dX11_passed_30 rg_0 ?_
      refine lv_istore (lv' := [(6, .int 0), (5, .int 0), (3, .long y10_), (0, .ref (kA κ 0)), (1, .int x), (2, .int y)]) hx hb dX11_passed_31 hl (Nat.le_of_ble_eq_true rfl) rfl (fun ls hl => ?_)
      have pt33_ : ∀ (n33_ : Nat) (σ33_ : MS) (v5_ : Int32) (v6_ : Int32) (H : Heap) (locs : List Loc) (ls : Array Slot), (40 - v6_.toInt).toNat < n33_ → CInv σ33_ → (0 ≤ v6_.toInt) → va_P (dC, dI) vwCl (cW κ σ33_) H → va_D A (cW κ σ33_) → va_S A s.heap H locs → lv_has ls 7 [(5, .int v5_), (6, .int v6_), (3, .long y10_), (0, .ref (kA κ 0)), (1, .int x)] → W p l e (headSpec vs_k_passed rm_k_passed).room s m #[Value.ref (kA κ 0), Value.int x, Value.int y] below meth c H locs 0 0 Q (F0 m 33 ls []) := by
        intro n33_
        induction n33_ with
        | zero => intro σ33_ v5_ v6_ H locs ls hn33_ hIσ33_ hf33_0_ hP hD hS hl; exact absurd hn33_ (Nat.not_lt_zero _)
        | succ n33_ ih33_ =>
          intro σ33_ v5_ v6_ H locs ls hn33_ hIσ33_ hf33_0_ hP hD hS hl
          refine lv_iload hx hb dX11_passed_33 (lv_at hl 1 rfl) ?_
          refine lv_aload_n hx hb dX11_passed_35 rfl (lv_at hl 3 rfl) ?_
          refine va_get (D := (dC, dI)) (ci := 11) (v := .ref (kA κ 12)) (C := RX11) (T := TX11) (N := 17) hx hb hts hin11 hown hK hP 0 rfl rfl 5 (Nat.le_of_ble_eq_true rfl) (ho (.fieldLink RX11 33 "NearEnough" "sheets" "LNearEnough$Sheets;") (List.mem_of_getElem? (i := 1) rfl)) (fun _ h9 => h9) rfl dX11_passed_36 ?_
          have bσ33__12 : 0 ≤ (σ33_.1 12).toInt ∧ (σ33_.1 12).toInt ≤ 40 := hIσ33_.1 12
          refine va_get (D := (dC, dI)) (ci := 7) (v := .int (σ33_.1 12)) (C := RX7) (T := TX7) (N := 3) hx hb hts hin7 hown hK hP 12 rfl rfl 2 (Nat.le_of_ble_eq_true rfl) (ho (.fieldLink RX11 111 "NearEnough$Sheets" "count" "I") (List.mem_of_getElem? (i := 2) rfl)) (fun _ h9 => h9) rfl dX11_passed_39 ?_
          refine lv_icmp_ge (tgt := 82) hx hb dX11_passed_42 rfl (fun c13_ => ?_) (fun c13_ => ?_)
          · have tc13_ := (show (σ33_.1 12).toInt ≤ v6_.toInt from ti_le rfl rfl c13_)
            refine lv_iload hx hb dX11_passed_82 (lv_at hl 0 rfl) ?_
            rw [hQ]
            exact W.iret (v := v5_) hx hb hr (fun t ht hW => ⟨⟨v5_, σ33_, rfl, ⟨hIσ33_, trivial⟩, wEn_of hP (hK.sub [] rfl) hD ht hW⟩, hS.F ht⟩) hS.2.2 dX11_passed_84
          · have tc13_ := (show v6_.toInt < (σ33_.1 12).toInt from ti_nle rfl rfl c13_)
            refine lv_aload_n hx hb dX11_passed_45 rfl (lv_at hl 3 rfl) ?_
            refine va_get (D := (dC, dI)) (ci := 11) (v := .ref (kA κ 12)) (C := RX11) (T := TX11) (N := 17) hx hb hts hin11 hown hK hP 0 rfl rfl 5 (Nat.le_of_ble_eq_true rfl) (ho (.fieldLink RX11 33 "NearEnough" "sheets" "LNearEnough$Sheets;") (List.mem_of_getElem? (i := 1) rfl)) (fun _ h9 => h9) rfl dX11_passed_46 ?_
            refine va_get (D := (dC, dI)) (ci := 7) (v := .ref (kA κ 14)) (C := RX7) (T := TX7) (N := 3) hx hb hts hin7 hown hK hP 12 rfl rfl 1 (Nat.le_of_ble_eq_true rfl) (ho (.fieldLink RX11 151 "NearEnough$Sheets" "kept" "[Z") (List.mem_of_getElem? (i := 3) rfl)) (fun _ h9 => h9) rfl dX11_passed_49 ?_
            refine lv_iload hx hb dX11_passed_52 (lv_at hl 1 rfl) ?_
            have o3 : 0 ≤ v6_.toInt := by omega
            have o4 : v6_.toInt < ((40 : Nat) : Int) := by omega
            refine va_zald hx hb hK hP 14 11 rfl rfl (ti_inx o3 o4) dX11_passed_54 ?_
            refine lv_topi (fun z14_ ez14_ => ?_)
            refine lv_if_eq (tgt := 76) hx hb dX11_passed_55 rfl (fun c15_ => ?_) (fun c15_ => ?_)
            · have tc15_ := (show z14_.toInt = 0 from ti_eq rfl rg_11 c15_)
              obtain ⟨z16_, ez16_⟩ : ∃ y : Int32, y = v6_ + 1 := ⟨_, rfl⟩
              have o5 : -2147483648 ≤ v6_.toInt + 1 := by omega
              have o6 : v6_.toInt + 1 ≤ 2147483647 := by omega
              have tz16_ := ti_add ez16_ rfl rg_18 o5 o6
              refine lv_iinc (v := z16_) (lv' := [(6, .int z16_), (5, .int v5_), (3, .long y10_), (0, .ref (kA κ 0)), (1, .int x)]) hx hb dX11_passed_76 hl (k := 1) rfl (iincp ez16_ rg_6) (Nat.le_of_ble_eq_true rfl) rfl (fun ls hl => ?_)
              refine lv_goto (tgt := 33) hx hb dX11_passed_79 rfl ?_
              have o7 : (40 - z16_.toInt).toNat < n33_ := by omega
              have o8 : 0 ≤ z16_.toInt := by omega
              exact ih33_ σ33_ v5_ z16_ _ _ _ o7 hIσ33_ o8 hP hD hS (lv_sub hl [1, 0, 2, 3, 4] rfl)
            · have tc15_ := (show z14_.toInt ≠ 0 from ti_ne rfl rg_11 c15_)
              refine lv_aload_n hx hb dX11_passed_58 rfl (lv_at hl 3 rfl) ?_
              refine lv_iload_n hx hb dX11_passed_59 rfl (lv_at hl 4 rfl) ?_
              refine lv_iload hx hb dX11_passed_60 (lv_at hl 1 rfl) ?_
              have o9 : v6_.toInt ≤ 40 := by omega
              refine zy_l (va_runV (As := [.int x, .int v6_]) (rest := []) ⟨hx, hb, hml, hown, hts⟩ (k_errorOn l dC dI κ H.size σ33_ x v6_ hk hIσ33_ ⟨o1, o2⟩ ⟨o3, o9⟩) (cwV 2 hts gd_k_passed_241_k_errorOn rfl rfl rfl dd_k_errorOn ⟨Nat.le_of_ble_eq_true rfl, Nat.le_of_ble_eq_true rfl⟩) (preVy hP hK hD hE (ci := 11) (q0 := 0) rfl rfl) rfl rfl hl.1 rfl (lv_room (Nat.le_of_ble_eq_true rfl)) dX11_passed_62 ⟨Nat.le_of_ble_eq_true rfl, Nat.le_of_ble_eq_true rfl⟩) hD hS hA (fun y17_ τ18_ H locs hq hP hD hS => ?_)
              obtain ⟨hτ18_, q19_⟩ := hq
              refine W.widen (k := 0) (n := 0) (Nat.le_of_ble_eq_true rfl) (Nat.le_of_ble_eq_true rfl) ?_
              refine va_mabs_long hx hb (hml.trans hl.1.symm) hown (ho (.methodLink RX11 244 Lib.MathLoose.abs_long.x) (List.mem_of_getElem? (i := 4) rfl)) (ho (.static Lib.MathLoose.abs_long.x) (List.mem_of_getElem? (i := 5) rfl)) (ho (.initialized "java/lang/Math") (List.mem_of_getElem? (i := 6) rfl)) (ho (.code Lib.MathLoose.abs_long.x Lib.MathLoose.abs_long.code 2 (some .long)) (List.mem_of_getElem? (i := 7) rfl)) (Nat.le_of_ble_eq_true rfl) (Nat.le_of_ble_eq_true rfl) (Nat.le_of_ble_eq_true rfl) (Nat.le_of_ble_eq_true rfl) dX11_passed_65 ?_
              refine lv_topl (fun y20_ ey20_ => ?_)
              refine lv_lload_n hx hb dX11_passed_68 rfl (lv_at hl 2 rfl) ?_
              refine W.lcmp hx hb dX11_passed_69 ?_
              refine lv_topi (fun z21_ ez21_ => ?_)
              refine lv_if_le (tgt := 76) hx hb dX11_passed_70 rfl (fun c22_ => ?_) (fun c22_ => ?_)
              · have tc22_ := (show z21_.toInt ≤ 0 from ti_le rfl rg_11 c22_)
                have lc22_ : y20_ ≤ y10_ := (lg_cmp_le y20_ y10_).mp (by rw [← ez21_]; exact c22_)
                obtain ⟨z23_, ez23_⟩ : ∃ y : Int32, y = v6_ + 1 := ⟨_, rfl⟩
                have o10 : -2147483648 ≤ v6_.toInt + 1 := by omega
                have o11 : v6_.toInt + 1 ≤ 2147483647 := by omega
                have tz23_ := ti_add ez23_ rfl rg_18 o10 o11
                refine lv_iinc (v := z23_) (lv' := [(6, .int z23_), (5, .int v5_), (3, .long y10_), (0, .ref (kA κ 0)), (1, .int x)]) hx hb dX11_passed_76 hl (k := 1) rfl (iincp ez23_ rg_6) (Nat.le_of_ble_eq_true rfl) rfl (fun ls hl => ?_)
                refine lv_goto (tgt := 33) hx hb dX11_passed_79 rfl ?_
                have o12 : (40 - z23_.toInt).toNat < n33_ := by omega
                have o13 : 0 ≤ z23_.toInt := by omega
                exact ih33_ τ18_ v5_ z23_ _ _ _ o12 hτ18_ o13 hP hD hS (lv_sub hl [1, 0, 2, 3, 4] rfl)
              · have tc22_ := (show 0 < z21_.toInt from ti_nle rfl rg_11 c22_)
                have lc22_ : ¬ y20_ ≤ y10_ := fun h => c22_ (by rw [ez21_]; exact (lg_cmp_le y20_ y10_).mpr h)
                obtain ⟨z24_, ez24_⟩ : ∃ y : Int32, y = v5_ + 1 := ⟨_, rfl⟩
                refine lv_iinc (v := z24_) (lv' := [(5, .int z24_), (6, .int v6_), (3, .long y10_), (0, .ref (kA κ 0)), (1, .int x)]) hx hb dX11_passed_73 hl (k := 0) rfl (iincp ez24_ rg_6) (Nat.le_of_ble_eq_true rfl) rfl (fun ls hl => ?_)
                obtain ⟨z25_, ez25_⟩ : ∃ y : Int32, y = v6_ + 1 := ⟨_, rfl⟩
                have o14 : -2147483648 ≤ v6_.toInt + 1 := by omega
                have o15 : v6_.toInt + 1 ≤ 2147483647 := by omega
                have tz25_ := ti_add ez25_ rfl rg_18 o14 o15
                refine lv_iinc (v := z25_) (lv' := [(6, .int z25_), (5, .int z24_), (3, .long y10_), (0, .ref (kA κ 0)), (1, .int x)]) hx hb dX11_passed_76 hl (k := 1) rfl (iincp ez25_ rg_6) (Nat.le_of_ble_eq_true rfl) rfl (fun ls hl => ?_)
                refine lv_goto (tgt := 33) hx hb dX11_passed_79 rfl ?_
                have o16 : (40 - z25_.toInt).toNat < n33_ := by omega
                have o17 : 0 ≤ z25_.toInt := by omega
                exact ih33_ τ18_ z24_ z25_ _ _ _ o16 hτ18_ o17 hP hD hS (lv_sub hl [1, 0, 2, 3, 4] rfl)
      have kk26_ : (0 : Int32).toInt = 0 := rg_11
      have kk27_ : (0 : Int32).toInt = 0 := rg_11
      have o18 : 0 ≤ (0 : Int32).toInt := by omega
      exact pt33_ _ τ11_ 0 0 _ _ _ (Nat.lt_succ_self _) hτ11_ o18 hP hD hS (lv_sub hl [1, 0, 2, 3, 4] rfl)
    · have tc9_ := (show z6_.toInt = 0 from ti_eq rfl rg_11 c9_)
      refine lv_iconst (v := (-1)) hx hb dX11_passed_19 rg_53 ?_
      have kk28_ : ((-1) : Int32).toInt = (-1) := rg_489
      rw [hQ]
      exact W.iret (v := (-1)) hx hb hr (fun t ht hW => ⟨⟨(-1), τ7_, rfl, ⟨hτ7_, trivial⟩, wEn_of hP (hK.sub [] rfl) hD ht hW⟩, hS.F ht⟩) hS.2.2 dX11_passed_20
def ow_k_mean : List Cond := [.fieldLink RX11 26 "NearEnough" "told" "LNearEnough$Program;", .constantLong RX11 212 (-1), .fieldLink RX11 33 "NearEnough" "sheets" "LNearEnough$Sheets;", .fieldLink RX11 111 "NearEnough$Sheets" "count" "I", .methodLink RX11 250 Lib.MathLoose.max_long.x, .static Lib.MathLoose.max_long.x, .initialized "java/lang/Math", .code Lib.MathLoose.max_long.x Lib.MathLoose.max_long.code 4 (some .long), .methodLink RX11 244 Lib.MathLoose.abs_long.x, .static Lib.MathLoose.abs_long.x, .code Lib.MathLoose.abs_long.x Lib.MathLoose.abs_long.code 2 (some .long)]
def vs_k_mean : List Cond := .code yX11_mean cX11_mean 8 (some .long) :: (ow_k_mean ++ (([.methodLink RX11 227 yX3_hasEnd, .instanceMethod yX3_hasEnd, .selects RX3 yX3_hasEnd yX3_hasEnd, .initialized RX3] : List Cond) ++ (vs_k_hasEnd ++ (([.methodLink RX11 209 yX11_stands, .instanceMethod yX11_stands, .selects RX11 yX11_stands yX11_stands, .initialized RX11] : List Cond) ++ (vs_k_stands ++ (([.methodLink RX11 257 yX11_greatestDivisor, .static yX11_greatestDivisor, .initialized yX11_greatestDivisor.cls] : List Cond) ++ (vs_k_gcd ++ (([.methodLink RX11 241 yX11_errorOn, .instanceMethod yX11_errorOn, .selects RX11 yX11_errorOn yX11_errorOn, .initialized RX11] : List Cond) ++ (vs_k_errorOn ++ (wsX70 ++ (wsX110)))))))))))
theorem vg_k_mean : vs_k_mean.all goodWord = true := by decide +kernel
theorem dd_k_mean : yX11_mean.cls = RX11 ∧ yX11_mean.cls ≠ "java/lang/invoke/MethodHandle" ∧ yX11_mean.cls ≠ "java/lang/invoke/VarHandle" ∧ (parseMethodDescriptor yX11_mean.desc).map (fun d => d.parameters.length) = some 3 := by decide +kernel
def rm_k_mean : Room := { frames := 6, cells := 0, slots := 0, locals := 160 }
theorem gd_k_mean_227_k_hasEnd : GoodIn vs_k_mean (wsV RX11 227 RX3 yX3_hasEnd vs_k_hasEnd) := goodIn_app (goodIn_sub (fun w h => (List.mem_cons_of_mem _ (List.mem_append_right _ (List.mem_append_left _ h)))) (by decide +kernel)) (goodIn_sub (fun w h => (List.mem_cons_of_mem _ (List.mem_append_right _ (List.mem_append_right _ (List.mem_append_left _ h))))) vg_k_hasEnd)
theorem gd_k_mean_209_k_stands : GoodIn vs_k_mean (wsV RX11 209 RX11 yX11_stands vs_k_stands) := goodIn_app (goodIn_sub (fun w h => (List.mem_cons_of_mem _ (List.mem_append_right _ (List.mem_append_right _ (List.mem_append_right _ (List.mem_append_left _ h)))))) (by decide +kernel)) (goodIn_sub (fun w h => (List.mem_cons_of_mem _ (List.mem_append_right _ (List.mem_append_right _ (List.mem_append_right _ (List.mem_append_right _ (List.mem_append_left _ h))))))) vg_k_stands)
theorem gd_k_mean_257_k_gcd : GoodIn vs_k_mean (va_wsS RX11 257 yX11_greatestDivisor vs_k_gcd) := goodIn_app (goodIn_sub (fun w h => (List.mem_cons_of_mem _ (List.mem_append_right _ (List.mem_append_right _ (List.mem_append_right _ (List.mem_append_right _ (List.mem_append_right _ (List.mem_append_left _ h)))))))) (by decide +kernel)) (goodIn_sub (fun w h => (List.mem_cons_of_mem _ (List.mem_append_right _ (List.mem_append_right _ (List.mem_append_right _ (List.mem_append_right _ (List.mem_append_right _ (List.mem_append_right _ (List.mem_append_left _ h))))))))) vg_k_gcd)
theorem gd_k_mean_241_k_errorOn : GoodIn vs_k_mean (wsV RX11 241 RX11 yX11_errorOn vs_k_errorOn) := goodIn_app (goodIn_sub (fun w h => (List.mem_cons_of_mem _ (List.mem_append_right _ (List.mem_append_right _ (List.mem_append_right _ (List.mem_append_right _ (List.mem_append_right _ (List.mem_append_right _ (List.mem_append_right _ (List.mem_append_left _ h)))))))))) (by decide +kernel)) (goodIn_sub (fun w h => (List.mem_cons_of_mem _ (List.mem_append_right _ (List.mem_append_right _ (List.mem_append_right _ (List.mem_append_right _ (List.mem_append_right _ (List.mem_append_right _ (List.mem_append_right _ (List.mem_append_right _ (List.mem_append_left _ h))))))))))) vg_k_errorOn)
set_option maxHeartbeats 4000000 in
set_option maxRecDepth 100000 in
theorem k_mean (l : Launch) (dC : Nat → ClassId) (dI : Nat → Nat → Nat) (κ : CE) (sz : Nat) (σ : MS) (x : Int32) (y : Int32) (z : Int32) (hk : PInv κ) (hI : CInv σ)  : Met l yX11_mean vs_k_mean rm_k_mean (va_Pc [.ref (kA κ 0), .int x, .int y, .int z] (wSy dC dI (cW κ σ) (cT κ) sz)) (va_Ql (fun (r : Int64) (τ : MS) => CInv τ ∧ True) (fun (τ : MS) => wEn dC dI (va_A (cW κ σ) sz) (cW κ τ) []) (va_A (cW κ σ) sz)) 0 0 (va_A (cW κ σ) sz) := by
  refine Met.ofW (cc := cX11_mean) (maxL := 8) (ret := (some .long)) (by decide +kernel) rfl ?_
  intro p e s m args below meth c s₁ B hml hv
  obtain ⟨rfl, hsz, hP, hK, hD0, hE⟩ := hv
  have hx := B.exec
  have hb := B.bytes
  have hr := B.returns
  have hts := atoms_spec (ws := vs_k_mean) B.pre
  have hown : s.vm.findClass RX11 = some m.cls := findClass_of_methodNamed B.named
  have hlocks := B.notSynchronized
  subst hsz
  have hD := hD0.self (sz := s.heap.size)
  generalize hAe : va_A (cW κ σ) s.heap.size = A at hD ⊢
  have hA : ∀ q : Nat, s.heap.size ≤ q → A q := fun q h => by rw [← hAe]; exact Or.inr h
  have hl := lv_entry ([.ref (kA κ 0), .int x, .int y, .int z]) (n := 8) (Nat.le_of_ble_eq_true rfl)
  rw [lg_entry_eq]
  generalize (lg_sl ([.ref (kA κ 0), .int x, .int y, .int z]) ++ List.replicate (8 - (lg_sl ([.ref (kA κ 0), .int x, .int y, .int z])).length) Slot.unset).toArray = ls at hl ⊢
  have hl : lv_has ls 8 [(0, .ref (kA κ 0)), (1, .int x), (2, .int y), (3, .int z)] := hl
  have ho := fun w (h : w ∈ ow_k_mean) => hts w (List.mem_cons_of_mem _ (List.mem_append_left _ h))
  have hin7 : ∀ w ∈ u_ws RX7 TX7 3, w ∈ vs_k_mean := fun w h => (List.mem_cons_of_mem _ (List.mem_append_right _ (List.mem_append_right _ (List.mem_append_right _ (List.mem_append_right _ (List.mem_append_right _ (List.mem_append_right _ (List.mem_append_right _ (List.mem_append_right _ (List.mem_append_right _ (List.mem_append_left _ h)))))))))))
  have hin11 : ∀ w ∈ u_ws RX11 TX11 17, w ∈ vs_k_mean := fun w h => (List.mem_cons_of_mem _ (List.mem_append_right _ (List.mem_append_right _ (List.mem_append_right _ (List.mem_append_right _ (List.mem_append_right _ (List.mem_append_right _ (List.mem_append_right _ (List.mem_append_right _ (List.mem_append_right _ (List.mem_append_right _ h)))))))))))
  refine zQ (fun Q hQ => ?_)
  refine zH (A := A) (ws := (cW κ σ)) (fun H hP hS => ?_) hP
  have hk0 := hk.1
  have hk1 := hk.2.1
  have hk2 := hk.2.2.1
  refine lv_aload_n hx hb dX11_mean_0 rfl (lv_at hl 0 rfl) ?_
  refine va_get (D := (dC, dI)) (ci := 11) (v := .ref (kA κ 6)) (C := RX11) (T := TX11) (N := 17) hx hb hts hin11 hown hK hP 0 rfl rfl 4 (Nat.le_of_ble_eq_true rfl) (ho (.fieldLink RX11 26 "NearEnough" "told" "LNearEnough$Program;") (List.mem_of_getElem? (i := 0) rfl)) (fun _ h9 => h9) rfl dX11_mean_1 ?_
  refine lv_iload_n hx hb dX11_mean_4 rfl (lv_at hl 1 rfl) ?_
  refine zy_i (va_runV (As := [.int x]) (rest := []) ⟨hx, hb, hml, hown, hts⟩ (k_hasEnd l dC dI κ H.size σ x hk hI ) (cwV 1 hts gd_k_mean_227_k_hasEnd rfl rfl rfl dd_k_hasEnd ⟨Nat.le_of_ble_eq_true rfl, Nat.le_of_ble_eq_true rfl⟩) (preVy hP hK hD hE (ci := 3) (q0 := 6) rfl rfl) rfl rfl hl.1 rfl (lv_room (Nat.le_of_ble_eq_true rfl)) dX11_mean_5 ⟨Nat.le_of_ble_eq_true rfl, Nat.le_of_ble_eq_true rfl⟩) hD hS hA (fun z1_ τ2_ H locs hq hP hD hS => ?_)
  obtain ⟨hτ2_, q3_⟩ := hq
  rw [hτ2_] at hP hD
  have q3_ : (z1_.toInt = 1 ∧ 0 ≤ x.toInt ∧ x.toInt < (pI κ 2).toInt) ∨ z1_.toInt = 0 := q3_
  refine W.widen (k := 0) (n := 0) (Nat.le_of_ble_eq_true rfl) (Nat.le_of_ble_eq_true rfl) ?_
  refine lv_if_eq (tgt := 38) hx hb dX11_mean_8 rfl (fun c4_ => ?_) (fun c4_ => ?_)
  · have tc4_ := (show z1_.toInt = 0 from ti_eq rfl rg_11 c4_)
    refine lv_ldc2 (v := (-1)) hx hb hown (ho (.constantLong RX11 212 (-1)) (List.mem_of_getElem? (i := 1) rfl)) dX11_mean_38 ?_
    rw [hQ]
    exact W.lret (v := (-1)) hx hb hr (fun t ht hW => ⟨⟨(-1), σ, rfl, ⟨hI, trivial⟩, wEn_of hP (hK.sub [] rfl) hD ht hW⟩, hS.F ht⟩) hS.2.2 dX11_mean_41
  · have tc4_ := (show z1_.toInt ≠ 0 from ti_ne rfl rg_11 c4_)
    refine lv_iload_n hx hb dX11_mean_11 rfl (lv_at hl 3 rfl) ?_
    refine lv_if_lt (tgt := 38) hx hb dX11_mean_12 rfl (fun c5_ => ?_) (fun c5_ => ?_)
    · have tc5_ := (show z.toInt < 0 from ti_lt rfl rg_11 c5_)
      refine lv_ldc2 (v := (-1)) hx hb hown (ho (.constantLong RX11 212 (-1)) (List.mem_of_getElem? (i := 1) rfl)) dX11_mean_38 ?_
      rw [hQ]
      exact W.lret (v := (-1)) hx hb hr (fun t ht hW => ⟨⟨(-1), σ, rfl, ⟨hI, trivial⟩, wEn_of hP (hK.sub [] rfl) hD ht hW⟩, hS.F ht⟩) hS.2.2 dX11_mean_41
    · have tc5_ := (show 0 ≤ z.toInt from ti_nlt rfl rg_11 c5_)
      refine lv_iload_n hx hb dX11_mean_15 rfl (lv_at hl 3 rfl) ?_
      refine lv_iconst (v := 1) hx hb dX11_mean_16 rg_6 ?_
      refine lv_icmp_gt (tgt := 38) hx hb dX11_mean_17 rfl (fun c6_ => ?_) (fun c6_ => ?_)
      · have tc6_ := (show 1 < z.toInt from ti_lt rg_18 rfl c6_)
        refine lv_ldc2 (v := (-1)) hx hb hown (ho (.constantLong RX11 212 (-1)) (List.mem_of_getElem? (i := 1) rfl)) dX11_mean_38 ?_
        rw [hQ]
        exact W.lret (v := (-1)) hx hb hr (fun t ht hW => ⟨⟨(-1), σ, rfl, ⟨hI, trivial⟩, wEn_of hP (hK.sub [] rfl) hD ht hW⟩, hS.F ht⟩) hS.2.2 dX11_mean_41
      · have tc6_ := (show z.toInt ≤ 1 from ti_nlt rg_18 rfl c6_)
        refine lv_aload_n hx hb dX11_mean_20 rfl (lv_at hl 0 rfl) ?_
        refine va_get (D := (dC, dI)) (ci := 11) (v := .ref (kA κ 12)) (C := RX11) (T := TX11) (N := 17) hx hb hts hin11 hown hK hP 0 rfl rfl 5 (Nat.le_of_ble_eq_true rfl) (ho (.fieldLink RX11 33 "NearEnough" "sheets" "LNearEnough$Sheets;") (List.mem_of_getElem? (i := 2) rfl)) (fun _ h9 => h9) rfl dX11_mean_21 ?_
        have bσ_12 : 0 ≤ (σ.1 12).toInt ∧ (σ.1 12).toInt ≤ 40 := hI.1 12
        refine va_get (D := (dC, dI)) (ci := 7) (v := .int (σ.1 12)) (C := RX7) (T := TX7) (N := 3) hx hb hts hin7 hown hK hP 12 rfl rfl 2 (Nat.le_of_ble_eq_true rfl) (ho (.fieldLink RX11 111 "NearEnough$Sheets" "count" "I") (List.mem_of_getElem? (i := 3) rfl)) (fun _ h9 => h9) rfl dX11_mean_24 ?_
        refine lv_if_eq (tgt := 38) hx hb dX11_mean_27 rfl (fun c7_ => ?_) (fun c7_ => ?_)
        · have tc7_ := (show (σ.1 12).toInt = 0 from ti_eq rfl rg_11 c7_)
          refine lv_ldc2 (v := (-1)) hx hb hown (ho (.constantLong RX11 212 (-1)) (List.mem_of_getElem? (i := 1) rfl)) dX11_mean_38 ?_
          rw [hQ]
          exact W.lret (v := (-1)) hx hb hr (fun t ht hW => ⟨⟨(-1), σ, rfl, ⟨hI, trivial⟩, wEn_of hP (hK.sub [] rfl) hD ht hW⟩, hS.F ht⟩) hS.2.2 dX11_mean_41
        · have tc7_ := (show (σ.1 12).toInt ≠ 0 from ti_ne rfl rg_11 c7_)
          refine lv_aload_n hx hb dX11_mean_30 rfl (lv_at hl 0 rfl) ?_
          refine lv_iload_n hx hb dX11_mean_31 rfl (lv_at hl 2 rfl) ?_
          refine zy_i (va_runV (As := [.int y]) (rest := []) ⟨hx, hb, hml, hown, hts⟩ (k_stands l dC dI κ H.size σ y hk hI ) (cwV 1 hts gd_k_mean_209_k_stands rfl rfl rfl dd_k_stands ⟨Nat.le_of_ble_eq_true rfl, Nat.le_of_ble_eq_true rfl⟩) (preVy hP hK hD hE (ci := 11) (q0 := 0) rfl rfl) rfl rfl hl.1 rfl (lv_room (Nat.le_of_ble_eq_true rfl)) dX11_mean_32 ⟨Nat.le_of_ble_eq_true rfl, Nat.le_of_ble_eq_true rfl⟩) hD hS hA (fun z8_ τ9_ H locs hq hP hD hS => ?_)
          obtain ⟨hτ9_, q10_⟩ := hq
          have q10_ : z8_.toInt = 0 ∨ z8_.toInt = 1 := q10_
          refine W.widen (k := 0) (n := 0) (Nat.le_of_ble_eq_true rfl) (Nat.le_of_ble_eq_true rfl) ?_
          refine lv_if_ne (tgt := 42) hx hb dX11_mean_35 rfl (fun c11_ => ?_) (fun c11_ => ?_)
          · have tc11_ := (show z8_.toInt ≠ 0 from ti_ne rfl rg_11 c11_)
            refine lv_lconst (v := 0) hx hb dX11_mean_42 (by decide) ?_
            refine lv_lstore (lv' := [(4, .long 0), (0, .ref (kA κ 0)), (1, .int x), (2, .int y), (3, .int z)]) hx hb dX11_mean_43 hl (Nat.le_of_ble_eq_true rfl) rfl (fun ls hl => ?_)
            refine lv_iconst (v := 0) hx hb dX11_mean_45 rg_0 ?_
            refine lv_istore (lv' := [(6, .int 0), (4, .long 0), (0, .ref (kA κ 0)), (1, .int x), (2, .int y), (3, .int z)]) hx hb dX11_mean_46 hl (Nat.le_of_ble_eq_true rfl) rfl (fun ls hl => ?_)
            have pt48_ : ∀ (n48_ : Nat) (σ48_ : MS) (v4_ : Int64) (v6_ : Int32) (H : Heap) (locs : List Loc) (ls : Array Slot), (40 - v6_.toInt).toNat < n48_ → CInv σ48_ → (0 ≤ v6_.toInt) → va_P (dC, dI) vwCl (cW κ σ48_) H → va_D A (cW κ σ48_) → va_S A s.heap H locs → lv_has ls 8 [(4, .long v4_), (6, .int v6_), (0, .ref (kA κ 0)), (1, .int x), (3, .int z)] → W p l e (headSpec vs_k_mean rm_k_mean).room s m #[Value.ref (kA κ 0), Value.int x, Value.int y, Value.int z] below meth c H locs 0 0 Q (F0 m 48 ls []) := by
              intro n48_
              induction n48_ with
              | zero => intro σ48_ v4_ v6_ H locs ls hn48_ hIσ48_ hf48_0_ hP hD hS hl; exact absurd hn48_ (Nat.not_lt_zero _)
              | succ n48_ ih48_ =>
                intro σ48_ v4_ v6_ H locs ls hn48_ hIσ48_ hf48_0_ hP hD hS hl
                refine lv_iload hx hb dX11_mean_48 (lv_at hl 1 rfl) ?_
                refine lv_aload_n hx hb dX11_mean_50 rfl (lv_at hl 2 rfl) ?_
                refine va_get (D := (dC, dI)) (ci := 11) (v := .ref (kA κ 12)) (C := RX11) (T := TX11) (N := 17) hx hb hts hin11 hown hK hP 0 rfl rfl 5 (Nat.le_of_ble_eq_true rfl) (ho (.fieldLink RX11 33 "NearEnough" "sheets" "LNearEnough$Sheets;") (List.mem_of_getElem? (i := 2) rfl)) (fun _ h9 => h9) rfl dX11_mean_51 ?_
                have bσ48__12 : 0 ≤ (σ48_.1 12).toInt ∧ (σ48_.1 12).toInt ≤ 40 := hIσ48_.1 12
                refine va_get (D := (dC, dI)) (ci := 7) (v := .int (σ48_.1 12)) (C := RX7) (T := TX7) (N := 3) hx hb hts hin7 hown hK hP 12 rfl rfl 2 (Nat.le_of_ble_eq_true rfl) (ho (.fieldLink RX11 111 "NearEnough$Sheets" "count" "I") (List.mem_of_getElem? (i := 3) rfl)) (fun _ h9 => h9) rfl dX11_mean_54 ?_
                refine lv_icmp_ge (tgt := 81) hx hb dX11_mean_57 rfl (fun c12_ => ?_) (fun c12_ => ?_)
                · have tc12_ := (show (σ48_.1 12).toInt ≤ v6_.toInt from ti_le rfl rfl c12_)
                  refine lv_lconst (v := 1) hx hb dX11_mean_81 (by decide) ?_
                  refine lv_lload hx hb dX11_mean_82 (lv_at hl 0 rfl) ?_
                  refine lv_aload_n hx hb dX11_mean_84 rfl (lv_at hl 2 rfl) ?_
                  refine va_get (D := (dC, dI)) (ci := 11) (v := .ref (kA κ 12)) (C := RX11) (T := TX11) (N := 17) hx hb hts hin11 hown hK hP 0 rfl rfl 5 (Nat.le_of_ble_eq_true rfl) (ho (.fieldLink RX11 33 "NearEnough" "sheets" "LNearEnough$Sheets;") (List.mem_of_getElem? (i := 2) rfl)) (fun _ h9 => h9) rfl dX11_mean_85 ?_
                  have bσ48__12 : 0 ≤ (σ48_.1 12).toInt ∧ (σ48_.1 12).toInt ≤ 40 := hIσ48_.1 12
                  refine va_get (D := (dC, dI)) (ci := 7) (v := .int (σ48_.1 12)) (C := RX7) (T := TX7) (N := 3) hx hb hts hin7 hown hK hP 12 rfl rfl 2 (Nat.le_of_ble_eq_true rfl) (ho (.fieldLink RX11 111 "NearEnough$Sheets" "count" "I") (List.mem_of_getElem? (i := 3) rfl)) (fun _ h9 => h9) rfl dX11_mean_88 ?_
                  refine lv_i2l hx hb dX11_mean_91 rfl ?_
                  refine lv_topl (fun y13_ ey13_ => ?_)
                  refine zs_l (va_runS (As := [.long v4_, .long y13_]) (rest := [.long 1]) ⟨hx, hb, hml, hown, hts⟩ (k_gcd l dC dI v4_ y13_  H.size) (va_cwS 2 hts gd_k_mean_257_k_gcd rfl rfl rfl dd_k_gcd ⟨Nat.le_of_ble_eq_true rfl, Nat.le_of_ble_eq_true rfl⟩) (preS (A := A) empP (hK.sub (tys' := []) [] rfl) empD hE.x) rfl rfl hl.1 rfl (lv_room (Nat.le_of_ble_eq_true rfl)) dX11_mean_92 ⟨Nat.le_of_ble_eq_true rfl, Nat.le_of_ble_eq_true rfl⟩) hP hD hS hA (fun y14_ H locs hq hP hD hS => ?_)
                  have q15_ : True := hq
                  refine W.widen (k := 0) (n := 0) (Nat.le_of_ble_eq_true rfl) (Nat.le_of_ble_eq_true rfl) ?_
                  refine va_mmax_long hx hb (hml.trans hl.1.symm) hown (ho (.methodLink RX11 250 Lib.MathLoose.max_long.x) (List.mem_of_getElem? (i := 4) rfl)) (ho (.static Lib.MathLoose.max_long.x) (List.mem_of_getElem? (i := 5) rfl)) (ho (.initialized "java/lang/Math") (List.mem_of_getElem? (i := 6) rfl)) (ho (.code Lib.MathLoose.max_long.x Lib.MathLoose.max_long.code 4 (some .long)) (List.mem_of_getElem? (i := 7) rfl)) (Nat.le_of_ble_eq_true rfl) (Nat.le_of_ble_eq_true rfl) (Nat.le_of_ble_eq_true rfl) (Nat.le_of_ble_eq_true rfl) dX11_mean_95 ?_
                  refine lv_topl (fun y16_ ey16_ => ?_)
                  refine lv_lstore (lv' := [(6, .long y16_), (4, .long v4_), (0, .ref (kA κ 0)), (1, .int x), (3, .int z)]) hx hb dX11_mean_98 hl (Nat.le_of_ble_eq_true rfl) rfl (fun ls hl => ?_)
                  refine lv_iload_n hx hb dX11_mean_100 rfl (lv_at hl 4 rfl) ?_
                  refine lv_if_ne (tgt := 109) hx hb dX11_mean_101 rfl (fun c17_ => ?_) (fun c17_ => ?_)
                  · have tc17_ := (show z.toInt ≠ 0 from ti_ne rfl rg_11 c17_)
                    refine lv_aload_n hx hb dX11_mean_109 rfl (lv_at hl 2 rfl) ?_
                    refine va_get (D := (dC, dI)) (ci := 11) (v := .ref (kA κ 12)) (C := RX11) (T := TX11) (N := 17) hx hb hts hin11 hown hK hP 0 rfl rfl 5 (Nat.le_of_ble_eq_true rfl) (ho (.fieldLink RX11 33 "NearEnough" "sheets" "LNearEnough$Sheets;") (List.mem_of_getElem? (i := 2) rfl)) (fun _ h9 => h9) rfl dX11_mean_110 ?_
                    have bσ48__12 : 0 ≤ (σ48_.1 12).toInt ∧ (σ48_.1 12).toInt ≤ 40 := hIσ48_.1 12
                    refine va_get (D := (dC, dI)) (ci := 7) (v := .int (σ48_.1 12)) (C := RX7) (T := TX7) (N := 3) hx hb hts hin7 hown hK hP 12 rfl rfl 2 (Nat.le_of_ble_eq_true rfl) (ho (.fieldLink RX11 111 "NearEnough$Sheets" "count" "I") (List.mem_of_getElem? (i := 3) rfl)) (fun _ h9 => h9) rfl dX11_mean_113 ?_
                    refine lv_i2l hx hb dX11_mean_116 rfl ?_
                    refine lv_topl (fun y18_ ey18_ => ?_)
                    refine lv_lload hx hb dX11_mean_117 (lv_at hl 0 rfl) ?_
                    refine lv_ldiv hx hb dX11_mean_119 (lmax_ne ey16_) ?_
                    refine lv_topl (fun y19_ ey19_ => ?_)
                    rw [hQ]
                    exact W.lret (v := y19_) hx hb hr (fun t ht hW => ⟨⟨y19_, σ48_, rfl, ⟨hIσ48_, trivial⟩, wEn_of hP (hK.sub [] rfl) hD ht hW⟩, hS.F ht⟩) hS.2.2 dX11_mean_120
                  · have tc17_ := (show z.toInt = 0 from ti_eq rfl rg_11 c17_)
                    refine lv_lload hx hb dX11_mean_104 (lv_at hl 1 rfl) ?_
                    refine lv_goto (tgt := 117) hx hb dX11_mean_106 rfl ?_
                    refine lv_lload hx hb dX11_mean_117 (lv_at hl 0 rfl) ?_
                    refine lv_ldiv hx hb dX11_mean_119 (lmax_ne ey16_) ?_
                    refine lv_topl (fun y20_ ey20_ => ?_)
                    rw [hQ]
                    exact W.lret (v := y20_) hx hb hr (fun t ht hW => ⟨⟨y20_, σ48_, rfl, ⟨hIσ48_, trivial⟩, wEn_of hP (hK.sub [] rfl) hD ht hW⟩, hS.F ht⟩) hS.2.2 dX11_mean_120
                · have tc12_ := (show v6_.toInt < (σ48_.1 12).toInt from ti_nle rfl rfl c12_)
                  refine lv_lload hx hb dX11_mean_60 (lv_at hl 0 rfl) ?_
                  refine lv_aload_n hx hb dX11_mean_62 rfl (lv_at hl 2 rfl) ?_
                  refine lv_iload_n hx hb dX11_mean_63 rfl (lv_at hl 3 rfl) ?_
                  refine lv_iload hx hb dX11_mean_64 (lv_at hl 1 rfl) ?_
                  have o1 : 0 ≤ x.toInt := by omega
                  have o2 : x.toInt < (pI κ 2).toInt := by omega
                  have o3 : 0 ≤ v6_.toInt := by omega
                  have o4 : v6_.toInt ≤ 40 := by omega
                  refine zy_l (va_runV (As := [.int x, .int v6_]) (rest := [.long v4_]) ⟨hx, hb, hml, hown, hts⟩ (k_errorOn l dC dI κ H.size σ48_ x v6_ hk hIσ48_ ⟨o1, o2⟩ ⟨o3, o4⟩) (cwV 2 hts gd_k_mean_241_k_errorOn rfl rfl rfl dd_k_errorOn ⟨Nat.le_of_ble_eq_true rfl, Nat.le_of_ble_eq_true rfl⟩) (preVy hP hK hD hE (ci := 11) (q0 := 0) rfl rfl) rfl rfl hl.1 rfl (lv_room (Nat.le_of_ble_eq_true rfl)) dX11_mean_66 ⟨Nat.le_of_ble_eq_true rfl, Nat.le_of_ble_eq_true rfl⟩) hD hS hA (fun y21_ τ22_ H locs hq hP hD hS => ?_)
                  obtain ⟨hτ22_, q23_⟩ := hq
                  refine W.widen (k := 0) (n := 0) (Nat.le_of_ble_eq_true rfl) (Nat.le_of_ble_eq_true rfl) ?_
                  refine va_mabs_long hx hb (hml.trans hl.1.symm) hown (ho (.methodLink RX11 244 Lib.MathLoose.abs_long.x) (List.mem_of_getElem? (i := 8) rfl)) (ho (.static Lib.MathLoose.abs_long.x) (List.mem_of_getElem? (i := 9) rfl)) (ho (.initialized "java/lang/Math") (List.mem_of_getElem? (i := 6) rfl)) (ho (.code Lib.MathLoose.abs_long.x Lib.MathLoose.abs_long.code 2 (some .long)) (List.mem_of_getElem? (i := 10) rfl)) (Nat.le_of_ble_eq_true rfl) (Nat.le_of_ble_eq_true rfl) (Nat.le_of_ble_eq_true rfl) (Nat.le_of_ble_eq_true rfl) dX11_mean_69 ?_
                  refine lv_topl (fun y24_ ey24_ => ?_)
                  refine lv_ladd hx hb dX11_mean_72 ?_
                  refine lv_topl (fun y25_ ey25_ => ?_)
                  refine lv_lstore (lv' := [(4, .long y25_), (6, .int v6_), (0, .ref (kA κ 0)), (1, .int x), (3, .int z)]) hx hb dX11_mean_73 hl (Nat.le_of_ble_eq_true rfl) rfl (fun ls hl => ?_)
                  obtain ⟨z26_, ez26_⟩ : ∃ y : Int32, y = v6_ + 1 := ⟨_, rfl⟩
                  have o5 : -2147483648 ≤ v6_.toInt + 1 := by omega
                  have o6 : v6_.toInt + 1 ≤ 2147483647 := by omega
                  have tz26_ := ti_add ez26_ rfl rg_18 o5 o6
                  refine lv_iinc (v := z26_) (lv' := [(6, .int z26_), (4, .long y25_), (0, .ref (kA κ 0)), (1, .int x), (3, .int z)]) hx hb dX11_mean_75 hl (k := 1) rfl (iincp ez26_ rg_6) (Nat.le_of_ble_eq_true rfl) rfl (fun ls hl => ?_)
                  refine lv_goto (tgt := 48) hx hb dX11_mean_78 rfl ?_
                  have o7 : (40 - z26_.toInt).toNat < n48_ := by omega
                  have o8 : 0 ≤ z26_.toInt := by omega
                  exact ih48_ τ22_ y25_ z26_ _ _ _ o7 hτ22_ o8 hP hD hS (lv_sub hl [1, 0, 2, 3, 4] rfl)
            have kk27_ : (0 : Int32).toInt = 0 := rg_11
            have o9 : 0 ≤ (0 : Int32).toInt := by omega
            exact pt48_ _ τ9_ 0 0 _ _ _ (Nat.lt_succ_self _) hτ9_ o9 hP hD hS (lv_sub hl [1, 0, 2, 3, 5] rfl)
          · have tc11_ := (show z8_.toInt = 0 from ti_eq rfl rg_11 c11_)
            refine lv_ldc2 (v := (-1)) hx hb hown (ho (.constantLong RX11 212 (-1)) (List.mem_of_getElem? (i := 1) rfl)) dX11_mean_38 ?_
            rw [hQ]
            exact W.lret (v := (-1)) hx hb hr (fun t ht hW => ⟨⟨(-1), τ9_, rfl, ⟨hτ9_, trivial⟩, wEn_of hP (hK.sub [] rfl) hD ht hW⟩, hS.F ht⟩) hS.2.2 dX11_mean_41
def ow_k_saved : List Cond := [.fieldLink RX11 40 "NearEnough" "changes" "LNearEnough$Changes;"]
def vs_k_saved : List Cond := .code yX11_saved cX11_saved 2 (some .int) :: (ow_k_saved ++ (([.methodLink RX11 202 yX0_take, .instanceMethod yX0_take, .selects RX0 yX0_take yX0_take, .initialized RX0] : List Cond) ++ (vs_k_take ++ (([.methodLink RX11 260 yX0_savedBy, .instanceMethod yX0_savedBy, .selects RX0 yX0_savedBy yX0_savedBy, .initialized RX0] : List Cond) ++ (vs_k_savedBy ++ (wsX110))))))
theorem vg_k_saved : vs_k_saved.all goodWord = true := by decide +kernel
theorem dd_k_saved : yX11_saved.cls = RX11 ∧ yX11_saved.cls ≠ "java/lang/invoke/MethodHandle" ∧ yX11_saved.cls ≠ "java/lang/invoke/VarHandle" ∧ (parseMethodDescriptor yX11_saved.desc).map (fun d => d.parameters.length) = some 1 := by decide +kernel
def rm_k_saved : Room := { frames := 2, cells := 0, slots := 0, locals := 45 }
theorem gd_k_saved_202_k_take : GoodIn vs_k_saved (wsV RX11 202 RX0 yX0_take vs_k_take) := goodIn_app (goodIn_sub (fun w h => (List.mem_cons_of_mem _ (List.mem_append_right _ (List.mem_append_left _ h)))) (by decide +kernel)) (goodIn_sub (fun w h => (List.mem_cons_of_mem _ (List.mem_append_right _ (List.mem_append_right _ (List.mem_append_left _ h))))) vg_k_take)
theorem gd_k_saved_260_k_savedBy : GoodIn vs_k_saved (wsV RX11 260 RX0 yX0_savedBy vs_k_savedBy) := goodIn_app (goodIn_sub (fun w h => (List.mem_cons_of_mem _ (List.mem_append_right _ (List.mem_append_right _ (List.mem_append_right _ (List.mem_append_left _ h)))))) (by decide +kernel)) (goodIn_sub (fun w h => (List.mem_cons_of_mem _ (List.mem_append_right _ (List.mem_append_right _ (List.mem_append_right _ (List.mem_append_right _ (List.mem_append_left _ h))))))) vg_k_savedBy)
set_option maxHeartbeats 4000000 in
set_option maxRecDepth 100000 in
theorem k_saved (l : Launch) (dC : Nat → ClassId) (dI : Nat → Nat → Nat) (κ : CE) (sz : Nat) (σ : MS) (x : Int32) (hk : PInv κ) (hI : CInv σ)  : Met l yX11_saved vs_k_saved rm_k_saved (va_Pc [.ref (kA κ 0), .int x] (wSy dC dI (cW κ σ) (cT κ) sz)) (va_Qi (fun (r : Int32) (τ : MS) => CInv τ ∧ True) (fun (τ : MS) => wEn dC dI (va_A (cW κ σ) sz) (cW κ τ) []) (va_A (cW κ σ) sz)) 0 0 (va_A (cW κ σ) sz) := by
  refine Met.ofW (cc := cX11_saved) (maxL := 2) (ret := (some .int)) (by decide +kernel) rfl ?_
  intro p e s m args below meth c s₁ B hml hv
  obtain ⟨rfl, hsz, hP, hK, hD0, hE⟩ := hv
  have hx := B.exec
  have hb := B.bytes
  have hr := B.returns
  have hts := atoms_spec (ws := vs_k_saved) B.pre
  have hown : s.vm.findClass RX11 = some m.cls := findClass_of_methodNamed B.named
  have hlocks := B.notSynchronized
  subst hsz
  have hD := hD0.self (sz := s.heap.size)
  generalize hAe : va_A (cW κ σ) s.heap.size = A at hD ⊢
  have hA : ∀ q : Nat, s.heap.size ≤ q → A q := fun q h => by rw [← hAe]; exact Or.inr h
  have hl := lv_entry ([.ref (kA κ 0), .int x]) (n := 2) (Nat.le_of_ble_eq_true rfl)
  rw [lg_entry_eq]
  generalize (lg_sl ([.ref (kA κ 0), .int x]) ++ List.replicate (2 - (lg_sl ([.ref (kA κ 0), .int x])).length) Slot.unset).toArray = ls at hl ⊢
  have hl : lv_has ls 2 [(0, .ref (kA κ 0)), (1, .int x)] := hl
  have ho := fun w (h : w ∈ ow_k_saved) => hts w (List.mem_cons_of_mem _ (List.mem_append_left _ h))
  have hin11 : ∀ w ∈ u_ws RX11 TX11 17, w ∈ vs_k_saved := fun w h => (List.mem_cons_of_mem _ (List.mem_append_right _ (List.mem_append_right _ (List.mem_append_right _ (List.mem_append_right _ (List.mem_append_right _ h))))))
  refine zQ (fun Q hQ => ?_)
  refine zH (A := A) (ws := (cW κ σ)) (fun H hP hS => ?_) hP
  have hk0 := hk.1
  have hk1 := hk.2.1
  have hk2 := hk.2.2.1
  refine lv_aload_n hx hb dX11_saved_0 rfl (lv_at hl 0 rfl) ?_
  refine va_get (D := (dC, dI)) (ci := 11) (v := .ref (kA κ 15)) (C := RX11) (T := TX11) (N := 17) hx hb hts hin11 hown hK hP 0 rfl rfl 6 (Nat.le_of_ble_eq_true rfl) (ho (.fieldLink RX11 40 "NearEnough" "changes" "LNearEnough$Changes;") (List.mem_of_getElem? (i := 0) rfl)) (fun _ h9 => h9) rfl dX11_saved_1 ?_
  refine lv_iload_n hx hb dX11_saved_4 rfl (lv_at hl 1 rfl) ?_
  refine zy_i (va_runV (As := [.int x]) (rest := []) ⟨hx, hb, hml, hown, hts⟩ (k_take l dC dI κ H.size σ x hk hI ) (cwV 1 hts gd_k_saved_202_k_take rfl rfl rfl dd_k_take ⟨Nat.le_of_ble_eq_true rfl, Nat.le_of_ble_eq_true rfl⟩) (preVy hP hK hD hE (ci := 0) (q0 := 15) rfl rfl) rfl rfl hl.1 rfl (lv_room (Nat.le_of_ble_eq_true rfl)) dX11_saved_5 ⟨Nat.le_of_ble_eq_true rfl, Nat.le_of_ble_eq_true rfl⟩) hD hS hA (fun z1_ τ2_ H locs hq hP hD hS => ?_)
  obtain ⟨hτ2_, q3_⟩ := hq
  have q3_ : z1_.toInt = 0 ∨ z1_.toInt = 1 := q3_
  refine W.widen (k := 0) (n := 0) (Nat.le_of_ble_eq_true rfl) (Nat.le_of_ble_eq_true rfl) ?_
  refine lv_if_eq (tgt := 22) hx hb dX11_saved_8 rfl (fun c4_ => ?_) (fun c4_ => ?_)
  · have tc4_ := (show z1_.toInt = 0 from ti_eq rfl rg_11 c4_)
    refine lv_iconst (v := (-1)) hx hb dX11_saved_22 rg_53 ?_
    have kk5_ : ((-1) : Int32).toInt = (-1) := rg_489
    rw [hQ]
    exact W.iret (v := (-1)) hx hb hr (fun t ht hW => ⟨⟨(-1), τ2_, rfl, ⟨hτ2_, trivial⟩, wEn_of hP (hK.sub [] rfl) hD ht hW⟩, hS.F ht⟩) hS.2.2 dX11_saved_23
  · have tc4_ := (show z1_.toInt ≠ 0 from ti_ne rfl rg_11 c4_)
    refine lv_aload_n hx hb dX11_saved_11 rfl (lv_at hl 0 rfl) ?_
    refine va_get (D := (dC, dI)) (ci := 11) (v := .ref (kA κ 15)) (C := RX11) (T := TX11) (N := 17) hx hb hts hin11 hown hK hP 0 rfl rfl 6 (Nat.le_of_ble_eq_true rfl) (ho (.fieldLink RX11 40 "NearEnough" "changes" "LNearEnough$Changes;") (List.mem_of_getElem? (i := 0) rfl)) (fun _ h9 => h9) rfl dX11_saved_12 ?_
    refine lv_iload_n hx hb dX11_saved_15 rfl (lv_at hl 1 rfl) ?_
    refine zy_i (va_runV (As := [.int x]) (rest := []) ⟨hx, hb, hml, hown, hts⟩ (k_savedBy l dC dI κ H.size τ2_ x hk hτ2_ ) (cwV 1 hts gd_k_saved_260_k_savedBy rfl rfl rfl dd_k_savedBy ⟨Nat.le_of_ble_eq_true rfl, Nat.le_of_ble_eq_true rfl⟩) (preVy hP hK hD hE (ci := 0) (q0 := 15) rfl rfl) rfl rfl hl.1 rfl (lv_room (Nat.le_of_ble_eq_true rfl)) dX11_saved_16 ⟨Nat.le_of_ble_eq_true rfl, Nat.le_of_ble_eq_true rfl⟩) hD hS hA (fun z6_ τ7_ H locs hq hP hD hS => ?_)
    obtain ⟨hτ7_, q8_⟩ := hq
    rw [hτ7_] at hP hD
    refine W.widen (k := 0) (n := 0) (Nat.le_of_ble_eq_true rfl) (Nat.le_of_ble_eq_true rfl) ?_
    refine lv_goto (tgt := 23) hx hb dX11_saved_19 rfl ?_
    rw [hQ]
    exact W.iret (v := z6_) hx hb hr (fun t ht hW => ⟨⟨z6_, τ2_, rfl, ⟨hτ2_, trivial⟩, wEn_of hP (hK.sub [] rfl) hD ht hW⟩, hS.F ht⟩) hS.2.2 dX11_saved_23
def ow_k_ticksOf : List Cond := [.fieldLink RX11 26 "NearEnough" "told" "LNearEnough$Program;", .fieldLink RX11 138 "NearEnough$Program" "steps" "[LNearEnough$Step;", .fieldLink RX11 40 "NearEnough" "changes" "LNearEnough$Changes;", .fieldLink RX11 269 "NearEnough$Step" "row" "LNearEnough$Row;", .fieldLink RX11 191 "NearEnough$Step" "kind" "I", .fieldLink RX11 177 "NearEnough$Row" "count" "I"]
def vs_k_ticksOf : List Cond := .code yX11_ticksOf cX11_ticksOf 3 (some .int) :: (ow_k_ticksOf ++ (([.methodLink RX11 266 yX0_kindAt, .instanceMethod yX0_kindAt, .selects RX0 yX0_kindAt yX0_kindAt, .initialized RX0] : List Cond) ++ (vs_k_kindAt ++ (([.methodLink RX11 273 yX0_takes, .instanceMethod yX0_takes, .selects RX0 yX0_takes yX0_takes, .initialized RX0] : List Cond) ++ (vs_k_takes ++ (wsX30 ++ (wsX50 ++ (wsX90 ++ (wsX110)))))))))
theorem vg_k_ticksOf : vs_k_ticksOf.all goodWord = true := by decide +kernel
theorem dd_k_ticksOf : yX11_ticksOf.cls = RX11 ∧ yX11_ticksOf.cls ≠ "java/lang/invoke/MethodHandle" ∧ yX11_ticksOf.cls ≠ "java/lang/invoke/VarHandle" ∧ (parseMethodDescriptor yX11_ticksOf.desc).map (fun d => d.parameters.length) = some 1 := by decide +kernel
def rm_k_ticksOf : Room := { frames := 2, cells := 0, slots := 0, locals := 48 }
theorem gd_k_ticksOf_266_k_kindAt : GoodIn vs_k_ticksOf (wsV RX11 266 RX0 yX0_kindAt vs_k_kindAt) := goodIn_app (goodIn_sub (fun w h => (List.mem_cons_of_mem _ (List.mem_append_right _ (List.mem_append_left _ h)))) (by decide +kernel)) (goodIn_sub (fun w h => (List.mem_cons_of_mem _ (List.mem_append_right _ (List.mem_append_right _ (List.mem_append_left _ h))))) vg_k_kindAt)
theorem gd_k_ticksOf_273_k_takes : GoodIn vs_k_ticksOf (wsV RX11 273 RX0 yX0_takes vs_k_takes) := goodIn_app (goodIn_sub (fun w h => (List.mem_cons_of_mem _ (List.mem_append_right _ (List.mem_append_right _ (List.mem_append_right _ (List.mem_append_left _ h)))))) (by decide +kernel)) (goodIn_sub (fun w h => (List.mem_cons_of_mem _ (List.mem_append_right _ (List.mem_append_right _ (List.mem_append_right _ (List.mem_append_right _ (List.mem_append_left _ h))))))) vg_k_takes)
set_option maxHeartbeats 4000000 in
set_option maxRecDepth 100000 in
theorem k_ticksOf (l : Launch) (dC : Nat → ClassId) (dI : Nat → Nat → Nat) (κ : CE) (sz : Nat) (σ : MS) (x : Int32) (hk : PInv κ) (hI : CInv σ) (hx0 : 0 ≤ x.toInt ∧ x.toInt < (pI κ 1).toInt) : Met l yX11_ticksOf vs_k_ticksOf rm_k_ticksOf (va_Pc [.ref (kA κ 0), .int x] (wSy dC dI (cW κ σ) (cT κ) sz)) (va_Qi (fun (r : Int32) (τ : MS) => τ = σ ∧ True) (fun (τ : MS) => wEn dC dI (va_A (cW κ σ) sz) (cW κ τ) []) (va_A (cW κ σ) sz)) 0 0 (va_A (cW κ σ) sz) := by
  refine Met.ofW (cc := cX11_ticksOf) (maxL := 3) (ret := (some .int)) (by decide +kernel) rfl ?_
  intro p e s m args below meth c s₁ B hml hv
  obtain ⟨rfl, hsz, hP, hK, hD0, hE⟩ := hv
  have hx := B.exec
  have hb := B.bytes
  have hr := B.returns
  have hts := atoms_spec (ws := vs_k_ticksOf) B.pre
  have hown : s.vm.findClass RX11 = some m.cls := findClass_of_methodNamed B.named
  have hlocks := B.notSynchronized
  subst hsz
  have hD := hD0.self (sz := s.heap.size)
  generalize hAe : va_A (cW κ σ) s.heap.size = A at hD ⊢
  have hA : ∀ q : Nat, s.heap.size ≤ q → A q := fun q h => by rw [← hAe]; exact Or.inr h
  have hl := lv_entry ([.ref (kA κ 0), .int x]) (n := 3) (Nat.le_of_ble_eq_true rfl)
  rw [lg_entry_eq]
  generalize (lg_sl ([.ref (kA κ 0), .int x]) ++ List.replicate (3 - (lg_sl ([.ref (kA κ 0), .int x])).length) Slot.unset).toArray = ls at hl ⊢
  have hl : lv_has ls 3 [(0, .ref (kA κ 0)), (1, .int x)] := hl
  have ho := fun w (h : w ∈ ow_k_ticksOf) => hts w (List.mem_cons_of_mem _ (List.mem_append_left _ h))
  have hin3 : ∀ w ∈ u_ws RX3 TX3 8, w ∈ vs_k_ticksOf := fun w h => (List.mem_cons_of_mem _ (List.mem_append_right _ (List.mem_append_right _ (List.mem_append_right _ (List.mem_append_right _ (List.mem_append_right _ (List.mem_append_left _ h)))))))
  have hin5 : ∀ w ∈ u_ws RX5 TX5 5, w ∈ vs_k_ticksOf := fun w h => (List.mem_cons_of_mem _ (List.mem_append_right _ (List.mem_append_right _ (List.mem_append_right _ (List.mem_append_right _ (List.mem_append_right _ (List.mem_append_right _ (List.mem_append_left _ h))))))))
  have hin9 : ∀ w ∈ u_ws RX9 TX9 11, w ∈ vs_k_ticksOf := fun w h => (List.mem_cons_of_mem _ (List.mem_append_right _ (List.mem_append_right _ (List.mem_append_right _ (List.mem_append_right _ (List.mem_append_right _ (List.mem_append_right _ (List.mem_append_right _ (List.mem_append_left _ h)))))))))
  have hin11 : ∀ w ∈ u_ws RX11 TX11 17, w ∈ vs_k_ticksOf := fun w h => (List.mem_cons_of_mem _ (List.mem_append_right _ (List.mem_append_right _ (List.mem_append_right _ (List.mem_append_right _ (List.mem_append_right _ (List.mem_append_right _ (List.mem_append_right _ (List.mem_append_right _ h)))))))))
  refine zQ (fun Q hQ => ?_)
  refine zH (A := A) (ws := (cW κ σ)) (fun H hP hS => ?_) hP
  have hk0 := hk.1
  have hk1 := hk.2.1
  have hk2 := hk.2.2.1
  refine lv_aload_n hx hb dX11_ticksOf_0 rfl (lv_at hl 0 rfl) ?_
  refine va_get (D := (dC, dI)) (ci := 11) (v := .ref (kA κ 6)) (C := RX11) (T := TX11) (N := 17) hx hb hts hin11 hown hK hP 0 rfl rfl 4 (Nat.le_of_ble_eq_true rfl) (ho (.fieldLink RX11 26 "NearEnough" "told" "LNearEnough$Program;") (List.mem_of_getElem? (i := 0) rfl)) (fun _ h9 => h9) rfl dX11_ticksOf_1 ?_
  refine va_get (D := (dC, dI)) (ci := 3) (v := .ref (kA κ 8)) (C := RX3) (T := TX3) (N := 8) hx hb hts hin3 hown hK hP 6 rfl rfl 1 (Nat.le_of_ble_eq_true rfl) (ho (.fieldLink RX11 138 "NearEnough$Program" "steps" "[LNearEnough$Step;") (List.mem_of_getElem? (i := 1) rfl)) (fun _ h9 => h9) rfl dX11_ticksOf_4 ?_
  refine lv_iload_n hx hb dX11_ticksOf_7 rfl (lv_at hl 1 rfl) ?_
  have o1 : 0 ≤ x.toInt := by omega
  have o2 : x.toInt < ((12 : Nat) : Int) := by omega
  refine va_aldq hx hb hK hP 8 6 rfl rfl (ti_inx o1 o2) dX11_ticksOf_8 ?_
  have o3 : x.toInt < (pI κ 1).toInt := by omega
  obtain ⟨a1_, t2_, ea3_, ga4_⟩ := hk.st (x := x) o1 o3
  refine zv (v := .ref a1_) (by rw [ea3_]; rfl) ?_
  refine lv_astore_n (lv' := [(2, .ref a1_), (0, .ref (kA κ 0)), (1, .int x)]) hx hb dX11_ticksOf_9 rfl hl (Nat.le_of_ble_eq_true rfl) rfl (fun ls hl => ?_)
  refine lv_aload_n hx hb dX11_ticksOf_10 rfl (lv_at hl 1 rfl) ?_
  refine va_get (D := (dC, dI)) (ci := 11) (v := .ref (kA κ 15)) (C := RX11) (T := TX11) (N := 17) hx hb hts hin11 hown hK hP 0 rfl rfl 6 (Nat.le_of_ble_eq_true rfl) (ho (.fieldLink RX11 40 "NearEnough" "changes" "LNearEnough$Changes;") (List.mem_of_getElem? (i := 2) rfl)) (fun _ h9 => h9) rfl dX11_ticksOf_11 ?_
  refine lv_iload_n hx hb dX11_ticksOf_14 rfl (lv_at hl 2 rfl) ?_
  have o4 : x.toInt ≤ 11 := by omega
  refine zy_i (va_runV (As := [.int x]) (rest := []) ⟨hx, hb, hml, hown, hts⟩ (k_kindAt l dC dI κ H.size σ x hk hI ⟨o1, o4⟩) (cwV 1 hts gd_k_ticksOf_266_k_kindAt rfl rfl rfl dd_k_kindAt ⟨Nat.le_of_ble_eq_true rfl, Nat.le_of_ble_eq_true rfl⟩) (preVy hP hK hD hE (ci := 0) (q0 := 15) rfl rfl) rfl rfl hl.1 rfl (lv_room (Nat.le_of_ble_eq_true rfl)) dX11_ticksOf_15 ⟨Nat.le_of_ble_eq_true rfl, Nat.le_of_ble_eq_true rfl⟩) hD hS hA (fun z5_ τ6_ H locs hq hP hD hS => ?_)
  obtain ⟨hτ6_, q7_⟩ := hq
  rw [hτ6_] at hP hD
  refine W.widen (k := 0) (n := 0) (Nat.le_of_ble_eq_true rfl) (Nat.le_of_ble_eq_true rfl) ?_
  refine lv_iconst (v := 4) hx hb dX11_ticksOf_18 rg_31 ?_
  refine lv_icmp_ne (tgt := 24) hx hb dX11_ticksOf_19 rfl (fun c8_ => ?_) (fun c8_ => ?_)
  · have tc8_ := (show z5_.toInt ≠ 4 from ti_ne rfl rg_32 c8_)
    refine lv_aload_n hx hb dX11_ticksOf_24 rfl (lv_at hl 0 rfl) ?_
    obtain ⟨kp9_, hkp9_⟩ := cpl (κ := κ) (σ := σ) ga4_.1 ga4_.2.1
    refine va_get (D := (dC, dI)) (ci := 9) (v := va_rf t2_.2.2) (C := RX9) (T := TX9) (N := 11) hx hb hts hin9 hown hK hP kp9_ hkp9_ rfl 2 (Nat.le_of_ble_eq_true rfl) (ho (.fieldLink RX11 269 "NearEnough$Step" "row" "LNearEnough$Row;") (List.mem_of_getElem? (i := 3) rfl)) (fun _ h9 => h9) rfl dX11_ticksOf_25 ?_
    rcases er11_ : t2_.2.2 with _ | r10_
    · refine zv (v := .null) rfl ?_
      have na1_ := er11_
      refine lv_ifnullN (tgt := 40) hx hb dX11_ticksOf_28 rfl ?_
      refine lv_iconst (v := 1) hx hb dX11_ticksOf_40 rg_6 ?_
      have kk12_ : (1 : Int32).toInt = 1 := rg_18
      rw [hQ]
      exact W.iret (v := 1) hx hb hr (fun t ht hW => ⟨⟨1, σ, rfl, ⟨rfl, trivial⟩, wEn_of hP (hK.sub [] rfl) hD ht hW⟩, hS.F ht⟩) hS.2.2 dX11_ticksOf_41
    · refine zv (v := .ref r10_) rfl ?_
      obtain ⟨u13_, gu13_⟩ := ga4_.2.2.2 r10_ er11_
      refine lv_ifnull hx hb dX11_ticksOf_28 ?_
      refine lv_aload_n hx hb dX11_ticksOf_31 rfl (lv_at hl 0 rfl) ?_
      obtain ⟨kp14_, hkp14_⟩ := cpl (κ := κ) (σ := σ) ga4_.1 ga4_.2.1
      refine va_get (D := (dC, dI)) (ci := 9) (v := .int (t2_.1 0)) (C := RX9) (T := TX9) (N := 11) hx hb hts hin9 hown hK hP kp14_ hkp14_ rfl 0 (Nat.le_of_ble_eq_true rfl) (ho (.fieldLink RX11 191 "NearEnough$Step" "kind" "I") (List.mem_of_getElem? (i := 4) rfl)) (fun _ h9 => h9) rfl dX11_ticksOf_32 ?_
      refine lv_bipush (v := 6) hx hb dX11_ticksOf_35 rg_55 ?_
      refine lv_icmp_ne (tgt := 42) hx hb dX11_ticksOf_37 rfl (fun c15_ => ?_) (fun c15_ => ?_)
      · have tc15_ := (show (t2_.1 0).toInt ≠ 6 from ti_ne rfl rg_70 c15_)
        refine lv_aload_n hx hb dX11_ticksOf_42 rfl (lv_at hl 1 rfl) ?_
        refine va_get (D := (dC, dI)) (ci := 11) (v := .ref (kA κ 15)) (C := RX11) (T := TX11) (N := 17) hx hb hts hin11 hown hK hP 0 rfl rfl 6 (Nat.le_of_ble_eq_true rfl) (ho (.fieldLink RX11 40 "NearEnough" "changes" "LNearEnough$Changes;") (List.mem_of_getElem? (i := 2) rfl)) (fun _ h9 => h9) rfl dX11_ticksOf_43 ?_
        refine lv_iload_n hx hb dX11_ticksOf_46 rfl (lv_at hl 2 rfl) ?_
        refine lv_aload_n hx hb dX11_ticksOf_47 rfl (lv_at hl 0 rfl) ?_
        obtain ⟨kp16_, hkp16_⟩ := cpl (κ := κ) (σ := σ) ga4_.1 ga4_.2.1
        refine va_get (D := (dC, dI)) (ci := 9) (v := va_rf t2_.2.2) (C := RX9) (T := TX9) (N := 11) hx hb hts hin9 hown hK hP kp16_ hkp16_ rfl 2 (Nat.le_of_ble_eq_true rfl) (ho (.fieldLink RX11 269 "NearEnough$Step" "row" "LNearEnough$Row;") (List.mem_of_getElem? (i := 3) rfl)) (fun _ h9 => h9) rfl dX11_ticksOf_48 ?_
        refine zv (v := .ref r10_) (by rw [er11_]; rfl) ?_
        have bb17_ : 1 ≤ (u13_.1 0).toInt ∧ (u13_.1 0).toInt ≤ 6 ∧ 0 ≤ (u13_.1 3).toInt ∧ (u13_.1 3).toInt + (u13_.1 0).toInt ≤ 12 := gu13_.2.2
        obtain ⟨kp18_, hkp18_⟩ := cpl (κ := κ) (σ := σ) gu13_.1 gu13_.2.1
        refine va_get (D := (dC, dI)) (ci := 5) (v := .int (u13_.1 0)) (C := RX5) (T := TX5) (N := 5) hx hb hts hin5 hown hK hP kp18_ hkp18_ rfl 1 (Nat.le_of_ble_eq_true rfl) (ho (.fieldLink RX11 177 "NearEnough$Row" "count" "I") (List.mem_of_getElem? (i := 5) rfl)) (fun _ h9 => h9) rfl dX11_ticksOf_51 ?_
        refine zy_i (va_runV (As := [.int x, .int (u13_.1 0)]) (rest := []) ⟨hx, hb, hml, hown, hts⟩ (k_takes l dC dI κ H.size σ x (u13_.1 0) hk hI ⟨o1, o4⟩) (cwV 2 hts gd_k_ticksOf_273_k_takes rfl rfl rfl dd_k_takes ⟨Nat.le_of_ble_eq_true rfl, Nat.le_of_ble_eq_true rfl⟩) (preVy hP hK hD hE (ci := 0) (q0 := 15) rfl rfl) rfl rfl hl.1 rfl (lv_room (Nat.le_of_ble_eq_true rfl)) dX11_ticksOf_54 ⟨Nat.le_of_ble_eq_true rfl, Nat.le_of_ble_eq_true rfl⟩) hD hS hA (fun z19_ τ20_ H locs hq hP hD hS => ?_)
        obtain ⟨hτ20_, q21_⟩ := hq
        rw [hτ20_] at hP hD
        refine W.widen (k := 0) (n := 0) (Nat.le_of_ble_eq_true rfl) (Nat.le_of_ble_eq_true rfl) ?_
        rw [hQ]
        exact W.iret (v := z19_) hx hb hr (fun t ht hW => ⟨⟨z19_, σ, rfl, ⟨rfl, trivial⟩, wEn_of hP (hK.sub [] rfl) hD ht hW⟩, hS.F ht⟩) hS.2.2 dX11_ticksOf_57
      · have tc15_ := (show (t2_.1 0).toInt = 6 from ti_eq rfl rg_70 c15_)
        refine lv_iconst (v := 1) hx hb dX11_ticksOf_40 rg_6 ?_
        have kk22_ : (1 : Int32).toInt = 1 := rg_18
        rw [hQ]
        exact W.iret (v := 1) hx hb hr (fun t ht hW => ⟨⟨1, σ, rfl, ⟨rfl, trivial⟩, wEn_of hP (hK.sub [] rfl) hD ht hW⟩, hS.F ht⟩) hS.2.2 dX11_ticksOf_41
  · have tc8_ := (show z5_.toInt = 4 from ti_eq rfl rg_32 c8_)
    refine lv_iconst (v := 0) hx hb dX11_ticksOf_22 rg_0 ?_
    have kk23_ : (0 : Int32).toInt = 0 := rg_11
    rw [hQ]
    exact W.iret (v := 0) hx hb hr (fun t ht hW => ⟨⟨0, σ, rfl, ⟨rfl, trivial⟩, wEn_of hP (hK.sub [] rfl) hD ht hW⟩, hS.F ht⟩) hS.2.2 dX11_ticksOf_23
def ow_k_ticks : List Cond := [.fieldLink RX11 40 "NearEnough" "changes" "LNearEnough$Changes;", .fieldLink RX11 26 "NearEnough" "told" "LNearEnough$Program;", .fieldLink RX11 123 "NearEnough$Program" "stepCount" "I"]
def vs_k_ticks : List Cond := .code yX11_ticks cX11_ticks 4 (some .int) :: (ow_k_ticks ++ (([.methodLink RX11 202 yX0_take, .instanceMethod yX0_take, .selects RX0 yX0_take yX0_take, .initialized RX0] : List Cond) ++ (vs_k_take ++ (([.methodLink RX11 263 yX11_ticksOf, .instanceMethod yX11_ticksOf, .selects RX11 yX11_ticksOf yX11_ticksOf, .initialized RX11] : List Cond) ++ (vs_k_ticksOf ++ (wsX30 ++ (wsX110)))))))
theorem vg_k_ticks : vs_k_ticks.all goodWord = true := by decide +kernel
theorem dd_k_ticks : yX11_ticks.cls = RX11 ∧ yX11_ticks.cls ≠ "java/lang/invoke/MethodHandle" ∧ yX11_ticks.cls ≠ "java/lang/invoke/VarHandle" ∧ (parseMethodDescriptor yX11_ticks.desc).map (fun d => d.parameters.length) = some 1 := by decide +kernel
def rm_k_ticks : Room := { frames := 3, cells := 0, slots := 0, locals := 70 }
theorem gd_k_ticks_202_k_take : GoodIn vs_k_ticks (wsV RX11 202 RX0 yX0_take vs_k_take) := goodIn_app (goodIn_sub (fun w h => (List.mem_cons_of_mem _ (List.mem_append_right _ (List.mem_append_left _ h)))) (by decide +kernel)) (goodIn_sub (fun w h => (List.mem_cons_of_mem _ (List.mem_append_right _ (List.mem_append_right _ (List.mem_append_left _ h))))) vg_k_take)
theorem gd_k_ticks_263_k_ticksOf : GoodIn vs_k_ticks (wsV RX11 263 RX11 yX11_ticksOf vs_k_ticksOf) := goodIn_app (goodIn_sub (fun w h => (List.mem_cons_of_mem _ (List.mem_append_right _ (List.mem_append_right _ (List.mem_append_right _ (List.mem_append_left _ h)))))) (by decide +kernel)) (goodIn_sub (fun w h => (List.mem_cons_of_mem _ (List.mem_append_right _ (List.mem_append_right _ (List.mem_append_right _ (List.mem_append_right _ (List.mem_append_left _ h))))))) vg_k_ticksOf)
set_option maxHeartbeats 4000000 in
set_option maxRecDepth 100000 in
theorem k_ticks (l : Launch) (dC : Nat → ClassId) (dI : Nat → Nat → Nat) (κ : CE) (sz : Nat) (σ : MS) (x : Int32) (hk : PInv κ) (hI : CInv σ)  : Met l yX11_ticks vs_k_ticks rm_k_ticks (va_Pc [.ref (kA κ 0), .int x] (wSy dC dI (cW κ σ) (cT κ) sz)) (va_Qi (fun (r : Int32) (τ : MS) => CInv τ ∧ True) (fun (τ : MS) => wEn dC dI (va_A (cW κ σ) sz) (cW κ τ) []) (va_A (cW κ σ) sz)) 0 0 (va_A (cW κ σ) sz) := by
  refine Met.ofW (cc := cX11_ticks) (maxL := 4) (ret := (some .int)) (by decide +kernel) rfl ?_
  intro p e s m args below meth c s₁ B hml hv
  obtain ⟨rfl, hsz, hP, hK, hD0, hE⟩ := hv
  have hx := B.exec
  have hb := B.bytes
  have hr := B.returns
  have hts := atoms_spec (ws := vs_k_ticks) B.pre
  have hown : s.vm.findClass RX11 = some m.cls := findClass_of_methodNamed B.named
  have hlocks := B.notSynchronized
  subst hsz
  have hD := hD0.self (sz := s.heap.size)
  generalize hAe : va_A (cW κ σ) s.heap.size = A at hD ⊢
  have hA : ∀ q : Nat, s.heap.size ≤ q → A q := fun q h => by rw [← hAe]; exact Or.inr h
  have hl := lv_entry ([.ref (kA κ 0), .int x]) (n := 4) (Nat.le_of_ble_eq_true rfl)
  rw [lg_entry_eq]
  generalize (lg_sl ([.ref (kA κ 0), .int x]) ++ List.replicate (4 - (lg_sl ([.ref (kA κ 0), .int x])).length) Slot.unset).toArray = ls at hl ⊢
  have hl : lv_has ls 4 [(0, .ref (kA κ 0)), (1, .int x)] := hl
  have ho := fun w (h : w ∈ ow_k_ticks) => hts w (List.mem_cons_of_mem _ (List.mem_append_left _ h))
  have hin3 : ∀ w ∈ u_ws RX3 TX3 8, w ∈ vs_k_ticks := fun w h => (List.mem_cons_of_mem _ (List.mem_append_right _ (List.mem_append_right _ (List.mem_append_right _ (List.mem_append_right _ (List.mem_append_right _ (List.mem_append_left _ h)))))))
  have hin11 : ∀ w ∈ u_ws RX11 TX11 17, w ∈ vs_k_ticks := fun w h => (List.mem_cons_of_mem _ (List.mem_append_right _ (List.mem_append_right _ (List.mem_append_right _ (List.mem_append_right _ (List.mem_append_right _ (List.mem_append_right _ h)))))))
  refine zQ (fun Q hQ => ?_)
  refine zH (A := A) (ws := (cW κ σ)) (fun H hP hS => ?_) hP
  have hk0 := hk.1
  have hk1 := hk.2.1
  have hk2 := hk.2.2.1
  refine lv_aload_n hx hb dX11_ticks_0 rfl (lv_at hl 0 rfl) ?_
  refine va_get (D := (dC, dI)) (ci := 11) (v := .ref (kA κ 15)) (C := RX11) (T := TX11) (N := 17) hx hb hts hin11 hown hK hP 0 rfl rfl 6 (Nat.le_of_ble_eq_true rfl) (ho (.fieldLink RX11 40 "NearEnough" "changes" "LNearEnough$Changes;") (List.mem_of_getElem? (i := 0) rfl)) (fun _ h9 => h9) rfl dX11_ticks_1 ?_
  refine lv_iload_n hx hb dX11_ticks_4 rfl (lv_at hl 1 rfl) ?_
  refine zy_i (va_runV (As := [.int x]) (rest := []) ⟨hx, hb, hml, hown, hts⟩ (k_take l dC dI κ H.size σ x hk hI ) (cwV 1 hts gd_k_ticks_202_k_take rfl rfl rfl dd_k_take ⟨Nat.le_of_ble_eq_true rfl, Nat.le_of_ble_eq_true rfl⟩) (preVy hP hK hD hE (ci := 0) (q0 := 15) rfl rfl) rfl rfl hl.1 rfl (lv_room (Nat.le_of_ble_eq_true rfl)) dX11_ticks_5 ⟨Nat.le_of_ble_eq_true rfl, Nat.le_of_ble_eq_true rfl⟩) hD hS hA (fun z1_ τ2_ H locs hq hP hD hS => ?_)
  obtain ⟨hτ2_, q3_⟩ := hq
  have q3_ : z1_.toInt = 0 ∨ z1_.toInt = 1 := q3_
  refine W.widen (k := 0) (n := 0) (Nat.le_of_ble_eq_true rfl) (Nat.le_of_ble_eq_true rfl) ?_
  refine lv_if_ne (tgt := 13) hx hb dX11_ticks_8 rfl (fun c4_ => ?_) (fun c4_ => ?_)
  · have tc4_ := (show z1_.toInt ≠ 0 from ti_ne rfl rg_11 c4_)
    refine lv_iconst (v := 0) hx hb dX11_ticks_13 rg_0 ?_
    refine lv_istore_n (lv' := [(2, .int 0), (0, .ref (kA κ 0)), (1, .int x)]) hx hb dX11_ticks_14 rfl hl (Nat.le_of_ble_eq_true rfl) rfl (fun ls hl => ?_)
    refine lv_iconst (v := 0) hx hb dX11_ticks_15 rg_0 ?_
    refine lv_istore_n (lv' := [(3, .int 0), (2, .int 0), (0, .ref (kA κ 0)), (1, .int x)]) hx hb dX11_ticks_16 rfl hl (Nat.le_of_ble_eq_true rfl) rfl (fun ls hl => ?_)
    have pt17_ : ∀ (n17_ : Nat) (v2_ : Int32) (v3_ : Int32) (H : Heap) (locs : List Loc) (ls : Array Slot), (12 - v3_.toInt).toNat < n17_ → (0 ≤ v3_.toInt) → va_P (dC, dI) vwCl (cW κ τ2_) H → va_D A (cW κ τ2_) → va_S A s.heap H locs → lv_has ls 4 [(2, .int v2_), (3, .int v3_), (0, .ref (kA κ 0))] → W p l e (headSpec vs_k_ticks rm_k_ticks).room s m #[Value.ref (kA κ 0), Value.int x] below meth c H locs 0 0 Q (F0 m 17 ls []) := by
      intro n17_
      induction n17_ with
      | zero => intro v2_ v3_ H locs ls hn17_ hf17_0_ hP hD hS hl; exact absurd hn17_ (Nat.not_lt_zero _)
      | succ n17_ ih17_ =>
        intro v2_ v3_ H locs ls hn17_ hf17_0_ hP hD hS hl
        refine lv_iload_n hx hb dX11_ticks_17 rfl (lv_at hl 1 rfl) ?_
        refine lv_aload_n hx hb dX11_ticks_18 rfl (lv_at hl 2 rfl) ?_
        refine va_get (D := (dC, dI)) (ci := 11) (v := .ref (kA κ 6)) (C := RX11) (T := TX11) (N := 17) hx hb hts hin11 hown hK hP 0 rfl rfl 4 (Nat.le_of_ble_eq_true rfl) (ho (.fieldLink RX11 26 "NearEnough" "told" "LNearEnough$Program;") (List.mem_of_getElem? (i := 1) rfl)) (fun _ h9 => h9) rfl dX11_ticks_19 ?_
        refine va_get (D := (dC, dI)) (ci := 3) (v := .int (pI κ 1)) (C := RX3) (T := TX3) (N := 8) hx hb hts hin3 hown hK hP 6 rfl rfl 6 (Nat.le_of_ble_eq_true rfl) (ho (.fieldLink RX11 123 "NearEnough$Program" "stepCount" "I") (List.mem_of_getElem? (i := 2) rfl)) (fun _ h9 => h9) rfl dX11_ticks_22 ?_
        refine lv_icmp_ge (tgt := 42) hx hb dX11_ticks_25 rfl (fun c5_ => ?_) (fun c5_ => ?_)
        · have tc5_ := (show (pI κ 1).toInt ≤ v3_.toInt from ti_le rfl rfl c5_)
          refine lv_iload_n hx hb dX11_ticks_42 rfl (lv_at hl 0 rfl) ?_
          rw [hQ]
          exact W.iret (v := v2_) hx hb hr (fun t ht hW => ⟨⟨v2_, τ2_, rfl, ⟨hτ2_, trivial⟩, wEn_of hP (hK.sub [] rfl) hD ht hW⟩, hS.F ht⟩) hS.2.2 dX11_ticks_43
        · have tc5_ := (show v3_.toInt < (pI κ 1).toInt from ti_nle rfl rfl c5_)
          refine lv_iload_n hx hb dX11_ticks_28 rfl (lv_at hl 0 rfl) ?_
          refine lv_aload_n hx hb dX11_ticks_29 rfl (lv_at hl 2 rfl) ?_
          refine lv_iload_n hx hb dX11_ticks_30 rfl (lv_at hl 1 rfl) ?_
          have o1 : 0 ≤ v3_.toInt := by omega
          have o2 : v3_.toInt < (pI κ 1).toInt := by omega
          refine zy_i (va_runV (As := [.int v3_]) (rest := [.int v2_]) ⟨hx, hb, hml, hown, hts⟩ (k_ticksOf l dC dI κ H.size τ2_ v3_ hk hτ2_ ⟨o1, o2⟩) (cwV 1 hts gd_k_ticks_263_k_ticksOf rfl rfl rfl dd_k_ticksOf ⟨Nat.le_of_ble_eq_true rfl, Nat.le_of_ble_eq_true rfl⟩) (preVy hP hK hD hE (ci := 11) (q0 := 0) rfl rfl) rfl rfl hl.1 rfl (lv_room (Nat.le_of_ble_eq_true rfl)) dX11_ticks_31 ⟨Nat.le_of_ble_eq_true rfl, Nat.le_of_ble_eq_true rfl⟩) hD hS hA (fun z6_ τ7_ H locs hq hP hD hS => ?_)
          obtain ⟨hτ7_, q8_⟩ := hq
          rw [hτ7_] at hP hD
          refine W.widen (k := 0) (n := 0) (Nat.le_of_ble_eq_true rfl) (Nat.le_of_ble_eq_true rfl) ?_
          refine lv_iadd hx hb dX11_ticks_34 ?_
          refine lv_topi (fun z9_ ez9_ => ?_)
          refine lv_istore_n (lv' := [(2, .int z9_), (3, .int v3_), (0, .ref (kA κ 0))]) hx hb dX11_ticks_35 rfl hl (Nat.le_of_ble_eq_true rfl) rfl (fun ls hl => ?_)
          obtain ⟨z10_, ez10_⟩ : ∃ y : Int32, y = v3_ + 1 := ⟨_, rfl⟩
          have o3 : -2147483648 ≤ v3_.toInt + 1 := by omega
          have o4 : v3_.toInt + 1 ≤ 2147483647 := by omega
          have tz10_ := ti_add ez10_ rfl rg_18 o3 o4
          refine lv_iinc (v := z10_) (lv' := [(3, .int z10_), (2, .int z9_), (0, .ref (kA κ 0))]) hx hb dX11_ticks_36 hl (k := 1) rfl (iincp ez10_ rg_6) (Nat.le_of_ble_eq_true rfl) rfl (fun ls hl => ?_)
          refine lv_goto (tgt := 17) hx hb dX11_ticks_39 rfl ?_
          have o5 : (12 - z10_.toInt).toNat < n17_ := by omega
          have o6 : 0 ≤ z10_.toInt := by omega
          exact ih17_  z9_ z10_ _ _ _ o5 o6 hP hD hS (lv_sub hl [1, 0, 2] rfl)
    have kk11_ : (0 : Int32).toInt = 0 := rg_11
    have kk12_ : (0 : Int32).toInt = 0 := rg_11
    have o7 : 0 ≤ (0 : Int32).toInt := by omega
    exact pt17_ _  0 0 _ _ _ (Nat.lt_succ_self _) o7 hP hD hS (lv_sub hl [1, 0, 2] rfl)
  · have tc4_ := (show z1_.toInt = 0 from ti_eq rfl rg_11 c4_)
    refine lv_iconst (v := (-1)) hx hb dX11_ticks_11 rg_53 ?_
    have kk13_ : ((-1) : Int32).toInt = (-1) := rg_489
    rw [hQ]
    exact W.iret (v := (-1)) hx hb hr (fun t ht hW => ⟨⟨(-1), τ2_, rfl, ⟨hτ2_, trivial⟩, wEn_of hP (hK.sub [] rfl) hD ht hW⟩, hS.F ht⟩) hS.2.2 dX11_ticks_12
