theorem dX12_must_0 : decode cX12_must 0 = .ok (.aload_n 0, 1) := by decide +kernel
theorem dX12_must_1 : decode cX12_must 1 = .ok (.invokevirtual 224, 3) := by decide +kernel
theorem dX12_must_4 : decode cX12_must 4 = .ok (.ifCond .ne 4, 3) := by decide +kernel
theorem dX12_must_8 : decode cX12_must 8 = .ok (.iload_n 1, 1) := by decide +kernel
theorem dX12_must_9 : decode cX12_must 9 = .ok (.ifCond .eq 10, 3) := by decide +kernel
theorem dX12_must_19 : decode cX12_must 19 = .ok (.aload_n 0, 1) := by decide +kernel
theorem dX12_must_20 : decode cX12_must 20 = .ok (.invokevirtual 231, 3) := by decide +kernel
theorem dX12_must_23 : decode cX12_must 23 = .ok (.return_, 1) := by decide +kernel
theorem dX12_must_12 : decode cX12_must 12 = .ok (.aload_n 0, 1) := by decide +kernel
theorem dX12_must_13 : decode cX12_must 13 = .ok (.invokevirtual 228, 3) := by decide +kernel
theorem dX12_must_16 : decode cX12_must 16 = .ok (.goto 7, 3) := by decide +kernel
theorem dX12_must_7 : decode cX12_must 7 = .ok (.return_, 1) := by decide +kernel
theorem dX12_numeral_0 : decode cX12_numeral 0 = .ok (.aload_n 0, 1) := by decide +kernel
theorem dX12_numeral_1 : decode cX12_numeral 1 = .ok (.invokevirtual 224, 3) := by decide +kernel
theorem dX12_numeral_4 : decode cX12_numeral 4 = .ok (.ifCond .ne 5, 3) := by decide +kernel
theorem dX12_numeral_9 : decode cX12_numeral 9 = .ok (.aload_n 0, 1) := by decide +kernel
theorem dX12_numeral_10 : decode cX12_numeral 10 = .ok (.getfield 199, 3) := by decide +kernel
theorem dX12_numeral_13 : decode cX12_numeral 13 = .ok (.iconst 4, 1) := by decide +kernel
theorem dX12_numeral_14 : decode cX12_numeral 14 = .ok (.if_icmp .eq 7, 3) := by decide +kernel
theorem dX12_numeral_21 : decode cX12_numeral 21 = .ok (.aload_n 0, 1) := by decide +kernel
theorem dX12_numeral_22 : decode cX12_numeral 22 = .ok (.invokevirtual 224, 3) := by decide +kernel
theorem dX12_numeral_25 : decode cX12_numeral 25 = .ok (.ifCond .eq 28, 3) := by decide +kernel
theorem dX12_numeral_53 : decode cX12_numeral 53 = .ok (.aload_n 0, 1) := by decide +kernel
theorem dX12_numeral_54 : decode cX12_numeral 54 = .ok (.getfield 217, 3) := by decide +kernel
theorem dX12_numeral_57 : decode cX12_numeral 57 = .ok (.istore_n 3, 1) := by decide +kernel
theorem dX12_numeral_58 : decode cX12_numeral 58 = .ok (.aload_n 0, 1) := by decide +kernel
theorem dX12_numeral_59 : decode cX12_numeral 59 = .ok (.invokevirtual 224, 3) := by decide +kernel
theorem dX12_numeral_62 : decode cX12_numeral 62 = .ok (.ifCond .eq 7, 3) := by decide +kernel
theorem dX12_numeral_69 : decode cX12_numeral 69 = .ok (.aload_n 0, 1) := by decide +kernel
theorem dX12_numeral_70 : decode cX12_numeral 70 = .ok (.invokevirtual 224, 3) := by decide +kernel
theorem dX12_numeral_73 : decode cX12_numeral 73 = .ok (.ifCond .eq 7, 3) := by decide +kernel
theorem dX12_numeral_80 : decode cX12_numeral 80 = .ok (.iload_n 1, 1) := by decide +kernel
theorem dX12_numeral_81 : decode cX12_numeral 81 = .ok (.ireturn, 1) := by decide +kernel
theorem dX12_numeral_76 : decode cX12_numeral 76 = .ok (.iload_n 3, 1) := by decide +kernel
theorem dX12_numeral_77 : decode cX12_numeral 77 = .ok (.goto 4, 3) := by decide +kernel
theorem dX12_numeral_65 : decode cX12_numeral 65 = .ok (.aload_n 0, 1) := by decide +kernel
theorem dX12_numeral_66 : decode cX12_numeral 66 = .ok (.invokevirtual 228, 3) := by decide +kernel
theorem dX12_numeral_28 : decode cX12_numeral 28 = .ok (.aload_n 0, 1) := by decide +kernel
theorem dX12_numeral_29 : decode cX12_numeral 29 = .ok (.getfield 217, 3) := by decide +kernel
theorem dX12_numeral_32 : decode cX12_numeral 32 = .ok (.iload_n 1, 1) := by decide +kernel
theorem dX12_numeral_33 : decode cX12_numeral 33 = .ok (.if_icmp .lt 11, 3) := by decide +kernel
theorem dX12_numeral_44 : decode cX12_numeral 44 = .ok (.aload_n 0, 1) := by decide +kernel
theorem dX12_numeral_45 : decode cX12_numeral 45 = .ok (.iconst 4, 1) := by decide +kernel
theorem dX12_numeral_46 : decode cX12_numeral 46 = .ok (.aload_n 0, 1) := by decide +kernel
theorem dX12_numeral_47 : decode cX12_numeral 47 = .ok (.getfield 192, 3) := by decide +kernel
theorem dX12_numeral_50 : decode cX12_numeral 50 = .ok (.invokevirtual 220, 3) := by decide +kernel
theorem dX12_numeral_36 : decode cX12_numeral 36 = .ok (.aload_n 0, 1) := by decide +kernel
theorem dX12_numeral_37 : decode cX12_numeral 37 = .ok (.getfield 217, 3) := by decide +kernel
theorem dX12_numeral_40 : decode cX12_numeral 40 = .ok (.iload_n 2, 1) := by decide +kernel
theorem dX12_numeral_41 : decode cX12_numeral 41 = .ok (.if_icmp .le 12, 3) := by decide +kernel
theorem dX12_numeral_17 : decode cX12_numeral 17 = .ok (.aload_n 0, 1) := by decide +kernel
theorem dX12_numeral_18 : decode cX12_numeral 18 = .ok (.invokevirtual 231, 3) := by decide +kernel
theorem dX12_numeral_7 : decode cX12_numeral 7 = .ok (.iload_n 1, 1) := by decide +kernel
theorem dX12_numeral_8 : decode cX12_numeral 8 = .ok (.ireturn, 1) := by decide +kernel
theorem dX12_signed_0 : decode cX12_signed 0 = .ok (.aload_n 0, 1) := by decide +kernel
theorem dX12_signed_1 : decode cX12_signed 1 = .ok (.invokevirtual 224, 3) := by decide +kernel
theorem dX12_signed_4 : decode cX12_signed 4 = .ok (.ifCond .ne 5, 3) := by decide +kernel
theorem dX12_signed_9 : decode cX12_signed 9 = .ok (.aload_n 0, 1) := by decide +kernel
theorem dX12_signed_10 : decode cX12_signed 10 = .ok (.getfield 192, 3) := by decide +kernel
theorem dX12_signed_13 : decode cX12_signed 13 = .ok (.istore_n 3, 1) := by decide +kernel
theorem dX12_signed_14 : decode cX12_signed 14 = .ok (.aload_n 0, 1) := by decide +kernel
theorem dX12_signed_15 : decode cX12_signed 15 = .ok (.bipush 45, 2) := by decide +kernel
theorem dX12_signed_17 : decode cX12_signed 17 = .ok (.invokevirtual 234, 3) := by decide +kernel
theorem dX12_signed_20 : decode cX12_signed 20 = .ok (.istore 4, 2) := by decide +kernel
theorem dX12_signed_22 : decode cX12_signed 22 = .ok (.iload 4, 2) := by decide +kernel
theorem dX12_signed_24 : decode cX12_signed 24 = .ok (.ifCond .eq 7, 3) := by decide +kernel
theorem dX12_signed_31 : decode cX12_signed 31 = .ok (.aload_n 0, 1) := by decide +kernel
theorem dX12_signed_32 : decode cX12_signed 32 = .ok (.getfield 199, 3) := by decide +kernel
theorem dX12_signed_35 : decode cX12_signed 35 = .ok (.iconst 4, 1) := by decide +kernel
theorem dX12_signed_36 : decode cX12_signed 36 = .ok (.if_icmp .eq 7, 3) := by decide +kernel
theorem dX12_signed_43 : decode cX12_signed 43 = .ok (.iload 4, 2) := by decide +kernel
theorem dX12_signed_45 : decode cX12_signed 45 = .ok (.ifCond .eq 11, 3) := by decide +kernel
theorem dX12_signed_56 : decode cX12_signed 56 = .ok (.aload_n 0, 1) := by decide +kernel
theorem dX12_signed_57 : decode cX12_signed 57 = .ok (.getfield 217, 3) := by decide +kernel
theorem dX12_signed_60 : decode cX12_signed 60 = .ok (.istore 5, 2) := by decide +kernel
theorem dX12_signed_62 : decode cX12_signed 62 = .ok (.aload_n 0, 1) := by decide +kernel
theorem dX12_signed_63 : decode cX12_signed 63 = .ok (.invokevirtual 224, 3) := by decide +kernel
theorem dX12_signed_66 : decode cX12_signed 66 = .ok (.ifCond .eq 21, 3) := by decide +kernel
theorem dX12_signed_87 : decode cX12_signed 87 = .ok (.aload_n 0, 1) := by decide +kernel
theorem dX12_signed_88 : decode cX12_signed 88 = .ok (.invokevirtual 224, 3) := by decide +kernel
theorem dX12_signed_91 : decode cX12_signed 91 = .ok (.ifCond .eq 7, 3) := by decide +kernel
theorem dX12_signed_98 : decode cX12_signed 98 = .ok (.aload_n 0, 1) := by decide +kernel
theorem dX12_signed_99 : decode cX12_signed 99 = .ok (.invokevirtual 224, 3) := by decide +kernel
theorem dX12_signed_102 : decode cX12_signed 102 = .ok (.ifCond .eq 8, 3) := by decide +kernel
theorem dX12_signed_110 : decode cX12_signed 110 = .ok (.iload_n 1, 1) := by decide +kernel
theorem dX12_signed_111 : decode cX12_signed 111 = .ok (.ireturn, 1) := by decide +kernel
theorem dX12_signed_105 : decode cX12_signed 105 = .ok (.iload 5, 2) := by decide +kernel
theorem dX12_signed_107 : decode cX12_signed 107 = .ok (.goto 4, 3) := by decide +kernel
theorem dX12_signed_94 : decode cX12_signed 94 = .ok (.aload_n 0, 1) := by decide +kernel
theorem dX12_signed_95 : decode cX12_signed 95 = .ok (.invokevirtual 228, 3) := by decide +kernel
theorem dX12_signed_69 : decode cX12_signed 69 = .ok (.iload 5, 2) := by decide +kernel
theorem dX12_signed_71 : decode cX12_signed 71 = .ok (.iload_n 1, 1) := by decide +kernel
theorem dX12_signed_72 : decode cX12_signed 72 = .ok (.if_icmp .lt 9, 3) := by decide +kernel
theorem dX12_signed_81 : decode cX12_signed 81 = .ok (.aload_n 0, 1) := by decide +kernel
theorem dX12_signed_82 : decode cX12_signed 82 = .ok (.iconst 4, 1) := by decide +kernel
theorem dX12_signed_83 : decode cX12_signed 83 = .ok (.iload_n 3, 1) := by decide +kernel
theorem dX12_signed_84 : decode cX12_signed 84 = .ok (.invokevirtual 220, 3) := by decide +kernel
theorem dX12_signed_75 : decode cX12_signed 75 = .ok (.iload 5, 2) := by decide +kernel
theorem dX12_signed_77 : decode cX12_signed 77 = .ok (.iload_n 2, 1) := by decide +kernel
theorem dX12_signed_78 : decode cX12_signed 78 = .ok (.if_icmp .le 9, 3) := by decide +kernel
theorem dX12_signed_48 : decode cX12_signed 48 = .ok (.aload_n 0, 1) := by decide +kernel
theorem dX12_signed_49 : decode cX12_signed 49 = .ok (.getfield 217, 3) := by decide +kernel
theorem dX12_signed_52 : decode cX12_signed 52 = .ok (.ineg, 1) := by decide +kernel
theorem dX12_signed_53 : decode cX12_signed 53 = .ok (.goto 7, 3) := by decide +kernel
theorem dX12_signed_39 : decode cX12_signed 39 = .ok (.aload_n 0, 1) := by decide +kernel
theorem dX12_signed_40 : decode cX12_signed 40 = .ok (.invokevirtual 231, 3) := by decide +kernel
theorem dX12_signed_27 : decode cX12_signed 27 = .ok (.aload_n 0, 1) := by decide +kernel
theorem dX12_signed_28 : decode cX12_signed 28 = .ok (.invokevirtual 228, 3) := by decide +kernel
theorem dX12_signed_7 : decode cX12_signed 7 = .ok (.iload_n 1, 1) := by decide +kernel
theorem dX12_signed_8 : decode cX12_signed 8 = .ok (.ireturn, 1) := by decide +kernel
theorem dX12_kindHere_0 : decode cX12_kindHere 0 = .ok (.aload_n 0, 1) := by decide +kernel
theorem dX12_kindHere_1 : decode cX12_kindHere 1 = .ok (.ldc2_w 151, 3) := by decide +kernel
theorem dX12_kindHere_4 : decode cX12_kindHere 4 = .ok (.invokevirtual 261, 3) := by decide +kernel
theorem dX12_kindHere_7 : decode cX12_kindHere 7 = .ok (.ifCond .eq 5, 3) := by decide +kernel
theorem dX12_kindHere_12 : decode cX12_kindHere 12 = .ok (.aload_n 0, 1) := by decide +kernel
theorem dX12_kindHere_13 : decode cX12_kindHere 13 = .ok (.ldc2_w 155, 3) := by decide +kernel
theorem dX12_kindHere_16 : decode cX12_kindHere 16 = .ok (.invokevirtual 261, 3) := by decide +kernel
theorem dX12_kindHere_19 : decode cX12_kindHere 19 = .ok (.ifCond .eq 5, 3) := by decide +kernel
theorem dX12_kindHere_24 : decode cX12_kindHere 24 = .ok (.aload_n 0, 1) := by decide +kernel
theorem dX12_kindHere_25 : decode cX12_kindHere 25 = .ok (.ldc2_w 157, 3) := by decide +kernel
theorem dX12_kindHere_28 : decode cX12_kindHere 28 = .ok (.invokevirtual 261, 3) := by decide +kernel
theorem dX12_kindHere_31 : decode cX12_kindHere 31 = .ok (.ifCond .eq 5, 3) := by decide +kernel
theorem dX12_kindHere_36 : decode cX12_kindHere 36 = .ok (.aload_n 0, 1) := by decide +kernel
theorem dX12_kindHere_37 : decode cX12_kindHere 37 = .ok (.ldc2_w 159, 3) := by decide +kernel
theorem dX12_kindHere_40 : decode cX12_kindHere 40 = .ok (.invokevirtual 261, 3) := by decide +kernel
theorem dX12_kindHere_43 : decode cX12_kindHere 43 = .ok (.ifCond .eq 5, 3) := by decide +kernel
theorem dX12_kindHere_48 : decode cX12_kindHere 48 = .ok (.aload_n 0, 1) := by decide +kernel
theorem dX12_kindHere_49 : decode cX12_kindHere 49 = .ok (.ldc2_w 161, 3) := by decide +kernel
theorem dX12_kindHere_52 : decode cX12_kindHere 52 = .ok (.invokevirtual 261, 3) := by decide +kernel
theorem dX12_kindHere_55 : decode cX12_kindHere 55 = .ok (.ifCond .eq 5, 3) := by decide +kernel
theorem dX12_kindHere_60 : decode cX12_kindHere 60 = .ok (.aload_n 0, 1) := by decide +kernel
theorem dX12_kindHere_61 : decode cX12_kindHere 61 = .ok (.ldc2_w 163, 3) := by decide +kernel
theorem dX12_kindHere_64 : decode cX12_kindHere 64 = .ok (.invokevirtual 261, 3) := by decide +kernel
theorem dX12_kindHere_67 : decode cX12_kindHere 67 = .ok (.ifCond .eq 5, 3) := by decide +kernel
theorem dX12_kindHere_72 : decode cX12_kindHere 72 = .ok (.aload_n 0, 1) := by decide +kernel
theorem dX12_kindHere_73 : decode cX12_kindHere 73 = .ok (.ldc2_w 169, 3) := by decide +kernel
theorem dX12_kindHere_76 : decode cX12_kindHere 76 = .ok (.invokevirtual 261, 3) := by decide +kernel
theorem dX12_kindHere_79 : decode cX12_kindHere 79 = .ok (.ifCond .eq 6, 3) := by decide +kernel
theorem dX12_kindHere_85 : decode cX12_kindHere 85 = .ok (.aload_n 0, 1) := by decide +kernel
theorem dX12_kindHere_86 : decode cX12_kindHere 86 = .ok (.ldc2_w 173, 3) := by decide +kernel
theorem dX12_kindHere_89 : decode cX12_kindHere 89 = .ok (.invokevirtual 261, 3) := by decide +kernel
theorem dX12_kindHere_92 : decode cX12_kindHere 92 = .ok (.ifCond .eq 8, 3) := by decide +kernel
theorem dX12_kindHere_100 : decode cX12_kindHere 100 = .ok (.iconst (-1), 1) := by decide +kernel
theorem dX12_kindHere_101 : decode cX12_kindHere 101 = .ok (.ireturn, 1) := by decide +kernel
theorem dX12_kindHere_95 : decode cX12_kindHere 95 = .ok (.bipush 7, 2) := by decide +kernel
theorem dX12_kindHere_97 : decode cX12_kindHere 97 = .ok (.goto 4, 3) := by decide +kernel
theorem dX12_kindHere_82 : decode cX12_kindHere 82 = .ok (.bipush 6, 2) := by decide +kernel
theorem dX12_kindHere_84 : decode cX12_kindHere 84 = .ok (.ireturn, 1) := by decide +kernel
theorem dX12_kindHere_70 : decode cX12_kindHere 70 = .ok (.iconst 5, 1) := by decide +kernel
theorem dX12_kindHere_71 : decode cX12_kindHere 71 = .ok (.ireturn, 1) := by decide +kernel
theorem dX12_kindHere_58 : decode cX12_kindHere 58 = .ok (.iconst 4, 1) := by decide +kernel
theorem dX12_kindHere_59 : decode cX12_kindHere 59 = .ok (.ireturn, 1) := by decide +kernel
theorem dX12_kindHere_46 : decode cX12_kindHere 46 = .ok (.iconst 3, 1) := by decide +kernel
theorem dX12_kindHere_47 : decode cX12_kindHere 47 = .ok (.ireturn, 1) := by decide +kernel
theorem dX12_kindHere_34 : decode cX12_kindHere 34 = .ok (.iconst 2, 1) := by decide +kernel
theorem dX12_kindHere_35 : decode cX12_kindHere 35 = .ok (.ireturn, 1) := by decide +kernel
theorem dX12_kindHere_22 : decode cX12_kindHere 22 = .ok (.iconst 1, 1) := by decide +kernel
theorem dX12_kindHere_23 : decode cX12_kindHere 23 = .ok (.ireturn, 1) := by decide +kernel
theorem dX12_kindHere_10 : decode cX12_kindHere 10 = .ok (.iconst 0, 1) := by decide +kernel
theorem dX12_kindHere_11 : decode cX12_kindHere 11 = .ok (.ireturn, 1) := by decide +kernel
theorem dX12_rowNamed_2 : decode cX12_rowNamed 2 = .ok (.iload_n 1, 1) := by decide +kernel
theorem dX12_rowNamed_3 : decode cX12_rowNamed 3 = .ok (.aload_n 0, 1) := by decide +kernel
theorem dX12_rowNamed_4 : decode cX12_rowNamed 4 = .ok (.getfield 20, 3) := by decide +kernel
theorem dX12_rowNamed_7 : decode cX12_rowNamed 7 = .ok (.aload_n 0, 1) := by decide +kernel
theorem dX12_rowNamed_8 : decode cX12_rowNamed 8 = .ok (.getfield 243, 3) := by decide +kernel
theorem dX12_rowNamed_11 : decode cX12_rowNamed 11 = .ok (.iaload, 1) := by decide +kernel
theorem dX12_rowNamed_12 : decode cX12_rowNamed 12 = .ok (.if_icmp .ge 40, 3) := by decide +kernel
theorem dX12_rowNamed_52 : decode cX12_rowNamed 52 = .ok (.iconst (-1), 1) := by decide +kernel
theorem dX12_rowNamed_53 : decode cX12_rowNamed 53 = .ok (.ireturn, 1) := by decide +kernel
theorem dX12_rowNamed_15 : decode cX12_rowNamed 15 = .ok (.aload_n 0, 1) := by decide +kernel
theorem dX12_rowNamed_16 : decode cX12_rowNamed 16 = .ok (.getfield 199, 3) := by decide +kernel
theorem dX12_rowNamed_19 : decode cX12_rowNamed 19 = .ok (.iconst 2, 1) := by decide +kernel
theorem dX12_rowNamed_20 : decode cX12_rowNamed 20 = .ok (.if_icmp .ne 26, 3) := by decide +kernel
theorem dX12_rowNamed_46 : decode cX12_rowNamed 46 = .ok (.iinc 1 1, 3) := by decide +kernel
theorem dX12_rowNamed_49 : decode cX12_rowNamed 49 = .ok (.goto (-47), 3) := by decide +kernel
theorem dX12_rowNamed_23 : decode cX12_rowNamed 23 = .ok (.aload_n 0, 1) := by decide +kernel
theorem dX12_rowNamed_24 : decode cX12_rowNamed 24 = .ok (.getfield 63, 3) := by decide +kernel
theorem dX12_rowNamed_27 : decode cX12_rowNamed 27 = .ok (.iconst 2, 1) := by decide +kernel
theorem dX12_rowNamed_28 : decode cX12_rowNamed 28 = .ok (.aload_n 0, 1) := by decide +kernel
theorem dX12_rowNamed_29 : decode cX12_rowNamed 29 = .ok (.getfield 243, 3) := by decide +kernel
theorem dX12_rowNamed_32 : decode cX12_rowNamed 32 = .ok (.imul, 1) := by decide +kernel
theorem dX12_rowNamed_33 : decode cX12_rowNamed 33 = .ok (.iload_n 1, 1) := by decide +kernel
theorem dX12_rowNamed_34 : decode cX12_rowNamed 34 = .ok (.iadd, 1) := by decide +kernel
theorem dX12_rowNamed_35 : decode cX12_rowNamed 35 = .ok (.laload, 1) := by decide +kernel
theorem dX12_rowNamed_36 : decode cX12_rowNamed 36 = .ok (.aload_n 0, 1) := by decide +kernel
theorem dX12_rowNamed_37 : decode cX12_rowNamed 37 = .ok (.getfield 206, 3) := by decide +kernel
theorem dX12_rowNamed_40 : decode cX12_rowNamed 40 = .ok (.lcmp, 1) := by decide +kernel
theorem dX12_rowNamed_41 : decode cX12_rowNamed 41 = .ok (.ifCond .ne 5, 3) := by decide +kernel
theorem dX12_rowNamed_44 : decode cX12_rowNamed 44 = .ok (.iload_n 1, 1) := by decide +kernel
theorem dX12_rowNamed_45 : decode cX12_rowNamed 45 = .ok (.ireturn, 1) := by decide +kernel
theorem dX12_rowNamed_0 : decode cX12_rowNamed 0 = .ok (.iconst 0, 1) := by decide +kernel
theorem dX12_rowNamed_1 : decode cX12_rowNamed 1 = .ok (.istore_n 1, 1) := by decide +kernel
theorem dX12_stepNamed_2 : decode cX12_stepNamed 2 = .ok (.iload_n 1, 1) := by decide +kernel
theorem dX12_stepNamed_3 : decode cX12_stepNamed 3 = .ok (.aload_n 0, 1) := by decide +kernel
theorem dX12_stepNamed_4 : decode cX12_stepNamed 4 = .ok (.getfield 24, 3) := by decide +kernel
theorem dX12_stepNamed_7 : decode cX12_stepNamed 7 = .ok (.aload_n 0, 1) := by decide +kernel
theorem dX12_stepNamed_8 : decode cX12_stepNamed 8 = .ok (.getfield 243, 3) := by decide +kernel
theorem dX12_stepNamed_11 : decode cX12_stepNamed 11 = .ok (.iaload, 1) := by decide +kernel
theorem dX12_stepNamed_12 : decode cX12_stepNamed 12 = .ok (.if_icmp .ge 41, 3) := by decide +kernel
theorem dX12_stepNamed_53 : decode cX12_stepNamed 53 = .ok (.iconst (-1), 1) := by decide +kernel
theorem dX12_stepNamed_54 : decode cX12_stepNamed 54 = .ok (.ireturn, 1) := by decide +kernel
theorem dX12_stepNamed_15 : decode cX12_stepNamed 15 = .ok (.aload_n 0, 1) := by decide +kernel
theorem dX12_stepNamed_16 : decode cX12_stepNamed 16 = .ok (.getfield 199, 3) := by decide +kernel
theorem dX12_stepNamed_19 : decode cX12_stepNamed 19 = .ok (.iconst 2, 1) := by decide +kernel
theorem dX12_stepNamed_20 : decode cX12_stepNamed 20 = .ok (.if_icmp .ne 27, 3) := by decide +kernel
theorem dX12_stepNamed_47 : decode cX12_stepNamed 47 = .ok (.iinc 1 1, 3) := by decide +kernel
theorem dX12_stepNamed_50 : decode cX12_stepNamed 50 = .ok (.goto (-48), 3) := by decide +kernel
theorem dX12_stepNamed_23 : decode cX12_stepNamed 23 = .ok (.aload_n 0, 1) := by decide +kernel
theorem dX12_stepNamed_24 : decode cX12_stepNamed 24 = .ok (.getfield 67, 3) := by decide +kernel
theorem dX12_stepNamed_27 : decode cX12_stepNamed 27 = .ok (.bipush 12, 2) := by decide +kernel
theorem dX12_stepNamed_29 : decode cX12_stepNamed 29 = .ok (.aload_n 0, 1) := by decide +kernel
theorem dX12_stepNamed_30 : decode cX12_stepNamed 30 = .ok (.getfield 243, 3) := by decide +kernel
theorem dX12_stepNamed_33 : decode cX12_stepNamed 33 = .ok (.imul, 1) := by decide +kernel
theorem dX12_stepNamed_34 : decode cX12_stepNamed 34 = .ok (.iload_n 1, 1) := by decide +kernel
theorem dX12_stepNamed_35 : decode cX12_stepNamed 35 = .ok (.iadd, 1) := by decide +kernel
theorem dX12_stepNamed_36 : decode cX12_stepNamed 36 = .ok (.laload, 1) := by decide +kernel
theorem dX12_stepNamed_37 : decode cX12_stepNamed 37 = .ok (.aload_n 0, 1) := by decide +kernel
theorem dX12_stepNamed_38 : decode cX12_stepNamed 38 = .ok (.getfield 206, 3) := by decide +kernel
theorem dX12_stepNamed_41 : decode cX12_stepNamed 41 = .ok (.lcmp, 1) := by decide +kernel
theorem dX12_stepNamed_42 : decode cX12_stepNamed 42 = .ok (.ifCond .ne 5, 3) := by decide +kernel
theorem dX12_stepNamed_45 : decode cX12_stepNamed 45 = .ok (.iload_n 1, 1) := by decide +kernel
theorem dX12_stepNamed_46 : decode cX12_stepNamed 46 = .ok (.ireturn, 1) := by decide +kernel
theorem dX12_stepNamed_0 : decode cX12_stepNamed 0 = .ok (.iconst 0, 1) := by decide +kernel
theorem dX12_stepNamed_1 : decode cX12_stepNamed 1 = .ok (.istore_n 1, 1) := by decide +kernel
theorem dX12_fresh_0 : decode cX12_fresh 0 = .ok (.aload_n 0, 1) := by decide +kernel
theorem dX12_fresh_1 : decode cX12_fresh 1 = .ok (.invokevirtual 282, 3) := by decide +kernel
theorem dX12_fresh_4 : decode cX12_fresh 4 = .ok (.ifCond .ge 10, 3) := by decide +kernel
theorem dX12_fresh_14 : decode cX12_fresh 14 = .ok (.aload_n 0, 1) := by decide +kernel
theorem dX12_fresh_15 : decode cX12_fresh 15 = .ok (.iconst 3, 1) := by decide +kernel
theorem dX12_fresh_16 : decode cX12_fresh 16 = .ok (.aload_n 0, 1) := by decide +kernel
theorem dX12_fresh_17 : decode cX12_fresh 17 = .ok (.getfield 192, 3) := by decide +kernel
theorem dX12_fresh_20 : decode cX12_fresh 20 = .ok (.invokevirtual 220, 3) := by decide +kernel
theorem dX12_fresh_23 : decode cX12_fresh 23 = .ok (.return_, 1) := by decide +kernel
theorem dX12_fresh_7 : decode cX12_fresh 7 = .ok (.aload_n 0, 1) := by decide +kernel
theorem dX12_fresh_8 : decode cX12_fresh 8 = .ok (.invokevirtual 285, 3) := by decide +kernel
theorem dX12_fresh_11 : decode cX12_fresh 11 = .ok (.ifCond .lt 12, 3) := by decide +kernel
def ow_n_must : List Cond := []
def vs_n_must : List Cond := .code yX12_must cX12_must 2 none :: (ow_n_must ++ (([.methodLink RX12 224 yX12_isGood, .instanceMethod yX12_isGood, .selects RX12 yX12_isGood yX12_isGood, .initialized RX12] : List Cond) ++ (vs_n_isGood ++ (([.methodLink RX12 231 yX12_wrong, .instanceMethod yX12_wrong, .selects RX12 yX12_wrong yX12_wrong, .initialized RX12] : List Cond) ++ (vs_n_wrong ++ (([.methodLink RX12 228 yX12_next, .instanceMethod yX12_next, .selects RX12 yX12_next yX12_next, .initialized RX12] : List Cond) ++ (vs_n_next)))))))
theorem vg_n_must : vs_n_must.all goodWord = true := by decide +kernel
def rm_n_must : Room := { frames := 2, cells := 0, slots := 0, locals := 44 }
theorem gd_n_must_224_n_isGood : GoodIn vs_n_must (wsV RX12 224 RX12 yX12_isGood vs_n_isGood) := goodIn_app (goodIn_sub (fun w h => (List.mem_cons_of_mem _ (List.mem_append_right _ (List.mem_append_left _ h)))) (by decide +kernel)) (goodIn_sub (fun w h => (List.mem_cons_of_mem _ (List.mem_append_right _ (List.mem_append_right _ (List.mem_append_left _ h))))) vg_n_isGood)
theorem gd_n_must_231_n_wrong : GoodIn vs_n_must (wsV RX12 231 RX12 yX12_wrong vs_n_wrong) := goodIn_app (goodIn_sub (fun w h => (List.mem_cons_of_mem _ (List.mem_append_right _ (List.mem_append_right _ (List.mem_append_right _ (List.mem_append_left _ h)))))) (by decide +kernel)) (goodIn_sub (fun w h => (List.mem_cons_of_mem _ (List.mem_append_right _ (List.mem_append_right _ (List.mem_append_right _ (List.mem_append_right _ (List.mem_append_left _ h))))))) vg_n_wrong)
theorem gd_n_must_228_n_next : GoodIn vs_n_must (wsV RX12 228 RX12 yX12_next vs_n_next) := goodIn_app (goodIn_sub (fun w h => (List.mem_cons_of_mem _ (List.mem_append_right _ (List.mem_append_right _ (List.mem_append_right _ (List.mem_append_right _ (List.mem_append_right _ (List.mem_append_left _ h)))))))) (by decide +kernel)) (goodIn_sub (fun w h => (List.mem_cons_of_mem _ (List.mem_append_right _ (List.mem_append_right _ (List.mem_append_right _ (List.mem_append_right _ (List.mem_append_right _ (List.mem_append_right _ h)))))))) vg_n_next)
set_option maxHeartbeats 4000000 in
set_option maxRecDepth 100000 in
/-- must(x) -/
theorem n_must (l : Launch) (dC : Nat → ClassId) (dI : Nat → Nat → Nat) (h : Nat) (ad : Nat → Nat) (cl : Nat → ClassId) (sz : Nat) (σ : MS) (x : Int32) (hI : Inv σ) : Met l yX12_must vs_n_must rm_n_must (va_Pc [.ref h, .int x] (wSt dC dI (mW h ad cl σ) (mT cl) sz)) (va_Qv (fun (τ : MS) => Inv τ ∧ eqx [6, 7, 8, 9, 10, 4, 5] τ σ) (fun (τ : MS) => wEn dC dI (va_A (mW h ad cl σ) sz) (mW h ad cl τ) []) (va_A (mW h ad cl σ) sz)) 0 0 (va_A (mW h ad cl σ) sz) := by
  refine Met.ofW (cc := cX12_must) (maxL := 2) (ret := none) (by decide) rfl ?_
  intro p e s m args below meth c s₁ B hml hv
  obtain ⟨rfl, hsz, hP, hK, hD0, hE⟩ := hv
  have hx := B.exec
  have hb := B.bytes
  have hr := B.returns
  have hts := atoms_spec (ws := vs_n_must) B.pre
  have hown : s.vm.findClass RX12 = some m.cls := findClass_of_methodNamed B.named
  have hlocks := B.notSynchronized
  subst hsz
  have hD := hD0.self (sz := s.heap.size)
  generalize hAe : va_A (mW h ad cl σ) s.heap.size = A at hD ⊢
  have hA : ∀ q : Nat, s.heap.size ≤ q → A q := fun q h => by rw [← hAe]; exact Or.inr h
  have hl := lv_entry ([.ref h, .int x]) (n := 2) (Nat.le_of_ble_eq_true rfl)
  rw [lg_entry_eq]
  generalize (lg_sl ([.ref h, .int x]) ++ List.replicate (2 - (lg_sl ([.ref h, .int x])).length) Slot.unset).toArray = ls at hl ⊢
  have hl : lv_has ls 2 [(0, .ref h), (1, .int x)] := hl
  have ho := fun w (h : w ∈ ow_n_must) => hts w (List.mem_cons_of_mem _ (List.mem_append_left _ h))
  refine zQ (fun Q hQ => ?_)
  refine zH (A := A) (ws := mW h ad cl σ) (fun H hP hS => ?_) hP
  refine lv_aload_n hx hb dX12_must_0 rfl (lv_at hl 0 rfl) ?_
  refine zy_i (va_runV (As := []) (rest := []) ⟨hx, hb, hml, hown, hts⟩ (n_isGood l dC dI h ad cl H.size σ  hI) (cwV 0 hts gd_n_must_224_n_isGood rfl rfl rfl (by decide +kernel) ⟨Nat.le_of_ble_eq_true rfl, Nat.le_of_ble_eq_true rfl⟩) (preV hP hK hD hE (ci := 12) (q0 := 0) rfl rfl) rfl rfl hl.1 rfl (lv_room (Nat.le_of_ble_eq_true rfl)) dX12_must_1 ⟨Nat.le_of_ble_eq_true rfl, Nat.le_of_ble_eq_true rfl⟩) hD hS hA (fun z2 τ1 H locs hq hP hD hS => ?_)
  obtain ⟨rfl, f3⟩ := hq
  refine W.widen (k := 0) (n := 0) (Nat.le_of_ble_eq_true rfl) (Nat.le_of_ble_eq_true rfl) ?_
  refine lv_if_ne (tgt := 8) hx hb dX12_must_4 (by decide) (fun c4 => ?_) (fun c4 => ?_)
  · have tc4 := (show z2.toInt ≠ 0 from ti_ne rfl (by decide) c4)
    refine lv_iload_n hx hb dX12_must_8 rfl (lv_at hl 1 rfl) ?_
    refine lv_if_eq (tgt := 19) hx hb dX12_must_9 (by decide) (fun c5 => ?_) (fun c5 => ?_)
    · have tc5 := (show x.toInt = 0 from ti_eq rfl (by decide) c5)
      refine lv_aload_n hx hb dX12_must_19 rfl (lv_at hl 0 rfl) ?_
      refine zy_v (va_runV (As := []) (rest := []) ⟨hx, hb, hml, hown, hts⟩ (n_wrong l dC dI h ad cl H.size σ  hI) (cwV 0 hts gd_n_must_231_n_wrong rfl rfl rfl (by decide +kernel) ⟨Nat.le_of_ble_eq_true rfl, Nat.le_of_ble_eq_true rfl⟩) (preV hP hK hD hE (ci := 12) (q0 := 0) rfl rfl) rfl rfl hl.1 rfl (lv_room (Nat.le_of_ble_eq_true rfl)) dX12_must_20 ⟨Nat.le_of_ble_eq_true rfl, Nat.le_of_ble_eq_true rfl⟩) hD hS hA (fun τ6 H locs hq hP hD hS => ?_)
      obtain ⟨hI8, hx9, f10⟩ := hq
      refine W.widen (k := 0) (n := 0) (Nat.le_of_ble_eq_true rfl) (Nat.le_of_ble_eq_true rfl) ?_
      rw [hQ]
      exact W.vret hx hb hr (fun t ht hW => ⟨⟨τ6, rfl, ⟨hI8, (eqx.tr hx9 eqx.rf (by decide))⟩, wEn_of hP (hK.sub [] rfl) hD ht hW⟩, hS.F ht⟩) hS.2.2 dX12_must_23
    · have tc5 := (show x.toInt ≠ 0 from ti_ne rfl (by decide) c5)
      refine lv_aload_n hx hb dX12_must_12 rfl (lv_at hl 0 rfl) ?_
      refine zy_v (va_runV (As := []) (rest := []) ⟨hx, hb, hml, hown, hts⟩ (n_next l dC dI h ad cl H.size σ  hI) (cwV 0 hts gd_n_must_228_n_next rfl rfl rfl (by decide +kernel) ⟨Nat.le_of_ble_eq_true rfl, Nat.le_of_ble_eq_true rfl⟩) (preV hP hK hD hE (ci := 12) (q0 := 0) rfl rfl) rfl rfl hl.1 rfl (lv_room (Nat.le_of_ble_eq_true rfl)) dX12_must_13 ⟨Nat.le_of_ble_eq_true rfl, Nat.le_of_ble_eq_true rfl⟩) hD hS hA (fun τ11 H locs hq hP hD hS => ?_)
      obtain ⟨hI13, hx14⟩ := hq
      refine W.widen (k := 0) (n := 0) (Nat.le_of_ble_eq_true rfl) (Nat.le_of_ble_eq_true rfl) ?_
      refine lv_goto (tgt := 23) hx hb dX12_must_16 (by decide) ?_
      rw [hQ]
      exact W.vret hx hb hr (fun t ht hW => ⟨⟨τ11, rfl, ⟨hI13, (eqx.tr hx14 eqx.rf (by decide))⟩, wEn_of hP (hK.sub [] rfl) hD ht hW⟩, hS.F ht⟩) hS.2.2 dX12_must_23
  · have tc4 := (show z2.toInt = 0 from ti_eq rfl (by decide) c4)
    rw [hQ]
    exact W.vret hx hb hr (fun t ht hW => ⟨⟨σ, rfl, ⟨hI, eqx.rf⟩, wEn_of hP (hK.sub [] rfl) hD ht hW⟩, hS.F ht⟩) hS.2.2 dX12_must_7
def ow_n_numeral : List Cond := [.fieldLink RX12 199 "NearEnoughModel" "token" "I", .fieldLink RX12 217 "NearEnoughModel" "number" "I", .fieldLink RX12 192 "NearEnoughModel" "at" "I"]
def vs_n_numeral : List Cond := .code yX12_numeral cX12_numeral 4 (some .int) :: (ow_n_numeral ++ (([.methodLink RX12 224 yX12_isGood, .instanceMethod yX12_isGood, .selects RX12 yX12_isGood yX12_isGood, .initialized RX12] : List Cond) ++ (vs_n_isGood ++ (([.methodLink RX12 228 yX12_next, .instanceMethod yX12_next, .selects RX12 yX12_next yX12_next, .initialized RX12] : List Cond) ++ (vs_n_next ++ (([.methodLink RX12 220 yX12_fails, .instanceMethod yX12_fails, .selects RX12 yX12_fails yX12_fails, .initialized RX12] : List Cond) ++ (vs_n_fails ++ (([.methodLink RX12 231 yX12_wrong, .instanceMethod yX12_wrong, .selects RX12 yX12_wrong yX12_wrong, .initialized RX12] : List Cond) ++ (vs_n_wrong ++ (wsX120))))))))))
theorem vg_n_numeral : vs_n_numeral.all goodWord = true := by decide +kernel
def rm_n_numeral : Room := { frames := 2, cells := 0, slots := 0, locals := 44 }
theorem gd_n_numeral_224_n_isGood : GoodIn vs_n_numeral (wsV RX12 224 RX12 yX12_isGood vs_n_isGood) := goodIn_app (goodIn_sub (fun w h => (List.mem_cons_of_mem _ (List.mem_append_right _ (List.mem_append_left _ h)))) (by decide +kernel)) (goodIn_sub (fun w h => (List.mem_cons_of_mem _ (List.mem_append_right _ (List.mem_append_right _ (List.mem_append_left _ h))))) vg_n_isGood)
theorem gd_n_numeral_228_n_next : GoodIn vs_n_numeral (wsV RX12 228 RX12 yX12_next vs_n_next) := goodIn_app (goodIn_sub (fun w h => (List.mem_cons_of_mem _ (List.mem_append_right _ (List.mem_append_right _ (List.mem_append_right _ (List.mem_append_left _ h)))))) (by decide +kernel)) (goodIn_sub (fun w h => (List.mem_cons_of_mem _ (List.mem_append_right _ (List.mem_append_right _ (List.mem_append_right _ (List.mem_append_right _ (List.mem_append_left _ h))))))) vg_n_next)
theorem gd_n_numeral_220_n_fails : GoodIn vs_n_numeral (wsV RX12 220 RX12 yX12_fails vs_n_fails) := goodIn_app (goodIn_sub (fun w h => (List.mem_cons_of_mem _ (List.mem_append_right _ (List.mem_append_right _ (List.mem_append_right _ (List.mem_append_right _ (List.mem_append_right _ (List.mem_append_left _ h)))))))) (by decide +kernel)) (goodIn_sub (fun w h => (List.mem_cons_of_mem _ (List.mem_append_right _ (List.mem_append_right _ (List.mem_append_right _ (List.mem_append_right _ (List.mem_append_right _ (List.mem_append_right _ (List.mem_append_left _ h))))))))) vg_n_fails)
theorem gd_n_numeral_231_n_wrong : GoodIn vs_n_numeral (wsV RX12 231 RX12 yX12_wrong vs_n_wrong) := goodIn_app (goodIn_sub (fun w h => (List.mem_cons_of_mem _ (List.mem_append_right _ (List.mem_append_right _ (List.mem_append_right _ (List.mem_append_right _ (List.mem_append_right _ (List.mem_append_right _ (List.mem_append_right _ (List.mem_append_left _ h)))))))))) (by decide +kernel)) (goodIn_sub (fun w h => (List.mem_cons_of_mem _ (List.mem_append_right _ (List.mem_append_right _ (List.mem_append_right _ (List.mem_append_right _ (List.mem_append_right _ (List.mem_append_right _ (List.mem_append_right _ (List.mem_append_right _ (List.mem_append_left _ h))))))))))) vg_n_wrong)
set_option maxHeartbeats 4000000 in
set_option maxRecDepth 100000 in
theorem n_numeral (l : Launch) (dC : Nat → ClassId) (dI : Nat → Nat → Nat) (h : Nat) (ad : Nat → Nat) (cl : Nat → ClassId) (sz : Nat) (σ : MS) (a : Int32) (b : Int32) (hI : Inv σ) (hab : a.toInt ≤ b.toInt) : Met l yX12_numeral vs_n_numeral rm_n_numeral (va_Pc [.ref h, .int a, .int b] (wSt dC dI (mW h ad cl σ) (mT cl) sz)) (va_Qi (fun (r : Int32) (τ : MS) => Inv τ ∧ eqx [6, 7, 8, 9, 10, 4, 5] τ σ ∧ a.toInt ≤ r.toInt ∧ r.toInt ≤ b.toInt) (fun (τ : MS) => wEn dC dI (va_A (mW h ad cl σ) sz) (mW h ad cl τ) []) (va_A (mW h ad cl σ) sz)) 0 0 (va_A (mW h ad cl σ) sz) := by
  refine Met.ofW (cc := cX12_numeral) (maxL := 4) (ret := (some .int)) (by decide) rfl ?_
  intro p e s m args below meth c s₁ B hml hv
  obtain ⟨rfl, hsz, hP, hK, hD0, hE⟩ := hv
  have hx := B.exec
  have hb := B.bytes
  have hr := B.returns
  have hts := atoms_spec (ws := vs_n_numeral) B.pre
  have hown : s.vm.findClass RX12 = some m.cls := findClass_of_methodNamed B.named
  have hlocks := B.notSynchronized
  subst hsz
  have hD := hD0.self (sz := s.heap.size)
  generalize hAe : va_A (mW h ad cl σ) s.heap.size = A at hD ⊢
  have hA : ∀ q : Nat, s.heap.size ≤ q → A q := fun q h => by rw [← hAe]; exact Or.inr h
  have hl := lv_entry ([.ref h, .int a, .int b]) (n := 4) (Nat.le_of_ble_eq_true rfl)
  rw [lg_entry_eq]
  generalize (lg_sl ([.ref h, .int a, .int b]) ++ List.replicate (4 - (lg_sl ([.ref h, .int a, .int b])).length) Slot.unset).toArray = ls at hl ⊢
  have hl : lv_has ls 4 [(0, .ref h), (1, .int a), (2, .int b)] := hl
  have ho := fun w (h : w ∈ ow_n_numeral) => hts w (List.mem_cons_of_mem _ (List.mem_append_left _ h))
  have hin12 : ∀ w ∈ u_ws RX12 TX12 59, w ∈ vs_n_numeral := fun w h => (List.mem_cons_of_mem _ (List.mem_append_right _ (List.mem_append_right _ (List.mem_append_right _ (List.mem_append_right _ (List.mem_append_right _ (List.mem_append_right _ (List.mem_append_right _ (List.mem_append_right _ (List.mem_append_right _ h))))))))))
  refine zQ (fun Q hQ => ?_)
  refine zH (A := A) (ws := mW h ad cl σ) (fun H hP hS => ?_) hP
  have bσ_4 : 0 ≤ (σ.1 4).toInt ∧ (σ.1 4).toInt ≤ 7 := hI.1 4
  refine lv_aload_n hx hb dX12_numeral_0 rfl (lv_at hl 0 rfl) ?_
  refine zy_i (va_runV (As := []) (rest := []) ⟨hx, hb, hml, hown, hts⟩ (n_isGood l dC dI h ad cl H.size σ  hI) (cwV 0 hts gd_n_numeral_224_n_isGood rfl rfl rfl (by decide +kernel) ⟨Nat.le_of_ble_eq_true rfl, Nat.le_of_ble_eq_true rfl⟩) (preV hP hK hD hE (ci := 12) (q0 := 0) rfl rfl) rfl rfl hl.1 rfl (lv_room (Nat.le_of_ble_eq_true rfl)) dX12_numeral_1 ⟨Nat.le_of_ble_eq_true rfl, Nat.le_of_ble_eq_true rfl⟩) hD hS hA (fun z2 τ1 H locs hq hP hD hS => ?_)
  obtain ⟨rfl, f3⟩ := hq
  refine W.widen (k := 0) (n := 0) (Nat.le_of_ble_eq_true rfl) (Nat.le_of_ble_eq_true rfl) ?_
  refine lv_if_ne (tgt := 9) hx hb dX12_numeral_4 (by decide) (fun c4 => ?_) (fun c4 => ?_)
  · have tc4 := (show z2.toInt ≠ 0 from ti_ne rfl (by decide) c4)
    refine lv_aload_n hx hb dX12_numeral_9 rfl (lv_at hl 0 rfl) ?_
    refine va_get (D := (dC, dI)) (ci := 12) (v := .int (σ.1 8)) (C := RX12) (T := TX12) (N := 59) hx hb hts hin12 hown hK hP 0 rfl rfl 8 (by decide) (ho (.fieldLink RX12 199 "NearEnoughModel" "token" "I") (List.mem_of_getElem? (i := 0) rfl)) (fun _ h9 => h9) rfl dX12_numeral_10 ?_
    have bσ_8 : 0 ≤ (σ.1 8).toInt ∧ (σ.1 8).toInt ≤ 5 := hI.1 8
    refine lv_iconst (v := 4) hx hb dX12_numeral_13 (by decide) ?_
    refine lv_icmp_eq (tgt := 21) hx hb dX12_numeral_14 (by decide) (fun c5 => ?_) (fun c5 => ?_)
    · have tc5 := (show (σ.1 8).toInt = 4 from ti_eq rfl (by decide) c5)
      refine lv_aload_n hx hb dX12_numeral_21 rfl (lv_at hl 0 rfl) ?_
      refine zy_i (va_runV (As := []) (rest := []) ⟨hx, hb, hml, hown, hts⟩ (n_isGood l dC dI h ad cl H.size σ  hI) (cwV 0 hts gd_n_numeral_224_n_isGood rfl rfl rfl (by decide +kernel) ⟨Nat.le_of_ble_eq_true rfl, Nat.le_of_ble_eq_true rfl⟩) (preV hP hK hD hE (ci := 12) (q0 := 0) rfl rfl) rfl rfl hl.1 rfl (lv_room (Nat.le_of_ble_eq_true rfl)) dX12_numeral_22 ⟨Nat.le_of_ble_eq_true rfl, Nat.le_of_ble_eq_true rfl⟩) hD hS hA (fun z7 τ6 H locs hq hP hD hS => ?_)
      obtain ⟨rfl, f8⟩ := hq
      refine W.widen (k := 0) (n := 0) (Nat.le_of_ble_eq_true rfl) (Nat.le_of_ble_eq_true rfl) ?_
      refine lv_if_eq (tgt := 53) hx hb dX12_numeral_25 (by decide) (fun c9 => ?_) (fun c9 => ?_)
      · have tc9 := (show z7.toInt = 0 from ti_eq rfl (by decide) c9)
        refine lv_aload_n hx hb dX12_numeral_53 rfl (lv_at hl 0 rfl) ?_
        refine va_get (D := (dC, dI)) (ci := 12) (v := .int (σ.1 9)) (C := RX12) (T := TX12) (N := 59) hx hb hts hin12 hown hK hP 0 rfl rfl 9 (by decide) (ho (.fieldLink RX12 217 "NearEnoughModel" "number" "I") (List.mem_of_getElem? (i := 1) rfl)) (fun _ h9 => h9) rfl dX12_numeral_54 ?_
        refine lv_istore_n (lv' := [(3, .int (σ.1 9)), (0, .ref h), (1, .int a), (2, .int b)]) hx hb dX12_numeral_57 rfl hl (by decide) rfl (fun ls hl => ?_)
        refine lv_aload_n hx hb dX12_numeral_58 rfl (lv_at hl 1 rfl) ?_
        refine zy_i (va_runV (As := []) (rest := []) ⟨hx, hb, hml, hown, hts⟩ (n_isGood l dC dI h ad cl H.size σ  hI) (cwV 0 hts gd_n_numeral_224_n_isGood rfl rfl rfl (by decide +kernel) ⟨Nat.le_of_ble_eq_true rfl, Nat.le_of_ble_eq_true rfl⟩) (preV hP hK hD hE (ci := 12) (q0 := 0) rfl rfl) rfl rfl hl.1 rfl (lv_room (Nat.le_of_ble_eq_true rfl)) dX12_numeral_59 ⟨Nat.le_of_ble_eq_true rfl, Nat.le_of_ble_eq_true rfl⟩) hD hS hA (fun z11 τ10 H locs hq hP hD hS => ?_)
        obtain ⟨rfl, f12⟩ := hq
        refine W.widen (k := 0) (n := 0) (Nat.le_of_ble_eq_true rfl) (Nat.le_of_ble_eq_true rfl) ?_
        refine lv_if_eq (tgt := 69) hx hb dX12_numeral_62 (by decide) (fun c13 => ?_) (fun c13 => ?_)
        · have tc13 := (show z11.toInt = 0 from ti_eq rfl (by decide) c13)
          refine lv_aload_n hx hb dX12_numeral_69 rfl (lv_at hl 1 rfl) ?_
          refine zy_i (va_runV (As := []) (rest := []) ⟨hx, hb, hml, hown, hts⟩ (n_isGood l dC dI h ad cl H.size σ  hI) (cwV 0 hts gd_n_numeral_224_n_isGood rfl rfl rfl (by decide +kernel) ⟨Nat.le_of_ble_eq_true rfl, Nat.le_of_ble_eq_true rfl⟩) (preV hP hK hD hE (ci := 12) (q0 := 0) rfl rfl) rfl rfl hl.1 rfl (lv_room (Nat.le_of_ble_eq_true rfl)) dX12_numeral_70 ⟨Nat.le_of_ble_eq_true rfl, Nat.le_of_ble_eq_true rfl⟩) hD hS hA (fun z15 τ14 H locs hq hP hD hS => ?_)
          obtain ⟨rfl, f16⟩ := hq
          refine W.widen (k := 0) (n := 0) (Nat.le_of_ble_eq_true rfl) (Nat.le_of_ble_eq_true rfl) ?_
          refine lv_if_eq (tgt := 80) hx hb dX12_numeral_73 (by decide) (fun c17 => ?_) (fun c17 => ?_)
          · have tc17 := (show z15.toInt = 0 from ti_eq rfl (by decide) c17)
            refine lv_iload_n hx hb dX12_numeral_80 rfl (lv_at hl 2 rfl) ?_
            rw [hQ]
            exact W.iret (v := a) hx hb hr (fun t ht hW => ⟨⟨a, σ, rfl, ⟨hI, eqx.rf, (by omega), (by omega)⟩, wEn_of hP (hK.sub [] rfl) hD ht hW⟩, hS.F ht⟩) hS.2.2 dX12_numeral_81
          · have tc17 := (show z15.toInt ≠ 0 from ti_ne rfl (by decide) c17)
            refine lv_iload_n hx hb dX12_numeral_76 rfl (lv_at hl 0 rfl) ?_
            refine lv_goto (tgt := 81) hx hb dX12_numeral_77 (by decide) ?_
            rw [hQ]
            exact W.iret (v := (σ.1 9)) hx hb hr (fun t ht hW => ⟨⟨(σ.1 9), σ, rfl, ⟨hI, eqx.rf, (by omega), (by omega)⟩, wEn_of hP (hK.sub [] rfl) hD ht hW⟩, hS.F ht⟩) hS.2.2 dX12_numeral_81
        · have tc13 := (show z11.toInt ≠ 0 from ti_ne rfl (by decide) c13)
          refine lv_aload_n hx hb dX12_numeral_65 rfl (lv_at hl 1 rfl) ?_
          refine zy_v (va_runV (As := []) (rest := []) ⟨hx, hb, hml, hown, hts⟩ (n_next l dC dI h ad cl H.size σ  hI) (cwV 0 hts gd_n_numeral_228_n_next rfl rfl rfl (by decide +kernel) ⟨Nat.le_of_ble_eq_true rfl, Nat.le_of_ble_eq_true rfl⟩) (preV hP hK hD hE (ci := 12) (q0 := 0) rfl rfl) rfl rfl hl.1 rfl (lv_room (Nat.le_of_ble_eq_true rfl)) dX12_numeral_66 ⟨Nat.le_of_ble_eq_true rfl, Nat.le_of_ble_eq_true rfl⟩) hD hS hA (fun τ18 H locs hq hP hD hS => ?_)
          obtain ⟨hI20, hx21⟩ := hq
          refine W.widen (k := 0) (n := 0) (Nat.le_of_ble_eq_true rfl) (Nat.le_of_ble_eq_true rfl) ?_
          refine lv_aload_n hx hb dX12_numeral_69 rfl (lv_at hl 1 rfl) ?_
          refine zy_i (va_runV (As := []) (rest := []) ⟨hx, hb, hml, hown, hts⟩ (n_isGood l dC dI h ad cl H.size τ18  hI20) (cwV 0 hts gd_n_numeral_224_n_isGood rfl rfl rfl (by decide +kernel) ⟨Nat.le_of_ble_eq_true rfl, Nat.le_of_ble_eq_true rfl⟩) (preV hP hK hD hE (ci := 12) (q0 := 0) rfl rfl) rfl rfl hl.1 rfl (lv_room (Nat.le_of_ble_eq_true rfl)) dX12_numeral_70 ⟨Nat.le_of_ble_eq_true rfl, Nat.le_of_ble_eq_true rfl⟩) hD hS hA (fun z23 τ22 H locs hq hP hD hS => ?_)
          obtain ⟨rfl, f24⟩ := hq
          refine W.widen (k := 0) (n := 0) (Nat.le_of_ble_eq_true rfl) (Nat.le_of_ble_eq_true rfl) ?_
          refine lv_if_eq (tgt := 80) hx hb dX12_numeral_73 (by decide) (fun c25 => ?_) (fun c25 => ?_)
          · have tc25 := (show z23.toInt = 0 from ti_eq rfl (by decide) c25)
            refine lv_iload_n hx hb dX12_numeral_80 rfl (lv_at hl 2 rfl) ?_
            rw [hQ]
            exact W.iret (v := a) hx hb hr (fun t ht hW => ⟨⟨a, τ18, rfl, ⟨hI20, (eqx.tr hx21 eqx.rf (by decide)), (by omega), (by omega)⟩, wEn_of hP (hK.sub [] rfl) hD ht hW⟩, hS.F ht⟩) hS.2.2 dX12_numeral_81
          · have tc25 := (show z23.toInt ≠ 0 from ti_ne rfl (by decide) c25)
            refine lv_iload_n hx hb dX12_numeral_76 rfl (lv_at hl 0 rfl) ?_
            refine lv_goto (tgt := 81) hx hb dX12_numeral_77 (by decide) ?_
            rw [hQ]
            exact W.iret (v := (σ.1 9)) hx hb hr (fun t ht hW => ⟨⟨(σ.1 9), τ18, rfl, ⟨hI20, (eqx.tr hx21 eqx.rf (by decide)), (by omega), (by omega)⟩, wEn_of hP (hK.sub [] rfl) hD ht hW⟩, hS.F ht⟩) hS.2.2 dX12_numeral_81
      · have tc9 := (show z7.toInt ≠ 0 from ti_ne rfl (by decide) c9)
        refine lv_aload_n hx hb dX12_numeral_28 rfl (lv_at hl 0 rfl) ?_
        refine va_get (D := (dC, dI)) (ci := 12) (v := .int (σ.1 9)) (C := RX12) (T := TX12) (N := 59) hx hb hts hin12 hown hK hP 0 rfl rfl 9 (by decide) (ho (.fieldLink RX12 217 "NearEnoughModel" "number" "I") (List.mem_of_getElem? (i := 1) rfl)) (fun _ h9 => h9) rfl dX12_numeral_29 ?_
        refine lv_iload_n hx hb dX12_numeral_32 rfl (lv_at hl 1 rfl) ?_
        refine lv_icmp_lt (tgt := 44) hx hb dX12_numeral_33 (by decide) (fun c26 => ?_) (fun c26 => ?_)
        · have tc26 := (show (σ.1 9).toInt < a.toInt from ti_lt rfl rfl c26)
          refine lv_aload_n hx hb dX12_numeral_44 rfl (lv_at hl 0 rfl) ?_
          refine lv_iconst (v := 4) hx hb dX12_numeral_45 (by decide) ?_
          refine lv_aload_n hx hb dX12_numeral_46 rfl (lv_at hl 0 rfl) ?_
          refine va_get (D := (dC, dI)) (ci := 12) (v := .int (σ.1 6)) (C := RX12) (T := TX12) (N := 59) hx hb hts hin12 hown hK hP 0 rfl rfl 6 (by decide) (ho (.fieldLink RX12 192 "NearEnoughModel" "at" "I") (List.mem_of_getElem? (i := 2) rfl)) (fun _ h9 => h9) rfl dX12_numeral_47 ?_
          have bσ_6 : 0 ≤ (σ.1 6).toInt ∧ (σ.1 6).toInt ≤ 1000 := hI.1 6
          have kk27 : (4 : Int32).toInt = 4 := by decide
          refine zy_v (va_runV (As := [.int 4, .int (σ.1 6)]) (rest := []) ⟨hx, hb, hml, hown, hts⟩ (n_fails l dC dI h ad cl H.size σ 4 (σ.1 6) hI (by omega)) (cwV 2 hts gd_n_numeral_220_n_fails rfl rfl rfl (by decide +kernel) ⟨Nat.le_of_ble_eq_true rfl, Nat.le_of_ble_eq_true rfl⟩) (preV hP hK hD hE (ci := 12) (q0 := 0) rfl rfl) rfl rfl hl.1 rfl (lv_room (Nat.le_of_ble_eq_true rfl)) dX12_numeral_50 ⟨Nat.le_of_ble_eq_true rfl, Nat.le_of_ble_eq_true rfl⟩) hD hS hA (fun τ28 H locs hq hP hD hS => ?_)
          obtain ⟨hI30, hx31, f32⟩ := hq
          refine W.widen (k := 0) (n := 0) (Nat.le_of_ble_eq_true rfl) (Nat.le_of_ble_eq_true rfl) ?_
          refine lv_aload_n hx hb dX12_numeral_53 rfl (lv_at hl 0 rfl) ?_
          refine va_get (D := (dC, dI)) (ci := 12) (v := .int (τ28.1 9)) (C := RX12) (T := TX12) (N := 59) hx hb hts hin12 hown hK hP 0 rfl rfl 9 (by decide) (ho (.fieldLink RX12 217 "NearEnoughModel" "number" "I") (List.mem_of_getElem? (i := 1) rfl)) (fun _ h9 => h9) rfl dX12_numeral_54 ?_
          refine zi (v := (σ.1 9)) (hx31 9 (by decide)).1 ?_
          refine lv_istore_n (lv' := [(3, .int (σ.1 9)), (0, .ref h), (1, .int a), (2, .int b)]) hx hb dX12_numeral_57 rfl hl (by decide) rfl (fun ls hl => ?_)
          refine lv_aload_n hx hb dX12_numeral_58 rfl (lv_at hl 1 rfl) ?_
          refine zy_i (va_runV (As := []) (rest := []) ⟨hx, hb, hml, hown, hts⟩ (n_isGood l dC dI h ad cl H.size τ28  hI30) (cwV 0 hts gd_n_numeral_224_n_isGood rfl rfl rfl (by decide +kernel) ⟨Nat.le_of_ble_eq_true rfl, Nat.le_of_ble_eq_true rfl⟩) (preV hP hK hD hE (ci := 12) (q0 := 0) rfl rfl) rfl rfl hl.1 rfl (lv_room (Nat.le_of_ble_eq_true rfl)) dX12_numeral_59 ⟨Nat.le_of_ble_eq_true rfl, Nat.le_of_ble_eq_true rfl⟩) hD hS hA (fun z34 τ33 H locs hq hP hD hS => ?_)
          obtain ⟨rfl, f35⟩ := hq
          refine W.widen (k := 0) (n := 0) (Nat.le_of_ble_eq_true rfl) (Nat.le_of_ble_eq_true rfl) ?_
          refine lv_if_eq (tgt := 69) hx hb dX12_numeral_62 (by decide) (fun c36 => ?_) (fun c36 => ?_)
          · have tc36 := (show z34.toInt = 0 from ti_eq rfl (by decide) c36)
            refine lv_aload_n hx hb dX12_numeral_69 rfl (lv_at hl 1 rfl) ?_
            refine zy_i (va_runV (As := []) (rest := []) ⟨hx, hb, hml, hown, hts⟩ (n_isGood l dC dI h ad cl H.size τ28  hI30) (cwV 0 hts gd_n_numeral_224_n_isGood rfl rfl rfl (by decide +kernel) ⟨Nat.le_of_ble_eq_true rfl, Nat.le_of_ble_eq_true rfl⟩) (preV hP hK hD hE (ci := 12) (q0 := 0) rfl rfl) rfl rfl hl.1 rfl (lv_room (Nat.le_of_ble_eq_true rfl)) dX12_numeral_70 ⟨Nat.le_of_ble_eq_true rfl, Nat.le_of_ble_eq_true rfl⟩) hD hS hA (fun z38 τ37 H locs hq hP hD hS => ?_)
            obtain ⟨rfl, f39⟩ := hq
            refine W.widen (k := 0) (n := 0) (Nat.le_of_ble_eq_true rfl) (Nat.le_of_ble_eq_true rfl) ?_
            refine lv_if_eq (tgt := 80) hx hb dX12_numeral_73 (by decide) (fun c40 => ?_) (fun c40 => ?_)
            · have tc40 := (show z38.toInt = 0 from ti_eq rfl (by decide) c40)
              refine lv_iload_n hx hb dX12_numeral_80 rfl (lv_at hl 2 rfl) ?_
              rw [hQ]
              exact W.iret (v := a) hx hb hr (fun t ht hW => ⟨⟨a, τ28, rfl, ⟨hI30, (eqx.tr hx31 eqx.rf (by decide)), (by omega), (by omega)⟩, wEn_of hP (hK.sub [] rfl) hD ht hW⟩, hS.F ht⟩) hS.2.2 dX12_numeral_81
            · have tc40 := (show z38.toInt ≠ 0 from ti_ne rfl (by decide) c40)
              refine lv_iload_n hx hb dX12_numeral_76 rfl (lv_at hl 0 rfl) ?_
              refine lv_goto (tgt := 81) hx hb dX12_numeral_77 (by decide) ?_
              rw [hQ]
              exact W.iret (v := (σ.1 9)) hx hb hr (fun t ht hW => ⟨⟨(σ.1 9), τ28, rfl, ⟨hI30, (eqx.tr hx31 eqx.rf (by decide)), (by omega), (by omega)⟩, wEn_of hP (hK.sub [] rfl) hD ht hW⟩, hS.F ht⟩) hS.2.2 dX12_numeral_81
          · have tc36 := (show z34.toInt ≠ 0 from ti_ne rfl (by decide) c36)
            refine lv_aload_n hx hb dX12_numeral_65 rfl (lv_at hl 1 rfl) ?_
            refine zy_v (va_runV (As := []) (rest := []) ⟨hx, hb, hml, hown, hts⟩ (n_next l dC dI h ad cl H.size τ28  hI30) (cwV 0 hts gd_n_numeral_228_n_next rfl rfl rfl (by decide +kernel) ⟨Nat.le_of_ble_eq_true rfl, Nat.le_of_ble_eq_true rfl⟩) (preV hP hK hD hE (ci := 12) (q0 := 0) rfl rfl) rfl rfl hl.1 rfl (lv_room (Nat.le_of_ble_eq_true rfl)) dX12_numeral_66 ⟨Nat.le_of_ble_eq_true rfl, Nat.le_of_ble_eq_true rfl⟩) hD hS hA (fun τ41 H locs hq hP hD hS => ?_)
            obtain ⟨hI43, hx44⟩ := hq
            refine W.widen (k := 0) (n := 0) (Nat.le_of_ble_eq_true rfl) (Nat.le_of_ble_eq_true rfl) ?_
            refine lv_aload_n hx hb dX12_numeral_69 rfl (lv_at hl 1 rfl) ?_
            refine zy_i (va_runV (As := []) (rest := []) ⟨hx, hb, hml, hown, hts⟩ (n_isGood l dC dI h ad cl H.size τ41  hI43) (cwV 0 hts gd_n_numeral_224_n_isGood rfl rfl rfl (by decide +kernel) ⟨Nat.le_of_ble_eq_true rfl, Nat.le_of_ble_eq_true rfl⟩) (preV hP hK hD hE (ci := 12) (q0 := 0) rfl rfl) rfl rfl hl.1 rfl (lv_room (Nat.le_of_ble_eq_true rfl)) dX12_numeral_70 ⟨Nat.le_of_ble_eq_true rfl, Nat.le_of_ble_eq_true rfl⟩) hD hS hA (fun z46 τ45 H locs hq hP hD hS => ?_)
            obtain ⟨rfl, f47⟩ := hq
            refine W.widen (k := 0) (n := 0) (Nat.le_of_ble_eq_true rfl) (Nat.le_of_ble_eq_true rfl) ?_
            refine lv_if_eq (tgt := 80) hx hb dX12_numeral_73 (by decide) (fun c48 => ?_) (fun c48 => ?_)
            · have tc48 := (show z46.toInt = 0 from ti_eq rfl (by decide) c48)
              refine lv_iload_n hx hb dX12_numeral_80 rfl (lv_at hl 2 rfl) ?_
              rw [hQ]
              exact W.iret (v := a) hx hb hr (fun t ht hW => ⟨⟨a, τ41, rfl, ⟨hI43, (eqx.tr hx44 (eqx.tr hx31 eqx.rf (by decide)) (by decide)), (by omega), (by omega)⟩, wEn_of hP (hK.sub [] rfl) hD ht hW⟩, hS.F ht⟩) hS.2.2 dX12_numeral_81
            · have tc48 := (show z46.toInt ≠ 0 from ti_ne rfl (by decide) c48)
              refine lv_iload_n hx hb dX12_numeral_76 rfl (lv_at hl 0 rfl) ?_
              refine lv_goto (tgt := 81) hx hb dX12_numeral_77 (by decide) ?_
              rw [hQ]
              exact W.iret (v := (σ.1 9)) hx hb hr (fun t ht hW => ⟨⟨(σ.1 9), τ41, rfl, ⟨hI43, (eqx.tr hx44 (eqx.tr hx31 eqx.rf (by decide)) (by decide)), (by omega), (by omega)⟩, wEn_of hP (hK.sub [] rfl) hD ht hW⟩, hS.F ht⟩) hS.2.2 dX12_numeral_81
        · have tc26 := (show a.toInt ≤ (σ.1 9).toInt from ti_nlt rfl rfl c26)
          refine lv_aload_n hx hb dX12_numeral_36 rfl (lv_at hl 0 rfl) ?_
          refine va_get (D := (dC, dI)) (ci := 12) (v := .int (σ.1 9)) (C := RX12) (T := TX12) (N := 59) hx hb hts hin12 hown hK hP 0 rfl rfl 9 (by decide) (ho (.fieldLink RX12 217 "NearEnoughModel" "number" "I") (List.mem_of_getElem? (i := 1) rfl)) (fun _ h9 => h9) rfl dX12_numeral_37 ?_
          refine lv_iload_n hx hb dX12_numeral_40 rfl (lv_at hl 2 rfl) ?_
          refine lv_icmp_le (tgt := 53) hx hb dX12_numeral_41 (by decide) (fun c49 => ?_) (fun c49 => ?_)
          · have tc49 := (show (σ.1 9).toInt ≤ b.toInt from ti_le rfl rfl c49)
            refine lv_aload_n hx hb dX12_numeral_53 rfl (lv_at hl 0 rfl) ?_
            refine va_get (D := (dC, dI)) (ci := 12) (v := .int (σ.1 9)) (C := RX12) (T := TX12) (N := 59) hx hb hts hin12 hown hK hP 0 rfl rfl 9 (by decide) (ho (.fieldLink RX12 217 "NearEnoughModel" "number" "I") (List.mem_of_getElem? (i := 1) rfl)) (fun _ h9 => h9) rfl dX12_numeral_54 ?_
            refine lv_istore_n (lv' := [(3, .int (σ.1 9)), (0, .ref h), (1, .int a), (2, .int b)]) hx hb dX12_numeral_57 rfl hl (by decide) rfl (fun ls hl => ?_)
            refine lv_aload_n hx hb dX12_numeral_58 rfl (lv_at hl 1 rfl) ?_
            refine zy_i (va_runV (As := []) (rest := []) ⟨hx, hb, hml, hown, hts⟩ (n_isGood l dC dI h ad cl H.size σ  hI) (cwV 0 hts gd_n_numeral_224_n_isGood rfl rfl rfl (by decide +kernel) ⟨Nat.le_of_ble_eq_true rfl, Nat.le_of_ble_eq_true rfl⟩) (preV hP hK hD hE (ci := 12) (q0 := 0) rfl rfl) rfl rfl hl.1 rfl (lv_room (Nat.le_of_ble_eq_true rfl)) dX12_numeral_59 ⟨Nat.le_of_ble_eq_true rfl, Nat.le_of_ble_eq_true rfl⟩) hD hS hA (fun z51 τ50 H locs hq hP hD hS => ?_)
            obtain ⟨rfl, f52⟩ := hq
            refine W.widen (k := 0) (n := 0) (Nat.le_of_ble_eq_true rfl) (Nat.le_of_ble_eq_true rfl) ?_
            refine lv_if_eq (tgt := 69) hx hb dX12_numeral_62 (by decide) (fun c53 => ?_) (fun c53 => ?_)
            · have tc53 := (show z51.toInt = 0 from ti_eq rfl (by decide) c53)
              refine lv_aload_n hx hb dX12_numeral_69 rfl (lv_at hl 1 rfl) ?_
              refine zy_i (va_runV (As := []) (rest := []) ⟨hx, hb, hml, hown, hts⟩ (n_isGood l dC dI h ad cl H.size σ  hI) (cwV 0 hts gd_n_numeral_224_n_isGood rfl rfl rfl (by decide +kernel) ⟨Nat.le_of_ble_eq_true rfl, Nat.le_of_ble_eq_true rfl⟩) (preV hP hK hD hE (ci := 12) (q0 := 0) rfl rfl) rfl rfl hl.1 rfl (lv_room (Nat.le_of_ble_eq_true rfl)) dX12_numeral_70 ⟨Nat.le_of_ble_eq_true rfl, Nat.le_of_ble_eq_true rfl⟩) hD hS hA (fun z55 τ54 H locs hq hP hD hS => ?_)
              obtain ⟨rfl, f56⟩ := hq
              refine W.widen (k := 0) (n := 0) (Nat.le_of_ble_eq_true rfl) (Nat.le_of_ble_eq_true rfl) ?_
              refine lv_if_eq (tgt := 80) hx hb dX12_numeral_73 (by decide) (fun c57 => ?_) (fun c57 => ?_)
              · have tc57 := (show z55.toInt = 0 from ti_eq rfl (by decide) c57)
                refine lv_iload_n hx hb dX12_numeral_80 rfl (lv_at hl 2 rfl) ?_
                rw [hQ]
                exact W.iret (v := a) hx hb hr (fun t ht hW => ⟨⟨a, σ, rfl, ⟨hI, eqx.rf, (by omega), (by omega)⟩, wEn_of hP (hK.sub [] rfl) hD ht hW⟩, hS.F ht⟩) hS.2.2 dX12_numeral_81
              · have tc57 := (show z55.toInt ≠ 0 from ti_ne rfl (by decide) c57)
                refine lv_iload_n hx hb dX12_numeral_76 rfl (lv_at hl 0 rfl) ?_
                refine lv_goto (tgt := 81) hx hb dX12_numeral_77 (by decide) ?_
                rw [hQ]
                exact W.iret (v := (σ.1 9)) hx hb hr (fun t ht hW => ⟨⟨(σ.1 9), σ, rfl, ⟨hI, eqx.rf, (by omega), (by omega)⟩, wEn_of hP (hK.sub [] rfl) hD ht hW⟩, hS.F ht⟩) hS.2.2 dX12_numeral_81
            · have tc53 := (show z51.toInt ≠ 0 from ti_ne rfl (by decide) c53)
              refine lv_aload_n hx hb dX12_numeral_65 rfl (lv_at hl 1 rfl) ?_
              refine zy_v (va_runV (As := []) (rest := []) ⟨hx, hb, hml, hown, hts⟩ (n_next l dC dI h ad cl H.size σ  hI) (cwV 0 hts gd_n_numeral_228_n_next rfl rfl rfl (by decide +kernel) ⟨Nat.le_of_ble_eq_true rfl, Nat.le_of_ble_eq_true rfl⟩) (preV hP hK hD hE (ci := 12) (q0 := 0) rfl rfl) rfl rfl hl.1 rfl (lv_room (Nat.le_of_ble_eq_true rfl)) dX12_numeral_66 ⟨Nat.le_of_ble_eq_true rfl, Nat.le_of_ble_eq_true rfl⟩) hD hS hA (fun τ58 H locs hq hP hD hS => ?_)
              obtain ⟨hI60, hx61⟩ := hq
              refine W.widen (k := 0) (n := 0) (Nat.le_of_ble_eq_true rfl) (Nat.le_of_ble_eq_true rfl) ?_
              refine lv_aload_n hx hb dX12_numeral_69 rfl (lv_at hl 1 rfl) ?_
              refine zy_i (va_runV (As := []) (rest := []) ⟨hx, hb, hml, hown, hts⟩ (n_isGood l dC dI h ad cl H.size τ58  hI60) (cwV 0 hts gd_n_numeral_224_n_isGood rfl rfl rfl (by decide +kernel) ⟨Nat.le_of_ble_eq_true rfl, Nat.le_of_ble_eq_true rfl⟩) (preV hP hK hD hE (ci := 12) (q0 := 0) rfl rfl) rfl rfl hl.1 rfl (lv_room (Nat.le_of_ble_eq_true rfl)) dX12_numeral_70 ⟨Nat.le_of_ble_eq_true rfl, Nat.le_of_ble_eq_true rfl⟩) hD hS hA (fun z63 τ62 H locs hq hP hD hS => ?_)
              obtain ⟨rfl, f64⟩ := hq
              refine W.widen (k := 0) (n := 0) (Nat.le_of_ble_eq_true rfl) (Nat.le_of_ble_eq_true rfl) ?_
              refine lv_if_eq (tgt := 80) hx hb dX12_numeral_73 (by decide) (fun c65 => ?_) (fun c65 => ?_)
              · have tc65 := (show z63.toInt = 0 from ti_eq rfl (by decide) c65)
                refine lv_iload_n hx hb dX12_numeral_80 rfl (lv_at hl 2 rfl) ?_
                rw [hQ]
                exact W.iret (v := a) hx hb hr (fun t ht hW => ⟨⟨a, τ58, rfl, ⟨hI60, (eqx.tr hx61 eqx.rf (by decide)), (by omega), (by omega)⟩, wEn_of hP (hK.sub [] rfl) hD ht hW⟩, hS.F ht⟩) hS.2.2 dX12_numeral_81
              · have tc65 := (show z63.toInt ≠ 0 from ti_ne rfl (by decide) c65)
                refine lv_iload_n hx hb dX12_numeral_76 rfl (lv_at hl 0 rfl) ?_
                refine lv_goto (tgt := 81) hx hb dX12_numeral_77 (by decide) ?_
                rw [hQ]
                exact W.iret (v := (σ.1 9)) hx hb hr (fun t ht hW => ⟨⟨(σ.1 9), τ58, rfl, ⟨hI60, (eqx.tr hx61 eqx.rf (by decide)), (by omega), (by omega)⟩, wEn_of hP (hK.sub [] rfl) hD ht hW⟩, hS.F ht⟩) hS.2.2 dX12_numeral_81
          · have tc49 := (show b.toInt < (σ.1 9).toInt from ti_nle rfl rfl c49)
            refine lv_aload_n hx hb dX12_numeral_44 rfl (lv_at hl 0 rfl) ?_
            refine lv_iconst (v := 4) hx hb dX12_numeral_45 (by decide) ?_
            refine lv_aload_n hx hb dX12_numeral_46 rfl (lv_at hl 0 rfl) ?_
            refine va_get (D := (dC, dI)) (ci := 12) (v := .int (σ.1 6)) (C := RX12) (T := TX12) (N := 59) hx hb hts hin12 hown hK hP 0 rfl rfl 6 (by decide) (ho (.fieldLink RX12 192 "NearEnoughModel" "at" "I") (List.mem_of_getElem? (i := 2) rfl)) (fun _ h9 => h9) rfl dX12_numeral_47 ?_
            have bσ_6 : 0 ≤ (σ.1 6).toInt ∧ (σ.1 6).toInt ≤ 1000 := hI.1 6
            have kk66 : (4 : Int32).toInt = 4 := by decide
            refine zy_v (va_runV (As := [.int 4, .int (σ.1 6)]) (rest := []) ⟨hx, hb, hml, hown, hts⟩ (n_fails l dC dI h ad cl H.size σ 4 (σ.1 6) hI (by omega)) (cwV 2 hts gd_n_numeral_220_n_fails rfl rfl rfl (by decide +kernel) ⟨Nat.le_of_ble_eq_true rfl, Nat.le_of_ble_eq_true rfl⟩) (preV hP hK hD hE (ci := 12) (q0 := 0) rfl rfl) rfl rfl hl.1 rfl (lv_room (Nat.le_of_ble_eq_true rfl)) dX12_numeral_50 ⟨Nat.le_of_ble_eq_true rfl, Nat.le_of_ble_eq_true rfl⟩) hD hS hA (fun τ67 H locs hq hP hD hS => ?_)
            obtain ⟨hI69, hx70, f71⟩ := hq
            refine W.widen (k := 0) (n := 0) (Nat.le_of_ble_eq_true rfl) (Nat.le_of_ble_eq_true rfl) ?_
            refine lv_aload_n hx hb dX12_numeral_53 rfl (lv_at hl 0 rfl) ?_
            refine va_get (D := (dC, dI)) (ci := 12) (v := .int (τ67.1 9)) (C := RX12) (T := TX12) (N := 59) hx hb hts hin12 hown hK hP 0 rfl rfl 9 (by decide) (ho (.fieldLink RX12 217 "NearEnoughModel" "number" "I") (List.mem_of_getElem? (i := 1) rfl)) (fun _ h9 => h9) rfl dX12_numeral_54 ?_
            refine zi (v := (σ.1 9)) (hx70 9 (by decide)).1 ?_
            refine lv_istore_n (lv' := [(3, .int (σ.1 9)), (0, .ref h), (1, .int a), (2, .int b)]) hx hb dX12_numeral_57 rfl hl (by decide) rfl (fun ls hl => ?_)
            refine lv_aload_n hx hb dX12_numeral_58 rfl (lv_at hl 1 rfl) ?_
            refine zy_i (va_runV (As := []) (rest := []) ⟨hx, hb, hml, hown, hts⟩ (n_isGood l dC dI h ad cl H.size τ67  hI69) (cwV 0 hts gd_n_numeral_224_n_isGood rfl rfl rfl (by decide +kernel) ⟨Nat.le_of_ble_eq_true rfl, Nat.le_of_ble_eq_true rfl⟩) (preV hP hK hD hE (ci := 12) (q0 := 0) rfl rfl) rfl rfl hl.1 rfl (lv_room (Nat.le_of_ble_eq_true rfl)) dX12_numeral_59 ⟨Nat.le_of_ble_eq_true rfl, Nat.le_of_ble_eq_true rfl⟩) hD hS hA (fun z73 τ72 H locs hq hP hD hS => ?_)
            obtain ⟨rfl, f74⟩ := hq
            refine W.widen (k := 0) (n := 0) (Nat.le_of_ble_eq_true rfl) (Nat.le_of_ble_eq_true rfl) ?_
            refine lv_if_eq (tgt := 69) hx hb dX12_numeral_62 (by decide) (fun c75 => ?_) (fun c75 => ?_)
            · have tc75 := (show z73.toInt = 0 from ti_eq rfl (by decide) c75)
              refine lv_aload_n hx hb dX12_numeral_69 rfl (lv_at hl 1 rfl) ?_
              refine zy_i (va_runV (As := []) (rest := []) ⟨hx, hb, hml, hown, hts⟩ (n_isGood l dC dI h ad cl H.size τ67  hI69) (cwV 0 hts gd_n_numeral_224_n_isGood rfl rfl rfl (by decide +kernel) ⟨Nat.le_of_ble_eq_true rfl, Nat.le_of_ble_eq_true rfl⟩) (preV hP hK hD hE (ci := 12) (q0 := 0) rfl rfl) rfl rfl hl.1 rfl (lv_room (Nat.le_of_ble_eq_true rfl)) dX12_numeral_70 ⟨Nat.le_of_ble_eq_true rfl, Nat.le_of_ble_eq_true rfl⟩) hD hS hA (fun z77 τ76 H locs hq hP hD hS => ?_)
              obtain ⟨rfl, f78⟩ := hq
              refine W.widen (k := 0) (n := 0) (Nat.le_of_ble_eq_true rfl) (Nat.le_of_ble_eq_true rfl) ?_
              refine lv_if_eq (tgt := 80) hx hb dX12_numeral_73 (by decide) (fun c79 => ?_) (fun c79 => ?_)
              · have tc79 := (show z77.toInt = 0 from ti_eq rfl (by decide) c79)
                refine lv_iload_n hx hb dX12_numeral_80 rfl (lv_at hl 2 rfl) ?_
                rw [hQ]
                exact W.iret (v := a) hx hb hr (fun t ht hW => ⟨⟨a, τ67, rfl, ⟨hI69, (eqx.tr hx70 eqx.rf (by decide)), (by omega), (by omega)⟩, wEn_of hP (hK.sub [] rfl) hD ht hW⟩, hS.F ht⟩) hS.2.2 dX12_numeral_81
              · have tc79 := (show z77.toInt ≠ 0 from ti_ne rfl (by decide) c79)
                refine lv_iload_n hx hb dX12_numeral_76 rfl (lv_at hl 0 rfl) ?_
                refine lv_goto (tgt := 81) hx hb dX12_numeral_77 (by decide) ?_
                rw [hQ]
                exact W.iret (v := (σ.1 9)) hx hb hr (fun t ht hW => ⟨⟨(σ.1 9), τ67, rfl, ⟨hI69, (eqx.tr hx70 eqx.rf (by decide)), (by omega), (by omega)⟩, wEn_of hP (hK.sub [] rfl) hD ht hW⟩, hS.F ht⟩) hS.2.2 dX12_numeral_81
            · have tc75 := (show z73.toInt ≠ 0 from ti_ne rfl (by decide) c75)
              refine lv_aload_n hx hb dX12_numeral_65 rfl (lv_at hl 1 rfl) ?_
              refine zy_v (va_runV (As := []) (rest := []) ⟨hx, hb, hml, hown, hts⟩ (n_next l dC dI h ad cl H.size τ67  hI69) (cwV 0 hts gd_n_numeral_228_n_next rfl rfl rfl (by decide +kernel) ⟨Nat.le_of_ble_eq_true rfl, Nat.le_of_ble_eq_true rfl⟩) (preV hP hK hD hE (ci := 12) (q0 := 0) rfl rfl) rfl rfl hl.1 rfl (lv_room (Nat.le_of_ble_eq_true rfl)) dX12_numeral_66 ⟨Nat.le_of_ble_eq_true rfl, Nat.le_of_ble_eq_true rfl⟩) hD hS hA (fun τ80 H locs hq hP hD hS => ?_)
              obtain ⟨hI82, hx83⟩ := hq
              refine W.widen (k := 0) (n := 0) (Nat.le_of_ble_eq_true rfl) (Nat.le_of_ble_eq_true rfl) ?_
              refine lv_aload_n hx hb dX12_numeral_69 rfl (lv_at hl 1 rfl) ?_
              refine zy_i (va_runV (As := []) (rest := []) ⟨hx, hb, hml, hown, hts⟩ (n_isGood l dC dI h ad cl H.size τ80  hI82) (cwV 0 hts gd_n_numeral_224_n_isGood rfl rfl rfl (by decide +kernel) ⟨Nat.le_of_ble_eq_true rfl, Nat.le_of_ble_eq_true rfl⟩) (preV hP hK hD hE (ci := 12) (q0 := 0) rfl rfl) rfl rfl hl.1 rfl (lv_room (Nat.le_of_ble_eq_true rfl)) dX12_numeral_70 ⟨Nat.le_of_ble_eq_true rfl, Nat.le_of_ble_eq_true rfl⟩) hD hS hA (fun z85 τ84 H locs hq hP hD hS => ?_)
              obtain ⟨rfl, f86⟩ := hq
              refine W.widen (k := 0) (n := 0) (Nat.le_of_ble_eq_true rfl) (Nat.le_of_ble_eq_true rfl) ?_
              refine lv_if_eq (tgt := 80) hx hb dX12_numeral_73 (by decide) (fun c87 => ?_) (fun c87 => ?_)
              · have tc87 := (show z85.toInt = 0 from ti_eq rfl (by decide) c87)
                refine lv_iload_n hx hb dX12_numeral_80 rfl (lv_at hl 2 rfl) ?_
                rw [hQ]
                exact W.iret (v := a) hx hb hr (fun t ht hW => ⟨⟨a, τ80, rfl, ⟨hI82, (eqx.tr hx83 (eqx.tr hx70 eqx.rf (by decide)) (by decide)), (by omega), (by omega)⟩, wEn_of hP (hK.sub [] rfl) hD ht hW⟩, hS.F ht⟩) hS.2.2 dX12_numeral_81
              · have tc87 := (show z85.toInt ≠ 0 from ti_ne rfl (by decide) c87)
                refine lv_iload_n hx hb dX12_numeral_76 rfl (lv_at hl 0 rfl) ?_
                refine lv_goto (tgt := 81) hx hb dX12_numeral_77 (by decide) ?_
                rw [hQ]
                exact W.iret (v := (σ.1 9)) hx hb hr (fun t ht hW => ⟨⟨(σ.1 9), τ80, rfl, ⟨hI82, (eqx.tr hx83 (eqx.tr hx70 eqx.rf (by decide)) (by decide)), (by omega), (by omega)⟩, wEn_of hP (hK.sub [] rfl) hD ht hW⟩, hS.F ht⟩) hS.2.2 dX12_numeral_81
    · have tc5 := (show (σ.1 8).toInt ≠ 4 from ti_ne rfl (by decide) c5)
      refine lv_aload_n hx hb dX12_numeral_17 rfl (lv_at hl 0 rfl) ?_
      refine zy_v (va_runV (As := []) (rest := []) ⟨hx, hb, hml, hown, hts⟩ (n_wrong l dC dI h ad cl H.size σ  hI) (cwV 0 hts gd_n_numeral_231_n_wrong rfl rfl rfl (by decide +kernel) ⟨Nat.le_of_ble_eq_true rfl, Nat.le_of_ble_eq_true rfl⟩) (preV hP hK hD hE (ci := 12) (q0 := 0) rfl rfl) rfl rfl hl.1 rfl (lv_room (Nat.le_of_ble_eq_true rfl)) dX12_numeral_18 ⟨Nat.le_of_ble_eq_true rfl, Nat.le_of_ble_eq_true rfl⟩) hD hS hA (fun τ88 H locs hq hP hD hS => ?_)
      obtain ⟨hI90, hx91, f92⟩ := hq
      refine W.widen (k := 0) (n := 0) (Nat.le_of_ble_eq_true rfl) (Nat.le_of_ble_eq_true rfl) ?_
      refine lv_aload_n hx hb dX12_numeral_21 rfl (lv_at hl 0 rfl) ?_
      refine zy_i (va_runV (As := []) (rest := []) ⟨hx, hb, hml, hown, hts⟩ (n_isGood l dC dI h ad cl H.size τ88  hI90) (cwV 0 hts gd_n_numeral_224_n_isGood rfl rfl rfl (by decide +kernel) ⟨Nat.le_of_ble_eq_true rfl, Nat.le_of_ble_eq_true rfl⟩) (preV hP hK hD hE (ci := 12) (q0 := 0) rfl rfl) rfl rfl hl.1 rfl (lv_room (Nat.le_of_ble_eq_true rfl)) dX12_numeral_22 ⟨Nat.le_of_ble_eq_true rfl, Nat.le_of_ble_eq_true rfl⟩) hD hS hA (fun z94 τ93 H locs hq hP hD hS => ?_)
      obtain ⟨rfl, f95⟩ := hq
      refine W.widen (k := 0) (n := 0) (Nat.le_of_ble_eq_true rfl) (Nat.le_of_ble_eq_true rfl) ?_
      refine lv_if_eq (tgt := 53) hx hb dX12_numeral_25 (by decide) (fun c96 => ?_) (fun c96 => ?_)
      · have tc96 := (show z94.toInt = 0 from ti_eq rfl (by decide) c96)
        refine lv_aload_n hx hb dX12_numeral_53 rfl (lv_at hl 0 rfl) ?_
        refine va_get (D := (dC, dI)) (ci := 12) (v := .int (τ88.1 9)) (C := RX12) (T := TX12) (N := 59) hx hb hts hin12 hown hK hP 0 rfl rfl 9 (by decide) (ho (.fieldLink RX12 217 "NearEnoughModel" "number" "I") (List.mem_of_getElem? (i := 1) rfl)) (fun _ h9 => h9) rfl dX12_numeral_54 ?_
        refine zi (v := (σ.1 9)) (hx91 9 (by decide)).1 ?_
        refine lv_istore_n (lv' := [(3, .int (σ.1 9)), (0, .ref h), (1, .int a), (2, .int b)]) hx hb dX12_numeral_57 rfl hl (by decide) rfl (fun ls hl => ?_)
        refine lv_aload_n hx hb dX12_numeral_58 rfl (lv_at hl 1 rfl) ?_
        refine zy_i (va_runV (As := []) (rest := []) ⟨hx, hb, hml, hown, hts⟩ (n_isGood l dC dI h ad cl H.size τ88  hI90) (cwV 0 hts gd_n_numeral_224_n_isGood rfl rfl rfl (by decide +kernel) ⟨Nat.le_of_ble_eq_true rfl, Nat.le_of_ble_eq_true rfl⟩) (preV hP hK hD hE (ci := 12) (q0 := 0) rfl rfl) rfl rfl hl.1 rfl (lv_room (Nat.le_of_ble_eq_true rfl)) dX12_numeral_59 ⟨Nat.le_of_ble_eq_true rfl, Nat.le_of_ble_eq_true rfl⟩) hD hS hA (fun z98 τ97 H locs hq hP hD hS => ?_)
        obtain ⟨rfl, f99⟩ := hq
        refine W.widen (k := 0) (n := 0) (Nat.le_of_ble_eq_true rfl) (Nat.le_of_ble_eq_true rfl) ?_
        refine lv_if_eq (tgt := 69) hx hb dX12_numeral_62 (by decide) (fun c100 => ?_) (fun c100 => ?_)
        · have tc100 := (show z98.toInt = 0 from ti_eq rfl (by decide) c100)
          refine lv_aload_n hx hb dX12_numeral_69 rfl (lv_at hl 1 rfl) ?_
          refine zy_i (va_runV (As := []) (rest := []) ⟨hx, hb, hml, hown, hts⟩ (n_isGood l dC dI h ad cl H.size τ88  hI90) (cwV 0 hts gd_n_numeral_224_n_isGood rfl rfl rfl (by decide +kernel) ⟨Nat.le_of_ble_eq_true rfl, Nat.le_of_ble_eq_true rfl⟩) (preV hP hK hD hE (ci := 12) (q0 := 0) rfl rfl) rfl rfl hl.1 rfl (lv_room (Nat.le_of_ble_eq_true rfl)) dX12_numeral_70 ⟨Nat.le_of_ble_eq_true rfl, Nat.le_of_ble_eq_true rfl⟩) hD hS hA (fun z102 τ101 H locs hq hP hD hS => ?_)
          obtain ⟨rfl, f103⟩ := hq
          refine W.widen (k := 0) (n := 0) (Nat.le_of_ble_eq_true rfl) (Nat.le_of_ble_eq_true rfl) ?_
          refine lv_if_eq (tgt := 80) hx hb dX12_numeral_73 (by decide) (fun c104 => ?_) (fun c104 => ?_)
          · have tc104 := (show z102.toInt = 0 from ti_eq rfl (by decide) c104)
            refine lv_iload_n hx hb dX12_numeral_80 rfl (lv_at hl 2 rfl) ?_
            rw [hQ]
            exact W.iret (v := a) hx hb hr (fun t ht hW => ⟨⟨a, τ88, rfl, ⟨hI90, (eqx.tr hx91 eqx.rf (by decide)), (by omega), (by omega)⟩, wEn_of hP (hK.sub [] rfl) hD ht hW⟩, hS.F ht⟩) hS.2.2 dX12_numeral_81
          · have tc104 := (show z102.toInt ≠ 0 from ti_ne rfl (by decide) c104)
            refine lv_iload_n hx hb dX12_numeral_76 rfl (lv_at hl 0 rfl) ?_
            refine lv_goto (tgt := 81) hx hb dX12_numeral_77 (by decide) ?_
            rw [hQ]
            exact W.iret (v := (σ.1 9)) hx hb hr (fun t ht hW => ⟨⟨(σ.1 9), τ88, rfl, ⟨hI90, (eqx.tr hx91 eqx.rf (by decide)), (by omega), (by omega)⟩, wEn_of hP (hK.sub [] rfl) hD ht hW⟩, hS.F ht⟩) hS.2.2 dX12_numeral_81
        · have tc100 := (show z98.toInt ≠ 0 from ti_ne rfl (by decide) c100)
          refine lv_aload_n hx hb dX12_numeral_65 rfl (lv_at hl 1 rfl) ?_
          refine zy_v (va_runV (As := []) (rest := []) ⟨hx, hb, hml, hown, hts⟩ (n_next l dC dI h ad cl H.size τ88  hI90) (cwV 0 hts gd_n_numeral_228_n_next rfl rfl rfl (by decide +kernel) ⟨Nat.le_of_ble_eq_true rfl, Nat.le_of_ble_eq_true rfl⟩) (preV hP hK hD hE (ci := 12) (q0 := 0) rfl rfl) rfl rfl hl.1 rfl (lv_room (Nat.le_of_ble_eq_true rfl)) dX12_numeral_66 ⟨Nat.le_of_ble_eq_true rfl, Nat.le_of_ble_eq_true rfl⟩) hD hS hA (fun τ105 H locs hq hP hD hS => ?_)
          obtain ⟨hI107, hx108⟩ := hq
          refine W.widen (k := 0) (n := 0) (Nat.le_of_ble_eq_true rfl) (Nat.le_of_ble_eq_true rfl) ?_
          refine lv_aload_n hx hb dX12_numeral_69 rfl (lv_at hl 1 rfl) ?_
          refine zy_i (va_runV (As := []) (rest := []) ⟨hx, hb, hml, hown, hts⟩ (n_isGood l dC dI h ad cl H.size τ105  hI107) (cwV 0 hts gd_n_numeral_224_n_isGood rfl rfl rfl (by decide +kernel) ⟨Nat.le_of_ble_eq_true rfl, Nat.le_of_ble_eq_true rfl⟩) (preV hP hK hD hE (ci := 12) (q0 := 0) rfl rfl) rfl rfl hl.1 rfl (lv_room (Nat.le_of_ble_eq_true rfl)) dX12_numeral_70 ⟨Nat.le_of_ble_eq_true rfl, Nat.le_of_ble_eq_true rfl⟩) hD hS hA (fun z110 τ109 H locs hq hP hD hS => ?_)
          obtain ⟨rfl, f111⟩ := hq
          refine W.widen (k := 0) (n := 0) (Nat.le_of_ble_eq_true rfl) (Nat.le_of_ble_eq_true rfl) ?_
          refine lv_if_eq (tgt := 80) hx hb dX12_numeral_73 (by decide) (fun c112 => ?_) (fun c112 => ?_)
          · have tc112 := (show z110.toInt = 0 from ti_eq rfl (by decide) c112)
            refine lv_iload_n hx hb dX12_numeral_80 rfl (lv_at hl 2 rfl) ?_
            rw [hQ]
            exact W.iret (v := a) hx hb hr (fun t ht hW => ⟨⟨a, τ105, rfl, ⟨hI107, (eqx.tr hx108 (eqx.tr hx91 eqx.rf (by decide)) (by decide)), (by omega), (by omega)⟩, wEn_of hP (hK.sub [] rfl) hD ht hW⟩, hS.F ht⟩) hS.2.2 dX12_numeral_81
          · have tc112 := (show z110.toInt ≠ 0 from ti_ne rfl (by decide) c112)
            refine lv_iload_n hx hb dX12_numeral_76 rfl (lv_at hl 0 rfl) ?_
            refine lv_goto (tgt := 81) hx hb dX12_numeral_77 (by decide) ?_
            rw [hQ]
            exact W.iret (v := (σ.1 9)) hx hb hr (fun t ht hW => ⟨⟨(σ.1 9), τ105, rfl, ⟨hI107, (eqx.tr hx108 (eqx.tr hx91 eqx.rf (by decide)) (by decide)), (by omega), (by omega)⟩, wEn_of hP (hK.sub [] rfl) hD ht hW⟩, hS.F ht⟩) hS.2.2 dX12_numeral_81
      · have tc96 := (show z94.toInt ≠ 0 from ti_ne rfl (by decide) c96)
        refine lv_aload_n hx hb dX12_numeral_28 rfl (lv_at hl 0 rfl) ?_
        refine va_get (D := (dC, dI)) (ci := 12) (v := .int (τ88.1 9)) (C := RX12) (T := TX12) (N := 59) hx hb hts hin12 hown hK hP 0 rfl rfl 9 (by decide) (ho (.fieldLink RX12 217 "NearEnoughModel" "number" "I") (List.mem_of_getElem? (i := 1) rfl)) (fun _ h9 => h9) rfl dX12_numeral_29 ?_
        refine zi (v := (σ.1 9)) (hx91 9 (by decide)).1 ?_
        refine lv_iload_n hx hb dX12_numeral_32 rfl (lv_at hl 1 rfl) ?_
        refine lv_icmp_lt (tgt := 44) hx hb dX12_numeral_33 (by decide) (fun c113 => ?_) (fun c113 => ?_)
        · have tc113 := (show (σ.1 9).toInt < a.toInt from ti_lt rfl rfl c113)
          refine lv_aload_n hx hb dX12_numeral_44 rfl (lv_at hl 0 rfl) ?_
          refine lv_iconst (v := 4) hx hb dX12_numeral_45 (by decide) ?_
          refine lv_aload_n hx hb dX12_numeral_46 rfl (lv_at hl 0 rfl) ?_
          refine va_get (D := (dC, dI)) (ci := 12) (v := .int (τ88.1 6)) (C := RX12) (T := TX12) (N := 59) hx hb hts hin12 hown hK hP 0 rfl rfl 6 (by decide) (ho (.fieldLink RX12 192 "NearEnoughModel" "at" "I") (List.mem_of_getElem? (i := 2) rfl)) (fun _ h9 => h9) rfl dX12_numeral_47 ?_
          refine zi (v := (σ.1 6)) (hx91 6 (by decide)).1 ?_
          have bb114 : 0 ≤ (σ.1 6).toInt ∧ (σ.1 6).toInt ≤ 1000 := by have h9 := hI90.1 6; rw [show (τ88.1 6) = (σ.1 6) from (hx91 6 (by decide)).1] at h9; exact h9
          have kk115 : (4 : Int32).toInt = 4 := by decide
          refine zy_v (va_runV (As := [.int 4, .int (σ.1 6)]) (rest := []) ⟨hx, hb, hml, hown, hts⟩ (n_fails l dC dI h ad cl H.size τ88 4 (σ.1 6) hI90 (by omega)) (cwV 2 hts gd_n_numeral_220_n_fails rfl rfl rfl (by decide +kernel) ⟨Nat.le_of_ble_eq_true rfl, Nat.le_of_ble_eq_true rfl⟩) (preV hP hK hD hE (ci := 12) (q0 := 0) rfl rfl) rfl rfl hl.1 rfl (lv_room (Nat.le_of_ble_eq_true rfl)) dX12_numeral_50 ⟨Nat.le_of_ble_eq_true rfl, Nat.le_of_ble_eq_true rfl⟩) hD hS hA (fun τ116 H locs hq hP hD hS => ?_)
          obtain ⟨hI118, hx119, f120⟩ := hq
          refine W.widen (k := 0) (n := 0) (Nat.le_of_ble_eq_true rfl) (Nat.le_of_ble_eq_true rfl) ?_
          refine lv_aload_n hx hb dX12_numeral_53 rfl (lv_at hl 0 rfl) ?_
          refine va_get (D := (dC, dI)) (ci := 12) (v := .int (τ116.1 9)) (C := RX12) (T := TX12) (N := 59) hx hb hts hin12 hown hK hP 0 rfl rfl 9 (by decide) (ho (.fieldLink RX12 217 "NearEnoughModel" "number" "I") (List.mem_of_getElem? (i := 1) rfl)) (fun _ h9 => h9) rfl dX12_numeral_54 ?_
          refine zi (v := (τ88.1 9)) (hx119 9 (by decide)).1 ?_
          refine lv_istore_n (lv' := [(3, .int (τ88.1 9)), (0, .ref h), (1, .int a), (2, .int b)]) hx hb dX12_numeral_57 rfl hl (by decide) rfl (fun ls hl => ?_)
          refine lv_aload_n hx hb dX12_numeral_58 rfl (lv_at hl 1 rfl) ?_
          refine zy_i (va_runV (As := []) (rest := []) ⟨hx, hb, hml, hown, hts⟩ (n_isGood l dC dI h ad cl H.size τ116  hI118) (cwV 0 hts gd_n_numeral_224_n_isGood rfl rfl rfl (by decide +kernel) ⟨Nat.le_of_ble_eq_true rfl, Nat.le_of_ble_eq_true rfl⟩) (preV hP hK hD hE (ci := 12) (q0 := 0) rfl rfl) rfl rfl hl.1 rfl (lv_room (Nat.le_of_ble_eq_true rfl)) dX12_numeral_59 ⟨Nat.le_of_ble_eq_true rfl, Nat.le_of_ble_eq_true rfl⟩) hD hS hA (fun z122 τ121 H locs hq hP hD hS => ?_)
          obtain ⟨rfl, f123⟩ := hq
          refine W.widen (k := 0) (n := 0) (Nat.le_of_ble_eq_true rfl) (Nat.le_of_ble_eq_true rfl) ?_
          refine lv_if_eq (tgt := 69) hx hb dX12_numeral_62 (by decide) (fun c124 => ?_) (fun c124 => ?_)
          · have tc124 := (show z122.toInt = 0 from ti_eq rfl (by decide) c124)
            refine lv_aload_n hx hb dX12_numeral_69 rfl (lv_at hl 1 rfl) ?_
            refine zy_i (va_runV (As := []) (rest := []) ⟨hx, hb, hml, hown, hts⟩ (n_isGood l dC dI h ad cl H.size τ116  hI118) (cwV 0 hts gd_n_numeral_224_n_isGood rfl rfl rfl (by decide +kernel) ⟨Nat.le_of_ble_eq_true rfl, Nat.le_of_ble_eq_true rfl⟩) (preV hP hK hD hE (ci := 12) (q0 := 0) rfl rfl) rfl rfl hl.1 rfl (lv_room (Nat.le_of_ble_eq_true rfl)) dX12_numeral_70 ⟨Nat.le_of_ble_eq_true rfl, Nat.le_of_ble_eq_true rfl⟩) hD hS hA (fun z126 τ125 H locs hq hP hD hS => ?_)
            obtain ⟨rfl, f127⟩ := hq
            refine W.widen (k := 0) (n := 0) (Nat.le_of_ble_eq_true rfl) (Nat.le_of_ble_eq_true rfl) ?_
            refine lv_if_eq (tgt := 80) hx hb dX12_numeral_73 (by decide) (fun c128 => ?_) (fun c128 => ?_)
            · have tc128 := (show z126.toInt = 0 from ti_eq rfl (by decide) c128)
              refine lv_iload_n hx hb dX12_numeral_80 rfl (lv_at hl 2 rfl) ?_
              rw [hQ]
              exact W.iret (v := a) hx hb hr (fun t ht hW => ⟨⟨a, τ116, rfl, ⟨hI118, (eqx.tr hx119 (eqx.tr hx91 eqx.rf (by decide)) (by decide)), (by omega), (by omega)⟩, wEn_of hP (hK.sub [] rfl) hD ht hW⟩, hS.F ht⟩) hS.2.2 dX12_numeral_81
            · have tc128 := (show z126.toInt ≠ 0 from ti_ne rfl (by decide) c128)
              refine lv_iload_n hx hb dX12_numeral_76 rfl (lv_at hl 0 rfl) ?_
              refine lv_goto (tgt := 81) hx hb dX12_numeral_77 (by decide) ?_
              rw [hQ]
              exact W.iret (v := (τ88.1 9)) hx hb hr (fun t ht hW => ⟨⟨(τ88.1 9), τ116, rfl, ⟨hI118, (eqx.tr hx119 (eqx.tr hx91 eqx.rf (by decide)) (by decide)), (by omega), (by omega)⟩, wEn_of hP (hK.sub [] rfl) hD ht hW⟩, hS.F ht⟩) hS.2.2 dX12_numeral_81
          · have tc124 := (show z122.toInt ≠ 0 from ti_ne rfl (by decide) c124)
            refine lv_aload_n hx hb dX12_numeral_65 rfl (lv_at hl 1 rfl) ?_
            refine zy_v (va_runV (As := []) (rest := []) ⟨hx, hb, hml, hown, hts⟩ (n_next l dC dI h ad cl H.size τ116  hI118) (cwV 0 hts gd_n_numeral_228_n_next rfl rfl rfl (by decide +kernel) ⟨Nat.le_of_ble_eq_true rfl, Nat.le_of_ble_eq_true rfl⟩) (preV hP hK hD hE (ci := 12) (q0 := 0) rfl rfl) rfl rfl hl.1 rfl (lv_room (Nat.le_of_ble_eq_true rfl)) dX12_numeral_66 ⟨Nat.le_of_ble_eq_true rfl, Nat.le_of_ble_eq_true rfl⟩) hD hS hA (fun τ129 H locs hq hP hD hS => ?_)
            obtain ⟨hI131, hx132⟩ := hq
            refine W.widen (k := 0) (n := 0) (Nat.le_of_ble_eq_true rfl) (Nat.le_of_ble_eq_true rfl) ?_
            refine lv_aload_n hx hb dX12_numeral_69 rfl (lv_at hl 1 rfl) ?_
            refine zy_i (va_runV (As := []) (rest := []) ⟨hx, hb, hml, hown, hts⟩ (n_isGood l dC dI h ad cl H.size τ129  hI131) (cwV 0 hts gd_n_numeral_224_n_isGood rfl rfl rfl (by decide +kernel) ⟨Nat.le_of_ble_eq_true rfl, Nat.le_of_ble_eq_true rfl⟩) (preV hP hK hD hE (ci := 12) (q0 := 0) rfl rfl) rfl rfl hl.1 rfl (lv_room (Nat.le_of_ble_eq_true rfl)) dX12_numeral_70 ⟨Nat.le_of_ble_eq_true rfl, Nat.le_of_ble_eq_true rfl⟩) hD hS hA (fun z134 τ133 H locs hq hP hD hS => ?_)
            obtain ⟨rfl, f135⟩ := hq
            refine W.widen (k := 0) (n := 0) (Nat.le_of_ble_eq_true rfl) (Nat.le_of_ble_eq_true rfl) ?_
            refine lv_if_eq (tgt := 80) hx hb dX12_numeral_73 (by decide) (fun c136 => ?_) (fun c136 => ?_)
            · have tc136 := (show z134.toInt = 0 from ti_eq rfl (by decide) c136)
              refine lv_iload_n hx hb dX12_numeral_80 rfl (lv_at hl 2 rfl) ?_
              rw [hQ]
              exact W.iret (v := a) hx hb hr (fun t ht hW => ⟨⟨a, τ129, rfl, ⟨hI131, (eqx.tr hx132 (eqx.tr hx119 (eqx.tr hx91 eqx.rf (by decide)) (by decide)) (by decide)), (by omega), (by omega)⟩, wEn_of hP (hK.sub [] rfl) hD ht hW⟩, hS.F ht⟩) hS.2.2 dX12_numeral_81
            · have tc136 := (show z134.toInt ≠ 0 from ti_ne rfl (by decide) c136)
              refine lv_iload_n hx hb dX12_numeral_76 rfl (lv_at hl 0 rfl) ?_
              refine lv_goto (tgt := 81) hx hb dX12_numeral_77 (by decide) ?_
              rw [hQ]
              exact W.iret (v := (τ88.1 9)) hx hb hr (fun t ht hW => ⟨⟨(τ88.1 9), τ129, rfl, ⟨hI131, (eqx.tr hx132 (eqx.tr hx119 (eqx.tr hx91 eqx.rf (by decide)) (by decide)) (by decide)), (by omega), (by omega)⟩, wEn_of hP (hK.sub [] rfl) hD ht hW⟩, hS.F ht⟩) hS.2.2 dX12_numeral_81
        · have tc113 := (show a.toInt ≤ (σ.1 9).toInt from ti_nlt rfl rfl c113)
          refine lv_aload_n hx hb dX12_numeral_36 rfl (lv_at hl 0 rfl) ?_
          refine va_get (D := (dC, dI)) (ci := 12) (v := .int (τ88.1 9)) (C := RX12) (T := TX12) (N := 59) hx hb hts hin12 hown hK hP 0 rfl rfl 9 (by decide) (ho (.fieldLink RX12 217 "NearEnoughModel" "number" "I") (List.mem_of_getElem? (i := 1) rfl)) (fun _ h9 => h9) rfl dX12_numeral_37 ?_
          refine zi (v := (σ.1 9)) (hx91 9 (by decide)).1 ?_
          refine lv_iload_n hx hb dX12_numeral_40 rfl (lv_at hl 2 rfl) ?_
          refine lv_icmp_le (tgt := 53) hx hb dX12_numeral_41 (by decide) (fun c137 => ?_) (fun c137 => ?_)
          · have tc137 := (show (σ.1 9).toInt ≤ b.toInt from ti_le rfl rfl c137)
            refine lv_aload_n hx hb dX12_numeral_53 rfl (lv_at hl 0 rfl) ?_
            refine va_get (D := (dC, dI)) (ci := 12) (v := .int (τ88.1 9)) (C := RX12) (T := TX12) (N := 59) hx hb hts hin12 hown hK hP 0 rfl rfl 9 (by decide) (ho (.fieldLink RX12 217 "NearEnoughModel" "number" "I") (List.mem_of_getElem? (i := 1) rfl)) (fun _ h9 => h9) rfl dX12_numeral_54 ?_
            refine zi (v := (σ.1 9)) (hx91 9 (by decide)).1 ?_
            refine lv_istore_n (lv' := [(3, .int (σ.1 9)), (0, .ref h), (1, .int a), (2, .int b)]) hx hb dX12_numeral_57 rfl hl (by decide) rfl (fun ls hl => ?_)
            refine lv_aload_n hx hb dX12_numeral_58 rfl (lv_at hl 1 rfl) ?_
            refine zy_i (va_runV (As := []) (rest := []) ⟨hx, hb, hml, hown, hts⟩ (n_isGood l dC dI h ad cl H.size τ88  hI90) (cwV 0 hts gd_n_numeral_224_n_isGood rfl rfl rfl (by decide +kernel) ⟨Nat.le_of_ble_eq_true rfl, Nat.le_of_ble_eq_true rfl⟩) (preV hP hK hD hE (ci := 12) (q0 := 0) rfl rfl) rfl rfl hl.1 rfl (lv_room (Nat.le_of_ble_eq_true rfl)) dX12_numeral_59 ⟨Nat.le_of_ble_eq_true rfl, Nat.le_of_ble_eq_true rfl⟩) hD hS hA (fun z139 τ138 H locs hq hP hD hS => ?_)
            obtain ⟨rfl, f140⟩ := hq
            refine W.widen (k := 0) (n := 0) (Nat.le_of_ble_eq_true rfl) (Nat.le_of_ble_eq_true rfl) ?_
            refine lv_if_eq (tgt := 69) hx hb dX12_numeral_62 (by decide) (fun c141 => ?_) (fun c141 => ?_)
            · have tc141 := (show z139.toInt = 0 from ti_eq rfl (by decide) c141)
              refine lv_aload_n hx hb dX12_numeral_69 rfl (lv_at hl 1 rfl) ?_
              refine zy_i (va_runV (As := []) (rest := []) ⟨hx, hb, hml, hown, hts⟩ (n_isGood l dC dI h ad cl H.size τ88  hI90) (cwV 0 hts gd_n_numeral_224_n_isGood rfl rfl rfl (by decide +kernel) ⟨Nat.le_of_ble_eq_true rfl, Nat.le_of_ble_eq_true rfl⟩) (preV hP hK hD hE (ci := 12) (q0 := 0) rfl rfl) rfl rfl hl.1 rfl (lv_room (Nat.le_of_ble_eq_true rfl)) dX12_numeral_70 ⟨Nat.le_of_ble_eq_true rfl, Nat.le_of_ble_eq_true rfl⟩) hD hS hA (fun z143 τ142 H locs hq hP hD hS => ?_)
              obtain ⟨rfl, f144⟩ := hq
              refine W.widen (k := 0) (n := 0) (Nat.le_of_ble_eq_true rfl) (Nat.le_of_ble_eq_true rfl) ?_
              refine lv_if_eq (tgt := 80) hx hb dX12_numeral_73 (by decide) (fun c145 => ?_) (fun c145 => ?_)
              · have tc145 := (show z143.toInt = 0 from ti_eq rfl (by decide) c145)
                refine lv_iload_n hx hb dX12_numeral_80 rfl (lv_at hl 2 rfl) ?_
                rw [hQ]
                exact W.iret (v := a) hx hb hr (fun t ht hW => ⟨⟨a, τ88, rfl, ⟨hI90, (eqx.tr hx91 eqx.rf (by decide)), (by omega), (by omega)⟩, wEn_of hP (hK.sub [] rfl) hD ht hW⟩, hS.F ht⟩) hS.2.2 dX12_numeral_81
              · have tc145 := (show z143.toInt ≠ 0 from ti_ne rfl (by decide) c145)
                refine lv_iload_n hx hb dX12_numeral_76 rfl (lv_at hl 0 rfl) ?_
                refine lv_goto (tgt := 81) hx hb dX12_numeral_77 (by decide) ?_
                rw [hQ]
                exact W.iret (v := (σ.1 9)) hx hb hr (fun t ht hW => ⟨⟨(σ.1 9), τ88, rfl, ⟨hI90, (eqx.tr hx91 eqx.rf (by decide)), (by omega), (by omega)⟩, wEn_of hP (hK.sub [] rfl) hD ht hW⟩, hS.F ht⟩) hS.2.2 dX12_numeral_81
            · have tc141 := (show z139.toInt ≠ 0 from ti_ne rfl (by decide) c141)
              refine lv_aload_n hx hb dX12_numeral_65 rfl (lv_at hl 1 rfl) ?_
              refine zy_v (va_runV (As := []) (rest := []) ⟨hx, hb, hml, hown, hts⟩ (n_next l dC dI h ad cl H.size τ88  hI90) (cwV 0 hts gd_n_numeral_228_n_next rfl rfl rfl (by decide +kernel) ⟨Nat.le_of_ble_eq_true rfl, Nat.le_of_ble_eq_true rfl⟩) (preV hP hK hD hE (ci := 12) (q0 := 0) rfl rfl) rfl rfl hl.1 rfl (lv_room (Nat.le_of_ble_eq_true rfl)) dX12_numeral_66 ⟨Nat.le_of_ble_eq_true rfl, Nat.le_of_ble_eq_true rfl⟩) hD hS hA (fun τ146 H locs hq hP hD hS => ?_)
              obtain ⟨hI148, hx149⟩ := hq
              refine W.widen (k := 0) (n := 0) (Nat.le_of_ble_eq_true rfl) (Nat.le_of_ble_eq_true rfl) ?_
              refine lv_aload_n hx hb dX12_numeral_69 rfl (lv_at hl 1 rfl) ?_
              refine zy_i (va_runV (As := []) (rest := []) ⟨hx, hb, hml, hown, hts⟩ (n_isGood l dC dI h ad cl H.size τ146  hI148) (cwV 0 hts gd_n_numeral_224_n_isGood rfl rfl rfl (by decide +kernel) ⟨Nat.le_of_ble_eq_true rfl, Nat.le_of_ble_eq_true rfl⟩) (preV hP hK hD hE (ci := 12) (q0 := 0) rfl rfl) rfl rfl hl.1 rfl (lv_room (Nat.le_of_ble_eq_true rfl)) dX12_numeral_70 ⟨Nat.le_of_ble_eq_true rfl, Nat.le_of_ble_eq_true rfl⟩) hD hS hA (fun z151 τ150 H locs hq hP hD hS => ?_)
              obtain ⟨rfl, f152⟩ := hq
              refine W.widen (k := 0) (n := 0) (Nat.le_of_ble_eq_true rfl) (Nat.le_of_ble_eq_true rfl) ?_
              refine lv_if_eq (tgt := 80) hx hb dX12_numeral_73 (by decide) (fun c153 => ?_) (fun c153 => ?_)
              · have tc153 := (show z151.toInt = 0 from ti_eq rfl (by decide) c153)
                refine lv_iload_n hx hb dX12_numeral_80 rfl (lv_at hl 2 rfl) ?_
                rw [hQ]
                exact W.iret (v := a) hx hb hr (fun t ht hW => ⟨⟨a, τ146, rfl, ⟨hI148, (eqx.tr hx149 (eqx.tr hx91 eqx.rf (by decide)) (by decide)), (by omega), (by omega)⟩, wEn_of hP (hK.sub [] rfl) hD ht hW⟩, hS.F ht⟩) hS.2.2 dX12_numeral_81
              · have tc153 := (show z151.toInt ≠ 0 from ti_ne rfl (by decide) c153)
                refine lv_iload_n hx hb dX12_numeral_76 rfl (lv_at hl 0 rfl) ?_
                refine lv_goto (tgt := 81) hx hb dX12_numeral_77 (by decide) ?_
                rw [hQ]
                exact W.iret (v := (σ.1 9)) hx hb hr (fun t ht hW => ⟨⟨(σ.1 9), τ146, rfl, ⟨hI148, (eqx.tr hx149 (eqx.tr hx91 eqx.rf (by decide)) (by decide)), (by omega), (by omega)⟩, wEn_of hP (hK.sub [] rfl) hD ht hW⟩, hS.F ht⟩) hS.2.2 dX12_numeral_81
          · have tc137 := (show b.toInt < (σ.1 9).toInt from ti_nle rfl rfl c137)
            refine lv_aload_n hx hb dX12_numeral_44 rfl (lv_at hl 0 rfl) ?_
            refine lv_iconst (v := 4) hx hb dX12_numeral_45 (by decide) ?_
            refine lv_aload_n hx hb dX12_numeral_46 rfl (lv_at hl 0 rfl) ?_
            refine va_get (D := (dC, dI)) (ci := 12) (v := .int (τ88.1 6)) (C := RX12) (T := TX12) (N := 59) hx hb hts hin12 hown hK hP 0 rfl rfl 6 (by decide) (ho (.fieldLink RX12 192 "NearEnoughModel" "at" "I") (List.mem_of_getElem? (i := 2) rfl)) (fun _ h9 => h9) rfl dX12_numeral_47 ?_
            refine zi (v := (σ.1 6)) (hx91 6 (by decide)).1 ?_
            have bb154 : 0 ≤ (σ.1 6).toInt ∧ (σ.1 6).toInt ≤ 1000 := by have h9 := hI90.1 6; rw [show (τ88.1 6) = (σ.1 6) from (hx91 6 (by decide)).1] at h9; exact h9
            have kk155 : (4 : Int32).toInt = 4 := by decide
            refine zy_v (va_runV (As := [.int 4, .int (σ.1 6)]) (rest := []) ⟨hx, hb, hml, hown, hts⟩ (n_fails l dC dI h ad cl H.size τ88 4 (σ.1 6) hI90 (by omega)) (cwV 2 hts gd_n_numeral_220_n_fails rfl rfl rfl (by decide +kernel) ⟨Nat.le_of_ble_eq_true rfl, Nat.le_of_ble_eq_true rfl⟩) (preV hP hK hD hE (ci := 12) (q0 := 0) rfl rfl) rfl rfl hl.1 rfl (lv_room (Nat.le_of_ble_eq_true rfl)) dX12_numeral_50 ⟨Nat.le_of_ble_eq_true rfl, Nat.le_of_ble_eq_true rfl⟩) hD hS hA (fun τ156 H locs hq hP hD hS => ?_)
            obtain ⟨hI158, hx159, f160⟩ := hq
            refine W.widen (k := 0) (n := 0) (Nat.le_of_ble_eq_true rfl) (Nat.le_of_ble_eq_true rfl) ?_
            refine lv_aload_n hx hb dX12_numeral_53 rfl (lv_at hl 0 rfl) ?_
            refine va_get (D := (dC, dI)) (ci := 12) (v := .int (τ156.1 9)) (C := RX12) (T := TX12) (N := 59) hx hb hts hin12 hown hK hP 0 rfl rfl 9 (by decide) (ho (.fieldLink RX12 217 "NearEnoughModel" "number" "I") (List.mem_of_getElem? (i := 1) rfl)) (fun _ h9 => h9) rfl dX12_numeral_54 ?_
            refine zi (v := (τ88.1 9)) (hx159 9 (by decide)).1 ?_
            refine lv_istore_n (lv' := [(3, .int (τ88.1 9)), (0, .ref h), (1, .int a), (2, .int b)]) hx hb dX12_numeral_57 rfl hl (by decide) rfl (fun ls hl => ?_)
            refine lv_aload_n hx hb dX12_numeral_58 rfl (lv_at hl 1 rfl) ?_
            refine zy_i (va_runV (As := []) (rest := []) ⟨hx, hb, hml, hown, hts⟩ (n_isGood l dC dI h ad cl H.size τ156  hI158) (cwV 0 hts gd_n_numeral_224_n_isGood rfl rfl rfl (by decide +kernel) ⟨Nat.le_of_ble_eq_true rfl, Nat.le_of_ble_eq_true rfl⟩) (preV hP hK hD hE (ci := 12) (q0 := 0) rfl rfl) rfl rfl hl.1 rfl (lv_room (Nat.le_of_ble_eq_true rfl)) dX12_numeral_59 ⟨Nat.le_of_ble_eq_true rfl, Nat.le_of_ble_eq_true rfl⟩) hD hS hA (fun z162 τ161 H locs hq hP hD hS => ?_)
            obtain ⟨rfl, f163⟩ := hq
            refine W.widen (k := 0) (n := 0) (Nat.le_of_ble_eq_true rfl) (Nat.le_of_ble_eq_true rfl) ?_
            refine lv_if_eq (tgt := 69) hx hb dX12_numeral_62 (by decide) (fun c164 => ?_) (fun c164 => ?_)
            · have tc164 := (show z162.toInt = 0 from ti_eq rfl (by decide) c164)
              refine lv_aload_n hx hb dX12_numeral_69 rfl (lv_at hl 1 rfl) ?_
              refine zy_i (va_runV (As := []) (rest := []) ⟨hx, hb, hml, hown, hts⟩ (n_isGood l dC dI h ad cl H.size τ156  hI158) (cwV 0 hts gd_n_numeral_224_n_isGood rfl rfl rfl (by decide +kernel) ⟨Nat.le_of_ble_eq_true rfl, Nat.le_of_ble_eq_true rfl⟩) (preV hP hK hD hE (ci := 12) (q0 := 0) rfl rfl) rfl rfl hl.1 rfl (lv_room (Nat.le_of_ble_eq_true rfl)) dX12_numeral_70 ⟨Nat.le_of_ble_eq_true rfl, Nat.le_of_ble_eq_true rfl⟩) hD hS hA (fun z166 τ165 H locs hq hP hD hS => ?_)
              obtain ⟨rfl, f167⟩ := hq
              refine W.widen (k := 0) (n := 0) (Nat.le_of_ble_eq_true rfl) (Nat.le_of_ble_eq_true rfl) ?_
              refine lv_if_eq (tgt := 80) hx hb dX12_numeral_73 (by decide) (fun c168 => ?_) (fun c168 => ?_)
              · have tc168 := (show z166.toInt = 0 from ti_eq rfl (by decide) c168)
                refine lv_iload_n hx hb dX12_numeral_80 rfl (lv_at hl 2 rfl) ?_
                rw [hQ]
                exact W.iret (v := a) hx hb hr (fun t ht hW => ⟨⟨a, τ156, rfl, ⟨hI158, (eqx.tr hx159 (eqx.tr hx91 eqx.rf (by decide)) (by decide)), (by omega), (by omega)⟩, wEn_of hP (hK.sub [] rfl) hD ht hW⟩, hS.F ht⟩) hS.2.2 dX12_numeral_81
              · have tc168 := (show z166.toInt ≠ 0 from ti_ne rfl (by decide) c168)
                refine lv_iload_n hx hb dX12_numeral_76 rfl (lv_at hl 0 rfl) ?_
                refine lv_goto (tgt := 81) hx hb dX12_numeral_77 (by decide) ?_
                rw [hQ]
                exact W.iret (v := (τ88.1 9)) hx hb hr (fun t ht hW => ⟨⟨(τ88.1 9), τ156, rfl, ⟨hI158, (eqx.tr hx159 (eqx.tr hx91 eqx.rf (by decide)) (by decide)), (by omega), (by omega)⟩, wEn_of hP (hK.sub [] rfl) hD ht hW⟩, hS.F ht⟩) hS.2.2 dX12_numeral_81
            · have tc164 := (show z162.toInt ≠ 0 from ti_ne rfl (by decide) c164)
              refine lv_aload_n hx hb dX12_numeral_65 rfl (lv_at hl 1 rfl) ?_
              refine zy_v (va_runV (As := []) (rest := []) ⟨hx, hb, hml, hown, hts⟩ (n_next l dC dI h ad cl H.size τ156  hI158) (cwV 0 hts gd_n_numeral_228_n_next rfl rfl rfl (by decide +kernel) ⟨Nat.le_of_ble_eq_true rfl, Nat.le_of_ble_eq_true rfl⟩) (preV hP hK hD hE (ci := 12) (q0 := 0) rfl rfl) rfl rfl hl.1 rfl (lv_room (Nat.le_of_ble_eq_true rfl)) dX12_numeral_66 ⟨Nat.le_of_ble_eq_true rfl, Nat.le_of_ble_eq_true rfl⟩) hD hS hA (fun τ169 H locs hq hP hD hS => ?_)
              obtain ⟨hI171, hx172⟩ := hq
              refine W.widen (k := 0) (n := 0) (Nat.le_of_ble_eq_true rfl) (Nat.le_of_ble_eq_true rfl) ?_
              refine lv_aload_n hx hb dX12_numeral_69 rfl (lv_at hl 1 rfl) ?_
              refine zy_i (va_runV (As := []) (rest := []) ⟨hx, hb, hml, hown, hts⟩ (n_isGood l dC dI h ad cl H.size τ169  hI171) (cwV 0 hts gd_n_numeral_224_n_isGood rfl rfl rfl (by decide +kernel) ⟨Nat.le_of_ble_eq_true rfl, Nat.le_of_ble_eq_true rfl⟩) (preV hP hK hD hE (ci := 12) (q0 := 0) rfl rfl) rfl rfl hl.1 rfl (lv_room (Nat.le_of_ble_eq_true rfl)) dX12_numeral_70 ⟨Nat.le_of_ble_eq_true rfl, Nat.le_of_ble_eq_true rfl⟩) hD hS hA (fun z174 τ173 H locs hq hP hD hS => ?_)
              obtain ⟨rfl, f175⟩ := hq
              refine W.widen (k := 0) (n := 0) (Nat.le_of_ble_eq_true rfl) (Nat.le_of_ble_eq_true rfl) ?_
              refine lv_if_eq (tgt := 80) hx hb dX12_numeral_73 (by decide) (fun c176 => ?_) (fun c176 => ?_)
              · have tc176 := (show z174.toInt = 0 from ti_eq rfl (by decide) c176)
                refine lv_iload_n hx hb dX12_numeral_80 rfl (lv_at hl 2 rfl) ?_
                rw [hQ]
                exact W.iret (v := a) hx hb hr (fun t ht hW => ⟨⟨a, τ169, rfl, ⟨hI171, (eqx.tr hx172 (eqx.tr hx159 (eqx.tr hx91 eqx.rf (by decide)) (by decide)) (by decide)), (by omega), (by omega)⟩, wEn_of hP (hK.sub [] rfl) hD ht hW⟩, hS.F ht⟩) hS.2.2 dX12_numeral_81
              · have tc176 := (show z174.toInt ≠ 0 from ti_ne rfl (by decide) c176)
                refine lv_iload_n hx hb dX12_numeral_76 rfl (lv_at hl 0 rfl) ?_
                refine lv_goto (tgt := 81) hx hb dX12_numeral_77 (by decide) ?_
                rw [hQ]
                exact W.iret (v := (τ88.1 9)) hx hb hr (fun t ht hW => ⟨⟨(τ88.1 9), τ169, rfl, ⟨hI171, (eqx.tr hx172 (eqx.tr hx159 (eqx.tr hx91 eqx.rf (by decide)) (by decide)) (by decide)), (by omega), (by omega)⟩, wEn_of hP (hK.sub [] rfl) hD ht hW⟩, hS.F ht⟩) hS.2.2 dX12_numeral_81
  · have tc4 := (show z2.toInt = 0 from ti_eq rfl (by decide) c4)
    refine lv_iload_n hx hb dX12_numeral_7 rfl (lv_at hl 1 rfl) ?_
    rw [hQ]
    exact W.iret (v := a) hx hb hr (fun t ht hW => ⟨⟨a, σ, rfl, ⟨hI, eqx.rf, (by omega), (by omega)⟩, wEn_of hP (hK.sub [] rfl) hD ht hW⟩, hS.F ht⟩) hS.2.2 dX12_numeral_8
def ow_n_signed : List Cond := [.fieldLink RX12 192 "NearEnoughModel" "at" "I", .fieldLink RX12 199 "NearEnoughModel" "token" "I", .fieldLink RX12 217 "NearEnoughModel" "number" "I"]
def vs_n_signed : List Cond := .code yX12_signed cX12_signed 6 (some .int) :: (ow_n_signed ++ (([.methodLink RX12 224 yX12_isGood, .instanceMethod yX12_isGood, .selects RX12 yX12_isGood yX12_isGood, .initialized RX12] : List Cond) ++ (vs_n_isGood ++ (([.methodLink RX12 234 yX12_is, .instanceMethod yX12_is, .selects RX12 yX12_is yX12_is, .initialized RX12] : List Cond) ++ (vs_n_is ++ (([.methodLink RX12 228 yX12_next, .instanceMethod yX12_next, .selects RX12 yX12_next yX12_next, .initialized RX12] : List Cond) ++ (vs_n_next ++ (([.methodLink RX12 220 yX12_fails, .instanceMethod yX12_fails, .selects RX12 yX12_fails yX12_fails, .initialized RX12] : List Cond) ++ (vs_n_fails ++ (([.methodLink RX12 231 yX12_wrong, .instanceMethod yX12_wrong, .selects RX12 yX12_wrong yX12_wrong, .initialized RX12] : List Cond) ++ (vs_n_wrong ++ (wsX120))))))))))))
theorem vg_n_signed : vs_n_signed.all goodWord = true := by decide +kernel
def rm_n_signed : Room := { frames := 2, cells := 0, slots := 0, locals := 44 }
theorem gd_n_signed_224_n_isGood : GoodIn vs_n_signed (wsV RX12 224 RX12 yX12_isGood vs_n_isGood) := goodIn_app (goodIn_sub (fun w h => (List.mem_cons_of_mem _ (List.mem_append_right _ (List.mem_append_left _ h)))) (by decide +kernel)) (goodIn_sub (fun w h => (List.mem_cons_of_mem _ (List.mem_append_right _ (List.mem_append_right _ (List.mem_append_left _ h))))) vg_n_isGood)
theorem gd_n_signed_234_n_is : GoodIn vs_n_signed (wsV RX12 234 RX12 yX12_is vs_n_is) := goodIn_app (goodIn_sub (fun w h => (List.mem_cons_of_mem _ (List.mem_append_right _ (List.mem_append_right _ (List.mem_append_right _ (List.mem_append_left _ h)))))) (by decide +kernel)) (goodIn_sub (fun w h => (List.mem_cons_of_mem _ (List.mem_append_right _ (List.mem_append_right _ (List.mem_append_right _ (List.mem_append_right _ (List.mem_append_left _ h))))))) vg_n_is)
theorem gd_n_signed_228_n_next : GoodIn vs_n_signed (wsV RX12 228 RX12 yX12_next vs_n_next) := goodIn_app (goodIn_sub (fun w h => (List.mem_cons_of_mem _ (List.mem_append_right _ (List.mem_append_right _ (List.mem_append_right _ (List.mem_append_right _ (List.mem_append_right _ (List.mem_append_left _ h)))))))) (by decide +kernel)) (goodIn_sub (fun w h => (List.mem_cons_of_mem _ (List.mem_append_right _ (List.mem_append_right _ (List.mem_append_right _ (List.mem_append_right _ (List.mem_append_right _ (List.mem_append_right _ (List.mem_append_left _ h))))))))) vg_n_next)
theorem gd_n_signed_220_n_fails : GoodIn vs_n_signed (wsV RX12 220 RX12 yX12_fails vs_n_fails) := goodIn_app (goodIn_sub (fun w h => (List.mem_cons_of_mem _ (List.mem_append_right _ (List.mem_append_right _ (List.mem_append_right _ (List.mem_append_right _ (List.mem_append_right _ (List.mem_append_right _ (List.mem_append_right _ (List.mem_append_left _ h)))))))))) (by decide +kernel)) (goodIn_sub (fun w h => (List.mem_cons_of_mem _ (List.mem_append_right _ (List.mem_append_right _ (List.mem_append_right _ (List.mem_append_right _ (List.mem_append_right _ (List.mem_append_right _ (List.mem_append_right _ (List.mem_append_right _ (List.mem_append_left _ h))))))))))) vg_n_fails)
theorem gd_n_signed_231_n_wrong : GoodIn vs_n_signed (wsV RX12 231 RX12 yX12_wrong vs_n_wrong) := goodIn_app (goodIn_sub (fun w h => (List.mem_cons_of_mem _ (List.mem_append_right _ (List.mem_append_right _ (List.mem_append_right _ (List.mem_append_right _ (List.mem_append_right _ (List.mem_append_right _ (List.mem_append_right _ (List.mem_append_right _ (List.mem_append_right _ (List.mem_append_left _ h)))))))))))) (by decide +kernel)) (goodIn_sub (fun w h => (List.mem_cons_of_mem _ (List.mem_append_right _ (List.mem_append_right _ (List.mem_append_right _ (List.mem_append_right _ (List.mem_append_right _ (List.mem_append_right _ (List.mem_append_right _ (List.mem_append_right _ (List.mem_append_right _ (List.mem_append_right _ (List.mem_append_left _ h))))))))))))) vg_n_wrong)
set_option maxHeartbeats 4000000 in
set_option maxRecDepth 100000 in
theorem n_signed (l : Launch) (dC : Nat → ClassId) (dI : Nat → Nat → Nat) (h : Nat) (ad : Nat → Nat) (cl : Nat → ClassId) (sz : Nat) (σ : MS) (a : Int32) (b : Int32) (hI : Inv σ) (hab : a.toInt ≤ b.toInt) : Met l yX12_signed vs_n_signed rm_n_signed (va_Pc [.ref h, .int a, .int b] (wSt dC dI (mW h ad cl σ) (mT cl) sz)) (va_Qi (fun (r : Int32) (τ : MS) => Inv τ ∧ eqx [6, 7, 8, 9, 10, 4, 5] τ σ ∧ a.toInt ≤ r.toInt ∧ r.toInt ≤ b.toInt) (fun (τ : MS) => wEn dC dI (va_A (mW h ad cl σ) sz) (mW h ad cl τ) []) (va_A (mW h ad cl σ) sz)) 0 0 (va_A (mW h ad cl σ) sz) := by
  refine Met.ofW (cc := cX12_signed) (maxL := 6) (ret := (some .int)) (by decide) rfl ?_
  intro p e s m args below meth c s₁ B hml hv
  obtain ⟨rfl, hsz, hP, hK, hD0, hE⟩ := hv
  have hx := B.exec
  have hb := B.bytes
  have hr := B.returns
  have hts := atoms_spec (ws := vs_n_signed) B.pre
  have hown : s.vm.findClass RX12 = some m.cls := findClass_of_methodNamed B.named
  have hlocks := B.notSynchronized
  subst hsz
  have hD := hD0.self (sz := s.heap.size)
  generalize hAe : va_A (mW h ad cl σ) s.heap.size = A at hD ⊢
  have hA : ∀ q : Nat, s.heap.size ≤ q → A q := fun q h => by rw [← hAe]; exact Or.inr h
  have hl := lv_entry ([.ref h, .int a, .int b]) (n := 6) (Nat.le_of_ble_eq_true rfl)
  rw [lg_entry_eq]
  generalize (lg_sl ([.ref h, .int a, .int b]) ++ List.replicate (6 - (lg_sl ([.ref h, .int a, .int b])).length) Slot.unset).toArray = ls at hl ⊢
  have hl : lv_has ls 6 [(0, .ref h), (1, .int a), (2, .int b)] := hl
  have ho := fun w (h : w ∈ ow_n_signed) => hts w (List.mem_cons_of_mem _ (List.mem_append_left _ h))
  have hin12 : ∀ w ∈ u_ws RX12 TX12 59, w ∈ vs_n_signed := fun w h => (List.mem_cons_of_mem _ (List.mem_append_right _ (List.mem_append_right _ (List.mem_append_right _ (List.mem_append_right _ (List.mem_append_right _ (List.mem_append_right _ (List.mem_append_right _ (List.mem_append_right _ (List.mem_append_right _ (List.mem_append_right _ (List.mem_append_right _ h))))))))))))
  refine zQ (fun Q hQ => ?_)
  refine zH (A := A) (ws := mW h ad cl σ) (fun H hP hS => ?_) hP
  have bσ_4 : 0 ≤ (σ.1 4).toInt ∧ (σ.1 4).toInt ≤ 7 := hI.1 4
  refine lv_aload_n hx hb dX12_signed_0 rfl (lv_at hl 0 rfl) ?_
  refine zy_i (va_runV (As := []) (rest := []) ⟨hx, hb, hml, hown, hts⟩ (n_isGood l dC dI h ad cl H.size σ  hI) (cwV 0 hts gd_n_signed_224_n_isGood rfl rfl rfl (by decide +kernel) ⟨Nat.le_of_ble_eq_true rfl, Nat.le_of_ble_eq_true rfl⟩) (preV hP hK hD hE (ci := 12) (q0 := 0) rfl rfl) rfl rfl hl.1 rfl (lv_room (Nat.le_of_ble_eq_true rfl)) dX12_signed_1 ⟨Nat.le_of_ble_eq_true rfl, Nat.le_of_ble_eq_true rfl⟩) hD hS hA (fun z2 τ1 H locs hq hP hD hS => ?_)
  obtain ⟨rfl, f3⟩ := hq
  refine W.widen (k := 0) (n := 0) (Nat.le_of_ble_eq_true rfl) (Nat.le_of_ble_eq_true rfl) ?_
  refine lv_if_ne (tgt := 9) hx hb dX12_signed_4 (by decide) (fun c4 => ?_) (fun c4 => ?_)
  · have tc4 := (show z2.toInt ≠ 0 from ti_ne rfl (by decide) c4)
    refine lv_aload_n hx hb dX12_signed_9 rfl (lv_at hl 0 rfl) ?_
    refine va_get (D := (dC, dI)) (ci := 12) (v := .int (σ.1 6)) (C := RX12) (T := TX12) (N := 59) hx hb hts hin12 hown hK hP 0 rfl rfl 6 (by decide) (ho (.fieldLink RX12 192 "NearEnoughModel" "at" "I") (List.mem_of_getElem? (i := 0) rfl)) (fun _ h9 => h9) rfl dX12_signed_10 ?_
    have bσ_6 : 0 ≤ (σ.1 6).toInt ∧ (σ.1 6).toInt ≤ 1000 := hI.1 6
    refine lv_istore_n (lv' := [(3, .int (σ.1 6)), (0, .ref h), (1, .int a), (2, .int b)]) hx hb dX12_signed_13 rfl hl (by decide) rfl (fun ls hl => ?_)
    refine lv_aload_n hx hb dX12_signed_14 rfl (lv_at hl 1 rfl) ?_
    refine lv_bipush (v := 45) hx hb dX12_signed_15 (by decide) ?_
    have kk5 : (45 : Int32).toInt = 45 := by decide
    refine zy_i (va_runV (As := [.int 45]) (rest := []) ⟨hx, hb, hml, hown, hts⟩ (n_is l dC dI h ad cl H.size σ 45 hI) (cwV 1 hts gd_n_signed_234_n_is rfl rfl rfl (by decide +kernel) ⟨Nat.le_of_ble_eq_true rfl, Nat.le_of_ble_eq_true rfl⟩) (preV hP hK hD hE (ci := 12) (q0 := 0) rfl rfl) rfl rfl hl.1 rfl (lv_room (Nat.le_of_ble_eq_true rfl)) dX12_signed_17 ⟨Nat.le_of_ble_eq_true rfl, Nat.le_of_ble_eq_true rfl⟩) hD hS hA (fun z7 τ6 H locs hq hP hD hS => ?_)
    obtain ⟨rfl, f8⟩ := hq
    refine W.widen (k := 0) (n := 0) (Nat.le_of_ble_eq_true rfl) (Nat.le_of_ble_eq_true rfl) ?_
    refine lv_istore (lv' := [(4, .int z7), (3, .int (σ.1 6)), (0, .ref h), (1, .int a), (2, .int b)]) hx hb dX12_signed_20 hl (by decide) rfl (fun ls hl => ?_)
    refine lv_iload hx hb dX12_signed_22 (lv_at hl 0 rfl) ?_
    refine lv_if_eq (tgt := 31) hx hb dX12_signed_24 (by decide) (fun c9 => ?_) (fun c9 => ?_)
    · have tc9 := (show z7.toInt = 0 from ti_eq rfl (by decide) c9)
      refine lv_aload_n hx hb dX12_signed_31 rfl (lv_at hl 2 rfl) ?_
      refine va_get (D := (dC, dI)) (ci := 12) (v := .int (σ.1 8)) (C := RX12) (T := TX12) (N := 59) hx hb hts hin12 hown hK hP 0 rfl rfl 8 (by decide) (ho (.fieldLink RX12 199 "NearEnoughModel" "token" "I") (List.mem_of_getElem? (i := 1) rfl)) (fun _ h9 => h9) rfl dX12_signed_32 ?_
      have bσ_8 : 0 ≤ (σ.1 8).toInt ∧ (σ.1 8).toInt ≤ 5 := hI.1 8
      refine lv_iconst (v := 4) hx hb dX12_signed_35 (by decide) ?_
      refine lv_icmp_eq (tgt := 43) hx hb dX12_signed_36 (by decide) (fun c10 => ?_) (fun c10 => ?_)
      · have tc10 := (show (σ.1 8).toInt = 4 from ti_eq rfl (by decide) c10)
        refine lv_iload hx hb dX12_signed_43 (lv_at hl 0 rfl) ?_
        refine lv_if_eq (tgt := 56) hx hb dX12_signed_45 (by decide) (fun c11 => ?_) (fun c11 => ?_)
        · have tc11 := (show z7.toInt = 0 from ti_eq rfl (by decide) c11)
          refine lv_aload_n hx hb dX12_signed_56 rfl (lv_at hl 2 rfl) ?_
          refine va_get (D := (dC, dI)) (ci := 12) (v := .int (σ.1 9)) (C := RX12) (T := TX12) (N := 59) hx hb hts hin12 hown hK hP 0 rfl rfl 9 (by decide) (ho (.fieldLink RX12 217 "NearEnoughModel" "number" "I") (List.mem_of_getElem? (i := 2) rfl)) (fun _ h9 => h9) rfl dX12_signed_57 ?_
          refine lv_istore (lv' := [(5, .int (σ.1 9)), (4, .int z7), (3, .int (σ.1 6)), (0, .ref h), (1, .int a), (2, .int b)]) hx hb dX12_signed_60 hl (by decide) rfl (fun ls hl => ?_)
          refine lv_aload_n hx hb dX12_signed_62 rfl (lv_at hl 3 rfl) ?_
          refine zy_i (va_runV (As := []) (rest := []) ⟨hx, hb, hml, hown, hts⟩ (n_isGood l dC dI h ad cl H.size σ  hI) (cwV 0 hts gd_n_signed_224_n_isGood rfl rfl rfl (by decide +kernel) ⟨Nat.le_of_ble_eq_true rfl, Nat.le_of_ble_eq_true rfl⟩) (preV hP hK hD hE (ci := 12) (q0 := 0) rfl rfl) rfl rfl hl.1 rfl (lv_room (Nat.le_of_ble_eq_true rfl)) dX12_signed_63 ⟨Nat.le_of_ble_eq_true rfl, Nat.le_of_ble_eq_true rfl⟩) hD hS hA (fun z13 τ12 H locs hq hP hD hS => ?_)
          obtain ⟨rfl, f14⟩ := hq
          refine W.widen (k := 0) (n := 0) (Nat.le_of_ble_eq_true rfl) (Nat.le_of_ble_eq_true rfl) ?_
          refine lv_if_eq (tgt := 87) hx hb dX12_signed_66 (by decide) (fun c15 => ?_) (fun c15 => ?_)
          · have tc15 := (show z13.toInt = 0 from ti_eq rfl (by decide) c15)
            refine lv_aload_n hx hb dX12_signed_87 rfl (lv_at hl 3 rfl) ?_
            refine zy_i (va_runV (As := []) (rest := []) ⟨hx, hb, hml, hown, hts⟩ (n_isGood l dC dI h ad cl H.size σ  hI) (cwV 0 hts gd_n_signed_224_n_isGood rfl rfl rfl (by decide +kernel) ⟨Nat.le_of_ble_eq_true rfl, Nat.le_of_ble_eq_true rfl⟩) (preV hP hK hD hE (ci := 12) (q0 := 0) rfl rfl) rfl rfl hl.1 rfl (lv_room (Nat.le_of_ble_eq_true rfl)) dX12_signed_88 ⟨Nat.le_of_ble_eq_true rfl, Nat.le_of_ble_eq_true rfl⟩) hD hS hA (fun z17 τ16 H locs hq hP hD hS => ?_)
            obtain ⟨rfl, f18⟩ := hq
            refine W.widen (k := 0) (n := 0) (Nat.le_of_ble_eq_true rfl) (Nat.le_of_ble_eq_true rfl) ?_
            refine lv_if_eq (tgt := 98) hx hb dX12_signed_91 (by decide) (fun c19 => ?_) (fun c19 => ?_)
            · have tc19 := (show z17.toInt = 0 from ti_eq rfl (by decide) c19)
              refine lv_aload_n hx hb dX12_signed_98 rfl (lv_at hl 3 rfl) ?_
              refine zy_i (va_runV (As := []) (rest := []) ⟨hx, hb, hml, hown, hts⟩ (n_isGood l dC dI h ad cl H.size σ  hI) (cwV 0 hts gd_n_signed_224_n_isGood rfl rfl rfl (by decide +kernel) ⟨Nat.le_of_ble_eq_true rfl, Nat.le_of_ble_eq_true rfl⟩) (preV hP hK hD hE (ci := 12) (q0 := 0) rfl rfl) rfl rfl hl.1 rfl (lv_room (Nat.le_of_ble_eq_true rfl)) dX12_signed_99 ⟨Nat.le_of_ble_eq_true rfl, Nat.le_of_ble_eq_true rfl⟩) hD hS hA (fun z21 τ20 H locs hq hP hD hS => ?_)
              obtain ⟨rfl, f22⟩ := hq
              refine W.widen (k := 0) (n := 0) (Nat.le_of_ble_eq_true rfl) (Nat.le_of_ble_eq_true rfl) ?_
              refine lv_if_eq (tgt := 110) hx hb dX12_signed_102 (by decide) (fun c23 => ?_) (fun c23 => ?_)
              · have tc23 := (show z21.toInt = 0 from ti_eq rfl (by decide) c23)
                refine lv_iload_n hx hb dX12_signed_110 rfl (lv_at hl 4 rfl) ?_
                rw [hQ]
                exact W.iret (v := a) hx hb hr (fun t ht hW => ⟨⟨a, σ, rfl, ⟨hI, eqx.rf, (by omega), (by omega)⟩, wEn_of hP (hK.sub [] rfl) hD ht hW⟩, hS.F ht⟩) hS.2.2 dX12_signed_111
              · have tc23 := (show z21.toInt ≠ 0 from ti_ne rfl (by decide) c23)
                refine lv_iload hx hb dX12_signed_105 (lv_at hl 0 rfl) ?_
                refine lv_goto (tgt := 111) hx hb dX12_signed_107 (by decide) ?_
                rw [hQ]
                exact W.iret (v := (σ.1 9)) hx hb hr (fun t ht hW => ⟨⟨(σ.1 9), σ, rfl, ⟨hI, eqx.rf, (by omega), (by omega)⟩, wEn_of hP (hK.sub [] rfl) hD ht hW⟩, hS.F ht⟩) hS.2.2 dX12_signed_111
            · have tc19 := (show z17.toInt ≠ 0 from ti_ne rfl (by decide) c19)
              refine lv_aload_n hx hb dX12_signed_94 rfl (lv_at hl 3 rfl) ?_
              refine zy_v (va_runV (As := []) (rest := []) ⟨hx, hb, hml, hown, hts⟩ (n_next l dC dI h ad cl H.size σ  hI) (cwV 0 hts gd_n_signed_228_n_next rfl rfl rfl (by decide +kernel) ⟨Nat.le_of_ble_eq_true rfl, Nat.le_of_ble_eq_true rfl⟩) (preV hP hK hD hE (ci := 12) (q0 := 0) rfl rfl) rfl rfl hl.1 rfl (lv_room (Nat.le_of_ble_eq_true rfl)) dX12_signed_95 ⟨Nat.le_of_ble_eq_true rfl, Nat.le_of_ble_eq_true rfl⟩) hD hS hA (fun τ24 H locs hq hP hD hS => ?_)
              obtain ⟨hI26, hx27⟩ := hq
              refine W.widen (k := 0) (n := 0) (Nat.le_of_ble_eq_true rfl) (Nat.le_of_ble_eq_true rfl) ?_
              refine lv_aload_n hx hb dX12_signed_98 rfl (lv_at hl 3 rfl) ?_
              refine zy_i (va_runV (As := []) (rest := []) ⟨hx, hb, hml, hown, hts⟩ (n_isGood l dC dI h ad cl H.size τ24  hI26) (cwV 0 hts gd_n_signed_224_n_isGood rfl rfl rfl (by decide +kernel) ⟨Nat.le_of_ble_eq_true rfl, Nat.le_of_ble_eq_true rfl⟩) (preV hP hK hD hE (ci := 12) (q0 := 0) rfl rfl) rfl rfl hl.1 rfl (lv_room (Nat.le_of_ble_eq_true rfl)) dX12_signed_99 ⟨Nat.le_of_ble_eq_true rfl, Nat.le_of_ble_eq_true rfl⟩) hD hS hA (fun z29 τ28 H locs hq hP hD hS => ?_)
              obtain ⟨rfl, f30⟩ := hq
              refine W.widen (k := 0) (n := 0) (Nat.le_of_ble_eq_true rfl) (Nat.le_of_ble_eq_true rfl) ?_
              refine lv_if_eq (tgt := 110) hx hb dX12_signed_102 (by decide) (fun c31 => ?_) (fun c31 => ?_)
              · have tc31 := (show z29.toInt = 0 from ti_eq rfl (by decide) c31)
                refine lv_iload_n hx hb dX12_signed_110 rfl (lv_at hl 4 rfl) ?_
                rw [hQ]
                exact W.iret (v := a) hx hb hr (fun t ht hW => ⟨⟨a, τ24, rfl, ⟨hI26, (eqx.tr hx27 eqx.rf (by decide)), (by omega), (by omega)⟩, wEn_of hP (hK.sub [] rfl) hD ht hW⟩, hS.F ht⟩) hS.2.2 dX12_signed_111
              · have tc31 := (show z29.toInt ≠ 0 from ti_ne rfl (by decide) c31)
                refine lv_iload hx hb dX12_signed_105 (lv_at hl 0 rfl) ?_
                refine lv_goto (tgt := 111) hx hb dX12_signed_107 (by decide) ?_
                rw [hQ]
                exact W.iret (v := (σ.1 9)) hx hb hr (fun t ht hW => ⟨⟨(σ.1 9), τ24, rfl, ⟨hI26, (eqx.tr hx27 eqx.rf (by decide)), (by omega), (by omega)⟩, wEn_of hP (hK.sub [] rfl) hD ht hW⟩, hS.F ht⟩) hS.2.2 dX12_signed_111
          · have tc15 := (show z13.toInt ≠ 0 from ti_ne rfl (by decide) c15)
            refine lv_iload hx hb dX12_signed_69 (lv_at hl 0 rfl) ?_
            refine lv_iload_n hx hb dX12_signed_71 rfl (lv_at hl 4 rfl) ?_
            refine lv_icmp_lt (tgt := 81) hx hb dX12_signed_72 (by decide) (fun c32 => ?_) (fun c32 => ?_)
            · have tc32 := (show (σ.1 9).toInt < a.toInt from ti_lt rfl rfl c32)
              refine lv_aload_n hx hb dX12_signed_81 rfl (lv_at hl 3 rfl) ?_
              refine lv_iconst (v := 4) hx hb dX12_signed_82 (by decide) ?_
              refine lv_iload_n hx hb dX12_signed_83 rfl (lv_at hl 2 rfl) ?_
              have kk33 : (4 : Int32).toInt = 4 := by decide
              refine zy_v (va_runV (As := [.int 4, .int (σ.1 6)]) (rest := []) ⟨hx, hb, hml, hown, hts⟩ (n_fails l dC dI h ad cl H.size σ 4 (σ.1 6) hI (by omega)) (cwV 2 hts gd_n_signed_220_n_fails rfl rfl rfl (by decide +kernel) ⟨Nat.le_of_ble_eq_true rfl, Nat.le_of_ble_eq_true rfl⟩) (preV hP hK hD hE (ci := 12) (q0 := 0) rfl rfl) rfl rfl hl.1 rfl (lv_room (Nat.le_of_ble_eq_true rfl)) dX12_signed_84 ⟨Nat.le_of_ble_eq_true rfl, Nat.le_of_ble_eq_true rfl⟩) hD hS hA (fun τ34 H locs hq hP hD hS => ?_)
              obtain ⟨hI36, hx37, f38⟩ := hq
              refine W.widen (k := 0) (n := 0) (Nat.le_of_ble_eq_true rfl) (Nat.le_of_ble_eq_true rfl) ?_
              refine lv_aload_n hx hb dX12_signed_87 rfl (lv_at hl 3 rfl) ?_
              refine zy_i (va_runV (As := []) (rest := []) ⟨hx, hb, hml, hown, hts⟩ (n_isGood l dC dI h ad cl H.size τ34  hI36) (cwV 0 hts gd_n_signed_224_n_isGood rfl rfl rfl (by decide +kernel) ⟨Nat.le_of_ble_eq_true rfl, Nat.le_of_ble_eq_true rfl⟩) (preV hP hK hD hE (ci := 12) (q0 := 0) rfl rfl) rfl rfl hl.1 rfl (lv_room (Nat.le_of_ble_eq_true rfl)) dX12_signed_88 ⟨Nat.le_of_ble_eq_true rfl, Nat.le_of_ble_eq_true rfl⟩) hD hS hA (fun z40 τ39 H locs hq hP hD hS => ?_)
              obtain ⟨rfl, f41⟩ := hq
              refine W.widen (k := 0) (n := 0) (Nat.le_of_ble_eq_true rfl) (Nat.le_of_ble_eq_true rfl) ?_
              refine lv_if_eq (tgt := 98) hx hb dX12_signed_91 (by decide) (fun c42 => ?_) (fun c42 => ?_)
              · have tc42 := (show z40.toInt = 0 from ti_eq rfl (by decide) c42)
                refine lv_aload_n hx hb dX12_signed_98 rfl (lv_at hl 3 rfl) ?_
                refine zy_i (va_runV (As := []) (rest := []) ⟨hx, hb, hml, hown, hts⟩ (n_isGood l dC dI h ad cl H.size τ34  hI36) (cwV 0 hts gd_n_signed_224_n_isGood rfl rfl rfl (by decide +kernel) ⟨Nat.le_of_ble_eq_true rfl, Nat.le_of_ble_eq_true rfl⟩) (preV hP hK hD hE (ci := 12) (q0 := 0) rfl rfl) rfl rfl hl.1 rfl (lv_room (Nat.le_of_ble_eq_true rfl)) dX12_signed_99 ⟨Nat.le_of_ble_eq_true rfl, Nat.le_of_ble_eq_true rfl⟩) hD hS hA (fun z44 τ43 H locs hq hP hD hS => ?_)
                obtain ⟨rfl, f45⟩ := hq
                refine W.widen (k := 0) (n := 0) (Nat.le_of_ble_eq_true rfl) (Nat.le_of_ble_eq_true rfl) ?_
                refine lv_if_eq (tgt := 110) hx hb dX12_signed_102 (by decide) (fun c46 => ?_) (fun c46 => ?_)
                · have tc46 := (show z44.toInt = 0 from ti_eq rfl (by decide) c46)
                  refine lv_iload_n hx hb dX12_signed_110 rfl (lv_at hl 4 rfl) ?_
                  rw [hQ]
                  exact W.iret (v := a) hx hb hr (fun t ht hW => ⟨⟨a, τ34, rfl, ⟨hI36, (eqx.tr hx37 eqx.rf (by decide)), (by omega), (by omega)⟩, wEn_of hP (hK.sub [] rfl) hD ht hW⟩, hS.F ht⟩) hS.2.2 dX12_signed_111
                · have tc46 := (show z44.toInt ≠ 0 from ti_ne rfl (by decide) c46)
                  refine lv_iload hx hb dX12_signed_105 (lv_at hl 0 rfl) ?_
                  refine lv_goto (tgt := 111) hx hb dX12_signed_107 (by decide) ?_
                  rw [hQ]
                  exact W.iret (v := (σ.1 9)) hx hb hr (fun t ht hW => ⟨⟨(σ.1 9), τ34, rfl, ⟨hI36, (eqx.tr hx37 eqx.rf (by decide)), (by omega), (by omega)⟩, wEn_of hP (hK.sub [] rfl) hD ht hW⟩, hS.F ht⟩) hS.2.2 dX12_signed_111
              · have tc42 := (show z40.toInt ≠ 0 from ti_ne rfl (by decide) c42)
                refine lv_aload_n hx hb dX12_signed_94 rfl (lv_at hl 3 rfl) ?_
                refine zy_v (va_runV (As := []) (rest := []) ⟨hx, hb, hml, hown, hts⟩ (n_next l dC dI h ad cl H.size τ34  hI36) (cwV 0 hts gd_n_signed_228_n_next rfl rfl rfl (by decide +kernel) ⟨Nat.le_of_ble_eq_true rfl, Nat.le_of_ble_eq_true rfl⟩) (preV hP hK hD hE (ci := 12) (q0 := 0) rfl rfl) rfl rfl hl.1 rfl (lv_room (Nat.le_of_ble_eq_true rfl)) dX12_signed_95 ⟨Nat.le_of_ble_eq_true rfl, Nat.le_of_ble_eq_true rfl⟩) hD hS hA (fun τ47 H locs hq hP hD hS => ?_)
                obtain ⟨hI49, hx50⟩ := hq
                refine W.widen (k := 0) (n := 0) (Nat.le_of_ble_eq_true rfl) (Nat.le_of_ble_eq_true rfl) ?_
                refine lv_aload_n hx hb dX12_signed_98 rfl (lv_at hl 3 rfl) ?_
                refine zy_i (va_runV (As := []) (rest := []) ⟨hx, hb, hml, hown, hts⟩ (n_isGood l dC dI h ad cl H.size τ47  hI49) (cwV 0 hts gd_n_signed_224_n_isGood rfl rfl rfl (by decide +kernel) ⟨Nat.le_of_ble_eq_true rfl, Nat.le_of_ble_eq_true rfl⟩) (preV hP hK hD hE (ci := 12) (q0 := 0) rfl rfl) rfl rfl hl.1 rfl (lv_room (Nat.le_of_ble_eq_true rfl)) dX12_signed_99 ⟨Nat.le_of_ble_eq_true rfl, Nat.le_of_ble_eq_true rfl⟩) hD hS hA (fun z52 τ51 H locs hq hP hD hS => ?_)
                obtain ⟨rfl, f53⟩ := hq
                refine W.widen (k := 0) (n := 0) (Nat.le_of_ble_eq_true rfl) (Nat.le_of_ble_eq_true rfl) ?_
                refine lv_if_eq (tgt := 110) hx hb dX12_signed_102 (by decide) (fun c54 => ?_) (fun c54 => ?_)
                · have tc54 := (show z52.toInt = 0 from ti_eq rfl (by decide) c54)
                  refine lv_iload_n hx hb dX12_signed_110 rfl (lv_at hl 4 rfl) ?_
                  rw [hQ]
                  exact W.iret (v := a) hx hb hr (fun t ht hW => ⟨⟨a, τ47, rfl, ⟨hI49, (eqx.tr hx50 (eqx.tr hx37 eqx.rf (by decide)) (by decide)), (by omega), (by omega)⟩, wEn_of hP (hK.sub [] rfl) hD ht hW⟩, hS.F ht⟩) hS.2.2 dX12_signed_111
                · have tc54 := (show z52.toInt ≠ 0 from ti_ne rfl (by decide) c54)
                  refine lv_iload hx hb dX12_signed_105 (lv_at hl 0 rfl) ?_
                  refine lv_goto (tgt := 111) hx hb dX12_signed_107 (by decide) ?_
                  rw [hQ]
                  exact W.iret (v := (σ.1 9)) hx hb hr (fun t ht hW => ⟨⟨(σ.1 9), τ47, rfl, ⟨hI49, (eqx.tr hx50 (eqx.tr hx37 eqx.rf (by decide)) (by decide)), (by omega), (by omega)⟩, wEn_of hP (hK.sub [] rfl) hD ht hW⟩, hS.F ht⟩) hS.2.2 dX12_signed_111
            · have tc32 := (show a.toInt ≤ (σ.1 9).toInt from ti_nlt rfl rfl c32)
              refine lv_iload hx hb dX12_signed_75 (lv_at hl 0 rfl) ?_
              refine lv_iload_n hx hb dX12_signed_77 rfl (lv_at hl 5 rfl) ?_
              refine lv_icmp_le (tgt := 87) hx hb dX12_signed_78 (by decide) (fun c55 => ?_) (fun c55 => ?_)
              · have tc55 := (show (σ.1 9).toInt ≤ b.toInt from ti_le rfl rfl c55)
                refine lv_aload_n hx hb dX12_signed_87 rfl (lv_at hl 3 rfl) ?_
                refine zy_i (va_runV (As := []) (rest := []) ⟨hx, hb, hml, hown, hts⟩ (n_isGood l dC dI h ad cl H.size σ  hI) (cwV 0 hts gd_n_signed_224_n_isGood rfl rfl rfl (by decide +kernel) ⟨Nat.le_of_ble_eq_true rfl, Nat.le_of_ble_eq_true rfl⟩) (preV hP hK hD hE (ci := 12) (q0 := 0) rfl rfl) rfl rfl hl.1 rfl (lv_room (Nat.le_of_ble_eq_true rfl)) dX12_signed_88 ⟨Nat.le_of_ble_eq_true rfl, Nat.le_of_ble_eq_true rfl⟩) hD hS hA (fun z57 τ56 H locs hq hP hD hS => ?_)
                obtain ⟨rfl, f58⟩ := hq
                refine W.widen (k := 0) (n := 0) (Nat.le_of_ble_eq_true rfl) (Nat.le_of_ble_eq_true rfl) ?_
                refine lv_if_eq (tgt := 98) hx hb dX12_signed_91 (by decide) (fun c59 => ?_) (fun c59 => ?_)
                · have tc59 := (show z57.toInt = 0 from ti_eq rfl (by decide) c59)
                  refine lv_aload_n hx hb dX12_signed_98 rfl (lv_at hl 3 rfl) ?_
                  refine zy_i (va_runV (As := []) (rest := []) ⟨hx, hb, hml, hown, hts⟩ (n_isGood l dC dI h ad cl H.size σ  hI) (cwV 0 hts gd_n_signed_224_n_isGood rfl rfl rfl (by decide +kernel) ⟨Nat.le_of_ble_eq_true rfl, Nat.le_of_ble_eq_true rfl⟩) (preV hP hK hD hE (ci := 12) (q0 := 0) rfl rfl) rfl rfl hl.1 rfl (lv_room (Nat.le_of_ble_eq_true rfl)) dX12_signed_99 ⟨Nat.le_of_ble_eq_true rfl, Nat.le_of_ble_eq_true rfl⟩) hD hS hA (fun z61 τ60 H locs hq hP hD hS => ?_)
                  obtain ⟨rfl, f62⟩ := hq
                  refine W.widen (k := 0) (n := 0) (Nat.le_of_ble_eq_true rfl) (Nat.le_of_ble_eq_true rfl) ?_
                  refine lv_if_eq (tgt := 110) hx hb dX12_signed_102 (by decide) (fun c63 => ?_) (fun c63 => ?_)
                  · have tc63 := (show z61.toInt = 0 from ti_eq rfl (by decide) c63)
                    refine lv_iload_n hx hb dX12_signed_110 rfl (lv_at hl 4 rfl) ?_
                    rw [hQ]
                    exact W.iret (v := a) hx hb hr (fun t ht hW => ⟨⟨a, σ, rfl, ⟨hI, eqx.rf, (by omega), (by omega)⟩, wEn_of hP (hK.sub [] rfl) hD ht hW⟩, hS.F ht⟩) hS.2.2 dX12_signed_111
                  · have tc63 := (show z61.toInt ≠ 0 from ti_ne rfl (by decide) c63)
                    refine lv_iload hx hb dX12_signed_105 (lv_at hl 0 rfl) ?_
                    refine lv_goto (tgt := 111) hx hb dX12_signed_107 (by decide) ?_
                    rw [hQ]
                    exact W.iret (v := (σ.1 9)) hx hb hr (fun t ht hW => ⟨⟨(σ.1 9), σ, rfl, ⟨hI, eqx.rf, (by omega), (by omega)⟩, wEn_of hP (hK.sub [] rfl) hD ht hW⟩, hS.F ht⟩) hS.2.2 dX12_signed_111
                · have tc59 := (show z57.toInt ≠ 0 from ti_ne rfl (by decide) c59)
                  refine lv_aload_n hx hb dX12_signed_94 rfl (lv_at hl 3 rfl) ?_
                  refine zy_v (va_runV (As := []) (rest := []) ⟨hx, hb, hml, hown, hts⟩ (n_next l dC dI h ad cl H.size σ  hI) (cwV 0 hts gd_n_signed_228_n_next rfl rfl rfl (by decide +kernel) ⟨Nat.le_of_ble_eq_true rfl, Nat.le_of_ble_eq_true rfl⟩) (preV hP hK hD hE (ci := 12) (q0 := 0) rfl rfl) rfl rfl hl.1 rfl (lv_room (Nat.le_of_ble_eq_true rfl)) dX12_signed_95 ⟨Nat.le_of_ble_eq_true rfl, Nat.le_of_ble_eq_true rfl⟩) hD hS hA (fun τ64 H locs hq hP hD hS => ?_)
                  obtain ⟨hI66, hx67⟩ := hq
                  refine W.widen (k := 0) (n := 0) (Nat.le_of_ble_eq_true rfl) (Nat.le_of_ble_eq_true rfl) ?_
                  refine lv_aload_n hx hb dX12_signed_98 rfl (lv_at hl 3 rfl) ?_
                  refine zy_i (va_runV (As := []) (rest := []) ⟨hx, hb, hml, hown, hts⟩ (n_isGood l dC dI h ad cl H.size τ64  hI66) (cwV 0 hts gd_n_signed_224_n_isGood rfl rfl rfl (by decide +kernel) ⟨Nat.le_of_ble_eq_true rfl, Nat.le_of_ble_eq_true rfl⟩) (preV hP hK hD hE (ci := 12) (q0 := 0) rfl rfl) rfl rfl hl.1 rfl (lv_room (Nat.le_of_ble_eq_true rfl)) dX12_signed_99 ⟨Nat.le_of_ble_eq_true rfl, Nat.le_of_ble_eq_true rfl⟩) hD hS hA (fun z69 τ68 H locs hq hP hD hS => ?_)
                  obtain ⟨rfl, f70⟩ := hq
                  refine W.widen (k := 0) (n := 0) (Nat.le_of_ble_eq_true rfl) (Nat.le_of_ble_eq_true rfl) ?_
                  refine lv_if_eq (tgt := 110) hx hb dX12_signed_102 (by decide) (fun c71 => ?_) (fun c71 => ?_)
                  · have tc71 := (show z69.toInt = 0 from ti_eq rfl (by decide) c71)
                    refine lv_iload_n hx hb dX12_signed_110 rfl (lv_at hl 4 rfl) ?_
                    rw [hQ]
                    exact W.iret (v := a) hx hb hr (fun t ht hW => ⟨⟨a, τ64, rfl, ⟨hI66, (eqx.tr hx67 eqx.rf (by decide)), (by omega), (by omega)⟩, wEn_of hP (hK.sub [] rfl) hD ht hW⟩, hS.F ht⟩) hS.2.2 dX12_signed_111
                  · have tc71 := (show z69.toInt ≠ 0 from ti_ne rfl (by decide) c71)
                    refine lv_iload hx hb dX12_signed_105 (lv_at hl 0 rfl) ?_
                    refine lv_goto (tgt := 111) hx hb dX12_signed_107 (by decide) ?_
                    rw [hQ]
                    exact W.iret (v := (σ.1 9)) hx hb hr (fun t ht hW => ⟨⟨(σ.1 9), τ64, rfl, ⟨hI66, (eqx.tr hx67 eqx.rf (by decide)), (by omega), (by omega)⟩, wEn_of hP (hK.sub [] rfl) hD ht hW⟩, hS.F ht⟩) hS.2.2 dX12_signed_111
              · have tc55 := (show b.toInt < (σ.1 9).toInt from ti_nle rfl rfl c55)
                refine lv_aload_n hx hb dX12_signed_81 rfl (lv_at hl 3 rfl) ?_
                refine lv_iconst (v := 4) hx hb dX12_signed_82 (by decide) ?_
                refine lv_iload_n hx hb dX12_signed_83 rfl (lv_at hl 2 rfl) ?_
                have kk72 : (4 : Int32).toInt = 4 := by decide
                refine zy_v (va_runV (As := [.int 4, .int (σ.1 6)]) (rest := []) ⟨hx, hb, hml, hown, hts⟩ (n_fails l dC dI h ad cl H.size σ 4 (σ.1 6) hI (by omega)) (cwV 2 hts gd_n_signed_220_n_fails rfl rfl rfl (by decide +kernel) ⟨Nat.le_of_ble_eq_true rfl, Nat.le_of_ble_eq_true rfl⟩) (preV hP hK hD hE (ci := 12) (q0 := 0) rfl rfl) rfl rfl hl.1 rfl (lv_room (Nat.le_of_ble_eq_true rfl)) dX12_signed_84 ⟨Nat.le_of_ble_eq_true rfl, Nat.le_of_ble_eq_true rfl⟩) hD hS hA (fun τ73 H locs hq hP hD hS => ?_)
                obtain ⟨hI75, hx76, f77⟩ := hq
                refine W.widen (k := 0) (n := 0) (Nat.le_of_ble_eq_true rfl) (Nat.le_of_ble_eq_true rfl) ?_
                refine lv_aload_n hx hb dX12_signed_87 rfl (lv_at hl 3 rfl) ?_
                refine zy_i (va_runV (As := []) (rest := []) ⟨hx, hb, hml, hown, hts⟩ (n_isGood l dC dI h ad cl H.size τ73  hI75) (cwV 0 hts gd_n_signed_224_n_isGood rfl rfl rfl (by decide +kernel) ⟨Nat.le_of_ble_eq_true rfl, Nat.le_of_ble_eq_true rfl⟩) (preV hP hK hD hE (ci := 12) (q0 := 0) rfl rfl) rfl rfl hl.1 rfl (lv_room (Nat.le_of_ble_eq_true rfl)) dX12_signed_88 ⟨Nat.le_of_ble_eq_true rfl, Nat.le_of_ble_eq_true rfl⟩) hD hS hA (fun z79 τ78 H locs hq hP hD hS => ?_)
                obtain ⟨rfl, f80⟩ := hq
                refine W.widen (k := 0) (n := 0) (Nat.le_of_ble_eq_true rfl) (Nat.le_of_ble_eq_true rfl) ?_
                refine lv_if_eq (tgt := 98) hx hb dX12_signed_91 (by decide) (fun c81 => ?_) (fun c81 => ?_)
                · have tc81 := (show z79.toInt = 0 from ti_eq rfl (by decide) c81)
                  refine lv_aload_n hx hb dX12_signed_98 rfl (lv_at hl 3 rfl) ?_
                  refine zy_i (va_runV (As := []) (rest := []) ⟨hx, hb, hml, hown, hts⟩ (n_isGood l dC dI h ad cl H.size τ73  hI75) (cwV 0 hts gd_n_signed_224_n_isGood rfl rfl rfl (by decide +kernel) ⟨Nat.le_of_ble_eq_true rfl, Nat.le_of_ble_eq_true rfl⟩) (preV hP hK hD hE (ci := 12) (q0 := 0) rfl rfl) rfl rfl hl.1 rfl (lv_room (Nat.le_of_ble_eq_true rfl)) dX12_signed_99 ⟨Nat.le_of_ble_eq_true rfl, Nat.le_of_ble_eq_true rfl⟩) hD hS hA (fun z83 τ82 H locs hq hP hD hS => ?_)
                  obtain ⟨rfl, f84⟩ := hq
                  refine W.widen (k := 0) (n := 0) (Nat.le_of_ble_eq_true rfl) (Nat.le_of_ble_eq_true rfl) ?_
                  refine lv_if_eq (tgt := 110) hx hb dX12_signed_102 (by decide) (fun c85 => ?_) (fun c85 => ?_)
                  · have tc85 := (show z83.toInt = 0 from ti_eq rfl (by decide) c85)
                    refine lv_iload_n hx hb dX12_signed_110 rfl (lv_at hl 4 rfl) ?_
                    rw [hQ]
                    exact W.iret (v := a) hx hb hr (fun t ht hW => ⟨⟨a, τ73, rfl, ⟨hI75, (eqx.tr hx76 eqx.rf (by decide)), (by omega), (by omega)⟩, wEn_of hP (hK.sub [] rfl) hD ht hW⟩, hS.F ht⟩) hS.2.2 dX12_signed_111
                  · have tc85 := (show z83.toInt ≠ 0 from ti_ne rfl (by decide) c85)
                    refine lv_iload hx hb dX12_signed_105 (lv_at hl 0 rfl) ?_
                    refine lv_goto (tgt := 111) hx hb dX12_signed_107 (by decide) ?_
                    rw [hQ]
                    exact W.iret (v := (σ.1 9)) hx hb hr (fun t ht hW => ⟨⟨(σ.1 9), τ73, rfl, ⟨hI75, (eqx.tr hx76 eqx.rf (by decide)), (by omega), (by omega)⟩, wEn_of hP (hK.sub [] rfl) hD ht hW⟩, hS.F ht⟩) hS.2.2 dX12_signed_111
                · have tc81 := (show z79.toInt ≠ 0 from ti_ne rfl (by decide) c81)
                  refine lv_aload_n hx hb dX12_signed_94 rfl (lv_at hl 3 rfl) ?_
                  refine zy_v (va_runV (As := []) (rest := []) ⟨hx, hb, hml, hown, hts⟩ (n_next l dC dI h ad cl H.size τ73  hI75) (cwV 0 hts gd_n_signed_228_n_next rfl rfl rfl (by decide +kernel) ⟨Nat.le_of_ble_eq_true rfl, Nat.le_of_ble_eq_true rfl⟩) (preV hP hK hD hE (ci := 12) (q0 := 0) rfl rfl) rfl rfl hl.1 rfl (lv_room (Nat.le_of_ble_eq_true rfl)) dX12_signed_95 ⟨Nat.le_of_ble_eq_true rfl, Nat.le_of_ble_eq_true rfl⟩) hD hS hA (fun τ86 H locs hq hP hD hS => ?_)
                  obtain ⟨hI88, hx89⟩ := hq
                  refine W.widen (k := 0) (n := 0) (Nat.le_of_ble_eq_true rfl) (Nat.le_of_ble_eq_true rfl) ?_
                  refine lv_aload_n hx hb dX12_signed_98 rfl (lv_at hl 3 rfl) ?_
                  refine zy_i (va_runV (As := []) (rest := []) ⟨hx, hb, hml, hown, hts⟩ (n_isGood l dC dI h ad cl H.size τ86  hI88) (cwV 0 hts gd_n_signed_224_n_isGood rfl rfl rfl (by decide +kernel) ⟨Nat.le_of_ble_eq_true rfl, Nat.le_of_ble_eq_true rfl⟩) (preV hP hK hD hE (ci := 12) (q0 := 0) rfl rfl) rfl rfl hl.1 rfl (lv_room (Nat.le_of_ble_eq_true rfl)) dX12_signed_99 ⟨Nat.le_of_ble_eq_true rfl, Nat.le_of_ble_eq_true rfl⟩) hD hS hA (fun z91 τ90 H locs hq hP hD hS => ?_)
                  obtain ⟨rfl, f92⟩ := hq
                  refine W.widen (k := 0) (n := 0) (Nat.le_of_ble_eq_true rfl) (Nat.le_of_ble_eq_true rfl) ?_
                  refine lv_if_eq (tgt := 110) hx hb dX12_signed_102 (by decide) (fun c93 => ?_) (fun c93 => ?_)
                  · have tc93 := (show z91.toInt = 0 from ti_eq rfl (by decide) c93)
                    refine lv_iload_n hx hb dX12_signed_110 rfl (lv_at hl 4 rfl) ?_
                    rw [hQ]
                    exact W.iret (v := a) hx hb hr (fun t ht hW => ⟨⟨a, τ86, rfl, ⟨hI88, (eqx.tr hx89 (eqx.tr hx76 eqx.rf (by decide)) (by decide)), (by omega), (by omega)⟩, wEn_of hP (hK.sub [] rfl) hD ht hW⟩, hS.F ht⟩) hS.2.2 dX12_signed_111
                  · have tc93 := (show z91.toInt ≠ 0 from ti_ne rfl (by decide) c93)
                    refine lv_iload hx hb dX12_signed_105 (lv_at hl 0 rfl) ?_
                    refine lv_goto (tgt := 111) hx hb dX12_signed_107 (by decide) ?_
                    rw [hQ]
                    exact W.iret (v := (σ.1 9)) hx hb hr (fun t ht hW => ⟨⟨(σ.1 9), τ86, rfl, ⟨hI88, (eqx.tr hx89 (eqx.tr hx76 eqx.rf (by decide)) (by decide)), (by omega), (by omega)⟩, wEn_of hP (hK.sub [] rfl) hD ht hW⟩, hS.F ht⟩) hS.2.2 dX12_signed_111
        · have tc11 := (show z7.toInt ≠ 0 from ti_ne rfl (by decide) c11)
          refine lv_aload_n hx hb dX12_signed_48 rfl (lv_at hl 2 rfl) ?_
          refine va_get (D := (dC, dI)) (ci := 12) (v := .int (σ.1 9)) (C := RX12) (T := TX12) (N := 59) hx hb hts hin12 hown hK hP 0 rfl rfl 9 (by decide) (ho (.fieldLink RX12 217 "NearEnoughModel" "number" "I") (List.mem_of_getElem? (i := 2) rfl)) (fun _ h9 => h9) rfl dX12_signed_49 ?_
          refine lv_ineg hx hb dX12_signed_52 ?_
          refine lv_topi (fun z94 ez94 => ?_)
          refine lv_goto (tgt := 60) hx hb dX12_signed_53 (by decide) ?_
          refine lv_istore (lv' := [(5, .int z94), (4, .int z7), (3, .int (σ.1 6)), (0, .ref h), (1, .int a), (2, .int b)]) hx hb dX12_signed_60 hl (by decide) rfl (fun ls hl => ?_)
          refine lv_aload_n hx hb dX12_signed_62 rfl (lv_at hl 3 rfl) ?_
          refine zy_i (va_runV (As := []) (rest := []) ⟨hx, hb, hml, hown, hts⟩ (n_isGood l dC dI h ad cl H.size σ  hI) (cwV 0 hts gd_n_signed_224_n_isGood rfl rfl rfl (by decide +kernel) ⟨Nat.le_of_ble_eq_true rfl, Nat.le_of_ble_eq_true rfl⟩) (preV hP hK hD hE (ci := 12) (q0 := 0) rfl rfl) rfl rfl hl.1 rfl (lv_room (Nat.le_of_ble_eq_true rfl)) dX12_signed_63 ⟨Nat.le_of_ble_eq_true rfl, Nat.le_of_ble_eq_true rfl⟩) hD hS hA (fun z96 τ95 H locs hq hP hD hS => ?_)
          obtain ⟨rfl, f97⟩ := hq
          refine W.widen (k := 0) (n := 0) (Nat.le_of_ble_eq_true rfl) (Nat.le_of_ble_eq_true rfl) ?_
          refine lv_if_eq (tgt := 87) hx hb dX12_signed_66 (by decide) (fun c98 => ?_) (fun c98 => ?_)
          · have tc98 := (show z96.toInt = 0 from ti_eq rfl (by decide) c98)
            refine lv_aload_n hx hb dX12_signed_87 rfl (lv_at hl 3 rfl) ?_
            refine zy_i (va_runV (As := []) (rest := []) ⟨hx, hb, hml, hown, hts⟩ (n_isGood l dC dI h ad cl H.size σ  hI) (cwV 0 hts gd_n_signed_224_n_isGood rfl rfl rfl (by decide +kernel) ⟨Nat.le_of_ble_eq_true rfl, Nat.le_of_ble_eq_true rfl⟩) (preV hP hK hD hE (ci := 12) (q0 := 0) rfl rfl) rfl rfl hl.1 rfl (lv_room (Nat.le_of_ble_eq_true rfl)) dX12_signed_88 ⟨Nat.le_of_ble_eq_true rfl, Nat.le_of_ble_eq_true rfl⟩) hD hS hA (fun z100 τ99 H locs hq hP hD hS => ?_)
            obtain ⟨rfl, f101⟩ := hq
            refine W.widen (k := 0) (n := 0) (Nat.le_of_ble_eq_true rfl) (Nat.le_of_ble_eq_true rfl) ?_
            refine lv_if_eq (tgt := 98) hx hb dX12_signed_91 (by decide) (fun c102 => ?_) (fun c102 => ?_)
            · have tc102 := (show z100.toInt = 0 from ti_eq rfl (by decide) c102)
              refine lv_aload_n hx hb dX12_signed_98 rfl (lv_at hl 3 rfl) ?_
              refine zy_i (va_runV (As := []) (rest := []) ⟨hx, hb, hml, hown, hts⟩ (n_isGood l dC dI h ad cl H.size σ  hI) (cwV 0 hts gd_n_signed_224_n_isGood rfl rfl rfl (by decide +kernel) ⟨Nat.le_of_ble_eq_true rfl, Nat.le_of_ble_eq_true rfl⟩) (preV hP hK hD hE (ci := 12) (q0 := 0) rfl rfl) rfl rfl hl.1 rfl (lv_room (Nat.le_of_ble_eq_true rfl)) dX12_signed_99 ⟨Nat.le_of_ble_eq_true rfl, Nat.le_of_ble_eq_true rfl⟩) hD hS hA (fun z104 τ103 H locs hq hP hD hS => ?_)
              obtain ⟨rfl, f105⟩ := hq
              refine W.widen (k := 0) (n := 0) (Nat.le_of_ble_eq_true rfl) (Nat.le_of_ble_eq_true rfl) ?_
              refine lv_if_eq (tgt := 110) hx hb dX12_signed_102 (by decide) (fun c106 => ?_) (fun c106 => ?_)
              · have tc106 := (show z104.toInt = 0 from ti_eq rfl (by decide) c106)
                refine lv_iload_n hx hb dX12_signed_110 rfl (lv_at hl 4 rfl) ?_
                rw [hQ]
                exact W.iret (v := a) hx hb hr (fun t ht hW => ⟨⟨a, σ, rfl, ⟨hI, eqx.rf, (by omega), (by omega)⟩, wEn_of hP (hK.sub [] rfl) hD ht hW⟩, hS.F ht⟩) hS.2.2 dX12_signed_111
              · have tc106 := (show z104.toInt ≠ 0 from ti_ne rfl (by decide) c106)
                refine lv_iload hx hb dX12_signed_105 (lv_at hl 0 rfl) ?_
                refine lv_goto (tgt := 111) hx hb dX12_signed_107 (by decide) ?_
                rw [hQ]
                exact W.iret (v := z94) hx hb hr (fun t ht hW => ⟨⟨z94, σ, rfl, ⟨hI, eqx.rf, (by omega), (by omega)⟩, wEn_of hP (hK.sub [] rfl) hD ht hW⟩, hS.F ht⟩) hS.2.2 dX12_signed_111
            · have tc102 := (show z100.toInt ≠ 0 from ti_ne rfl (by decide) c102)
              refine lv_aload_n hx hb dX12_signed_94 rfl (lv_at hl 3 rfl) ?_
              refine zy_v (va_runV (As := []) (rest := []) ⟨hx, hb, hml, hown, hts⟩ (n_next l dC dI h ad cl H.size σ  hI) (cwV 0 hts gd_n_signed_228_n_next rfl rfl rfl (by decide +kernel) ⟨Nat.le_of_ble_eq_true rfl, Nat.le_of_ble_eq_true rfl⟩) (preV hP hK hD hE (ci := 12) (q0 := 0) rfl rfl) rfl rfl hl.1 rfl (lv_room (Nat.le_of_ble_eq_true rfl)) dX12_signed_95 ⟨Nat.le_of_ble_eq_true rfl, Nat.le_of_ble_eq_true rfl⟩) hD hS hA (fun τ107 H locs hq hP hD hS => ?_)
              obtain ⟨hI109, hx110⟩ := hq
              refine W.widen (k := 0) (n := 0) (Nat.le_of_ble_eq_true rfl) (Nat.le_of_ble_eq_true rfl) ?_
              refine lv_aload_n hx hb dX12_signed_98 rfl (lv_at hl 3 rfl) ?_
              refine zy_i (va_runV (As := []) (rest := []) ⟨hx, hb, hml, hown, hts⟩ (n_isGood l dC dI h ad cl H.size τ107  hI109) (cwV 0 hts gd_n_signed_224_n_isGood rfl rfl rfl (by decide +kernel) ⟨Nat.le_of_ble_eq_true rfl, Nat.le_of_ble_eq_true rfl⟩) (preV hP hK hD hE (ci := 12) (q0 := 0) rfl rfl) rfl rfl hl.1 rfl (lv_room (Nat.le_of_ble_eq_true rfl)) dX12_signed_99 ⟨Nat.le_of_ble_eq_true rfl, Nat.le_of_ble_eq_true rfl⟩) hD hS hA (fun z112 τ111 H locs hq hP hD hS => ?_)
              obtain ⟨rfl, f113⟩ := hq
              refine W.widen (k := 0) (n := 0) (Nat.le_of_ble_eq_true rfl) (Nat.le_of_ble_eq_true rfl) ?_
              refine lv_if_eq (tgt := 110) hx hb dX12_signed_102 (by decide) (fun c114 => ?_) (fun c114 => ?_)
              · have tc114 := (show z112.toInt = 0 from ti_eq rfl (by decide) c114)
                refine lv_iload_n hx hb dX12_signed_110 rfl (lv_at hl 4 rfl) ?_
                rw [hQ]
                exact W.iret (v := a) hx hb hr (fun t ht hW => ⟨⟨a, τ107, rfl, ⟨hI109, (eqx.tr hx110 eqx.rf (by decide)), (by omega), (by omega)⟩, wEn_of hP (hK.sub [] rfl) hD ht hW⟩, hS.F ht⟩) hS.2.2 dX12_signed_111
              · have tc114 := (show z112.toInt ≠ 0 from ti_ne rfl (by decide) c114)
                refine lv_iload hx hb dX12_signed_105 (lv_at hl 0 rfl) ?_
                refine lv_goto (tgt := 111) hx hb dX12_signed_107 (by decide) ?_
                rw [hQ]
                exact W.iret (v := z94) hx hb hr (fun t ht hW => ⟨⟨z94, τ107, rfl, ⟨hI109, (eqx.tr hx110 eqx.rf (by decide)), (by omega), (by omega)⟩, wEn_of hP (hK.sub [] rfl) hD ht hW⟩, hS.F ht⟩) hS.2.2 dX12_signed_111
          · have tc98 := (show z96.toInt ≠ 0 from ti_ne rfl (by decide) c98)
            refine lv_iload hx hb dX12_signed_69 (lv_at hl 0 rfl) ?_
            refine lv_iload_n hx hb dX12_signed_71 rfl (lv_at hl 4 rfl) ?_
            refine lv_icmp_lt (tgt := 81) hx hb dX12_signed_72 (by decide) (fun c115 => ?_) (fun c115 => ?_)
            · have tc115 := (show z94.toInt < a.toInt from ti_lt rfl rfl c115)
              refine lv_aload_n hx hb dX12_signed_81 rfl (lv_at hl 3 rfl) ?_
              refine lv_iconst (v := 4) hx hb dX12_signed_82 (by decide) ?_
              refine lv_iload_n hx hb dX12_signed_83 rfl (lv_at hl 2 rfl) ?_
              have kk116 : (4 : Int32).toInt = 4 := by decide
              refine zy_v (va_runV (As := [.int 4, .int (σ.1 6)]) (rest := []) ⟨hx, hb, hml, hown, hts⟩ (n_fails l dC dI h ad cl H.size σ 4 (σ.1 6) hI (by omega)) (cwV 2 hts gd_n_signed_220_n_fails rfl rfl rfl (by decide +kernel) ⟨Nat.le_of_ble_eq_true rfl, Nat.le_of_ble_eq_true rfl⟩) (preV hP hK hD hE (ci := 12) (q0 := 0) rfl rfl) rfl rfl hl.1 rfl (lv_room (Nat.le_of_ble_eq_true rfl)) dX12_signed_84 ⟨Nat.le_of_ble_eq_true rfl, Nat.le_of_ble_eq_true rfl⟩) hD hS hA (fun τ117 H locs hq hP hD hS => ?_)
              obtain ⟨hI119, hx120, f121⟩ := hq
              refine W.widen (k := 0) (n := 0) (Nat.le_of_ble_eq_true rfl) (Nat.le_of_ble_eq_true rfl) ?_
              refine lv_aload_n hx hb dX12_signed_87 rfl (lv_at hl 3 rfl) ?_
              refine zy_i (va_runV (As := []) (rest := []) ⟨hx, hb, hml, hown, hts⟩ (n_isGood l dC dI h ad cl H.size τ117  hI119) (cwV 0 hts gd_n_signed_224_n_isGood rfl rfl rfl (by decide +kernel) ⟨Nat.le_of_ble_eq_true rfl, Nat.le_of_ble_eq_true rfl⟩) (preV hP hK hD hE (ci := 12) (q0 := 0) rfl rfl) rfl rfl hl.1 rfl (lv_room (Nat.le_of_ble_eq_true rfl)) dX12_signed_88 ⟨Nat.le_of_ble_eq_true rfl, Nat.le_of_ble_eq_true rfl⟩) hD hS hA (fun z123 τ122 H locs hq hP hD hS => ?_)
              obtain ⟨rfl, f124⟩ := hq
              refine W.widen (k := 0) (n := 0) (Nat.le_of_ble_eq_true rfl) (Nat.le_of_ble_eq_true rfl) ?_
              refine lv_if_eq (tgt := 98) hx hb dX12_signed_91 (by decide) (fun c125 => ?_) (fun c125 => ?_)
              · have tc125 := (show z123.toInt = 0 from ti_eq rfl (by decide) c125)
                refine lv_aload_n hx hb dX12_signed_98 rfl (lv_at hl 3 rfl) ?_
                refine zy_i (va_runV (As := []) (rest := []) ⟨hx, hb, hml, hown, hts⟩ (n_isGood l dC dI h ad cl H.size τ117  hI119) (cwV 0 hts gd_n_signed_224_n_isGood rfl rfl rfl (by decide +kernel) ⟨Nat.le_of_ble_eq_true rfl, Nat.le_of_ble_eq_true rfl⟩) (preV hP hK hD hE (ci := 12) (q0 := 0) rfl rfl) rfl rfl hl.1 rfl (lv_room (Nat.le_of_ble_eq_true rfl)) dX12_signed_99 ⟨Nat.le_of_ble_eq_true rfl, Nat.le_of_ble_eq_true rfl⟩) hD hS hA (fun z127 τ126 H locs hq hP hD hS => ?_)
                obtain ⟨rfl, f128⟩ := hq
                refine W.widen (k := 0) (n := 0) (Nat.le_of_ble_eq_true rfl) (Nat.le_of_ble_eq_true rfl) ?_
                refine lv_if_eq (tgt := 110) hx hb dX12_signed_102 (by decide) (fun c129 => ?_) (fun c129 => ?_)
                · have tc129 := (show z127.toInt = 0 from ti_eq rfl (by decide) c129)
                  refine lv_iload_n hx hb dX12_signed_110 rfl (lv_at hl 4 rfl) ?_
                  rw [hQ]
                  exact W.iret (v := a) hx hb hr (fun t ht hW => ⟨⟨a, τ117, rfl, ⟨hI119, (eqx.tr hx120 eqx.rf (by decide)), (by omega), (by omega)⟩, wEn_of hP (hK.sub [] rfl) hD ht hW⟩, hS.F ht⟩) hS.2.2 dX12_signed_111
                · have tc129 := (show z127.toInt ≠ 0 from ti_ne rfl (by decide) c129)
                  refine lv_iload hx hb dX12_signed_105 (lv_at hl 0 rfl) ?_
                  refine lv_goto (tgt := 111) hx hb dX12_signed_107 (by decide) ?_
                  rw [hQ]
                  exact W.iret (v := z94) hx hb hr (fun t ht hW => ⟨⟨z94, τ117, rfl, ⟨hI119, (eqx.tr hx120 eqx.rf (by decide)), (by omega), (by omega)⟩, wEn_of hP (hK.sub [] rfl) hD ht hW⟩, hS.F ht⟩) hS.2.2 dX12_signed_111
              · have tc125 := (show z123.toInt ≠ 0 from ti_ne rfl (by decide) c125)
                refine lv_aload_n hx hb dX12_signed_94 rfl (lv_at hl 3 rfl) ?_
                refine zy_v (va_runV (As := []) (rest := []) ⟨hx, hb, hml, hown, hts⟩ (n_next l dC dI h ad cl H.size τ117  hI119) (cwV 0 hts gd_n_signed_228_n_next rfl rfl rfl (by decide +kernel) ⟨Nat.le_of_ble_eq_true rfl, Nat.le_of_ble_eq_true rfl⟩) (preV hP hK hD hE (ci := 12) (q0 := 0) rfl rfl) rfl rfl hl.1 rfl (lv_room (Nat.le_of_ble_eq_true rfl)) dX12_signed_95 ⟨Nat.le_of_ble_eq_true rfl, Nat.le_of_ble_eq_true rfl⟩) hD hS hA (fun τ130 H locs hq hP hD hS => ?_)
                obtain ⟨hI132, hx133⟩ := hq
                refine W.widen (k := 0) (n := 0) (Nat.le_of_ble_eq_true rfl) (Nat.le_of_ble_eq_true rfl) ?_
                refine lv_aload_n hx hb dX12_signed_98 rfl (lv_at hl 3 rfl) ?_
                refine zy_i (va_runV (As := []) (rest := []) ⟨hx, hb, hml, hown, hts⟩ (n_isGood l dC dI h ad cl H.size τ130  hI132) (cwV 0 hts gd_n_signed_224_n_isGood rfl rfl rfl (by decide +kernel) ⟨Nat.le_of_ble_eq_true rfl, Nat.le_of_ble_eq_true rfl⟩) (preV hP hK hD hE (ci := 12) (q0 := 0) rfl rfl) rfl rfl hl.1 rfl (lv_room (Nat.le_of_ble_eq_true rfl)) dX12_signed_99 ⟨Nat.le_of_ble_eq_true rfl, Nat.le_of_ble_eq_true rfl⟩) hD hS hA (fun z135 τ134 H locs hq hP hD hS => ?_)
                obtain ⟨rfl, f136⟩ := hq
                refine W.widen (k := 0) (n := 0) (Nat.le_of_ble_eq_true rfl) (Nat.le_of_ble_eq_true rfl) ?_
                refine lv_if_eq (tgt := 110) hx hb dX12_signed_102 (by decide) (fun c137 => ?_) (fun c137 => ?_)
                · have tc137 := (show z135.toInt = 0 from ti_eq rfl (by decide) c137)
                  refine lv_iload_n hx hb dX12_signed_110 rfl (lv_at hl 4 rfl) ?_
                  rw [hQ]
                  exact W.iret (v := a) hx hb hr (fun t ht hW => ⟨⟨a, τ130, rfl, ⟨hI132, (eqx.tr hx133 (eqx.tr hx120 eqx.rf (by decide)) (by decide)), (by omega), (by omega)⟩, wEn_of hP (hK.sub [] rfl) hD ht hW⟩, hS.F ht⟩) hS.2.2 dX12_signed_111
                · have tc137 := (show z135.toInt ≠ 0 from ti_ne rfl (by decide) c137)
                  refine lv_iload hx hb dX12_signed_105 (lv_at hl 0 rfl) ?_
                  refine lv_goto (tgt := 111) hx hb dX12_signed_107 (by decide) ?_
                  rw [hQ]
                  exact W.iret (v := z94) hx hb hr (fun t ht hW => ⟨⟨z94, τ130, rfl, ⟨hI132, (eqx.tr hx133 (eqx.tr hx120 eqx.rf (by decide)) (by decide)), (by omega), (by omega)⟩, wEn_of hP (hK.sub [] rfl) hD ht hW⟩, hS.F ht⟩) hS.2.2 dX12_signed_111
            · have tc115 := (show a.toInt ≤ z94.toInt from ti_nlt rfl rfl c115)
              refine lv_iload hx hb dX12_signed_75 (lv_at hl 0 rfl) ?_
              refine lv_iload_n hx hb dX12_signed_77 rfl (lv_at hl 5 rfl) ?_
              refine lv_icmp_le (tgt := 87) hx hb dX12_signed_78 (by decide) (fun c138 => ?_) (fun c138 => ?_)
              · have tc138 := (show z94.toInt ≤ b.toInt from ti_le rfl rfl c138)
                refine lv_aload_n hx hb dX12_signed_87 rfl (lv_at hl 3 rfl) ?_
                refine zy_i (va_runV (As := []) (rest := []) ⟨hx, hb, hml, hown, hts⟩ (n_isGood l dC dI h ad cl H.size σ  hI) (cwV 0 hts gd_n_signed_224_n_isGood rfl rfl rfl (by decide +kernel) ⟨Nat.le_of_ble_eq_true rfl, Nat.le_of_ble_eq_true rfl⟩) (preV hP hK hD hE (ci := 12) (q0 := 0) rfl rfl) rfl rfl hl.1 rfl (lv_room (Nat.le_of_ble_eq_true rfl)) dX12_signed_88 ⟨Nat.le_of_ble_eq_true rfl, Nat.le_of_ble_eq_true rfl⟩) hD hS hA (fun z140 τ139 H locs hq hP hD hS => ?_)
                obtain ⟨rfl, f141⟩ := hq
                refine W.widen (k := 0) (n := 0) (Nat.le_of_ble_eq_true rfl) (Nat.le_of_ble_eq_true rfl) ?_
                refine lv_if_eq (tgt := 98) hx hb dX12_signed_91 (by decide) (fun c142 => ?_) (fun c142 => ?_)
                · have tc142 := (show z140.toInt = 0 from ti_eq rfl (by decide) c142)
                  refine lv_aload_n hx hb dX12_signed_98 rfl (lv_at hl 3 rfl) ?_
                  refine zy_i (va_runV (As := []) (rest := []) ⟨hx, hb, hml, hown, hts⟩ (n_isGood l dC dI h ad cl H.size σ  hI) (cwV 0 hts gd_n_signed_224_n_isGood rfl rfl rfl (by decide +kernel) ⟨Nat.le_of_ble_eq_true rfl, Nat.le_of_ble_eq_true rfl⟩) (preV hP hK hD hE (ci := 12) (q0 := 0) rfl rfl) rfl rfl hl.1 rfl (lv_room (Nat.le_of_ble_eq_true rfl)) dX12_signed_99 ⟨Nat.le_of_ble_eq_true rfl, Nat.le_of_ble_eq_true rfl⟩) hD hS hA (fun z144 τ143 H locs hq hP hD hS => ?_)
                  obtain ⟨rfl, f145⟩ := hq
                  refine W.widen (k := 0) (n := 0) (Nat.le_of_ble_eq_true rfl) (Nat.le_of_ble_eq_true rfl) ?_
                  refine lv_if_eq (tgt := 110) hx hb dX12_signed_102 (by decide) (fun c146 => ?_) (fun c146 => ?_)
                  · have tc146 := (show z144.toInt = 0 from ti_eq rfl (by decide) c146)
                    refine lv_iload_n hx hb dX12_signed_110 rfl (lv_at hl 4 rfl) ?_
                    rw [hQ]
                    exact W.iret (v := a) hx hb hr (fun t ht hW => ⟨⟨a, σ, rfl, ⟨hI, eqx.rf, (by omega), (by omega)⟩, wEn_of hP (hK.sub [] rfl) hD ht hW⟩, hS.F ht⟩) hS.2.2 dX12_signed_111
                  · have tc146 := (show z144.toInt ≠ 0 from ti_ne rfl (by decide) c146)
                    refine lv_iload hx hb dX12_signed_105 (lv_at hl 0 rfl) ?_
                    refine lv_goto (tgt := 111) hx hb dX12_signed_107 (by decide) ?_
                    rw [hQ]
                    exact W.iret (v := z94) hx hb hr (fun t ht hW => ⟨⟨z94, σ, rfl, ⟨hI, eqx.rf, (by omega), (by omega)⟩, wEn_of hP (hK.sub [] rfl) hD ht hW⟩, hS.F ht⟩) hS.2.2 dX12_signed_111
                · have tc142 := (show z140.toInt ≠ 0 from ti_ne rfl (by decide) c142)
                  refine lv_aload_n hx hb dX12_signed_94 rfl (lv_at hl 3 rfl) ?_
                  refine zy_v (va_runV (As := []) (rest := []) ⟨hx, hb, hml, hown, hts⟩ (n_next l dC dI h ad cl H.size σ  hI) (cwV 0 hts gd_n_signed_228_n_next rfl rfl rfl (by decide +kernel) ⟨Nat.le_of_ble_eq_true rfl, Nat.le_of_ble_eq_true rfl⟩) (preV hP hK hD hE (ci := 12) (q0 := 0) rfl rfl) rfl rfl hl.1 rfl (lv_room (Nat.le_of_ble_eq_true rfl)) dX12_signed_95 ⟨Nat.le_of_ble_eq_true rfl, Nat.le_of_ble_eq_true rfl⟩) hD hS hA (fun τ147 H locs hq hP hD hS => ?_)
                  obtain ⟨hI149, hx150⟩ := hq
                  refine W.widen (k := 0) (n := 0) (Nat.le_of_ble_eq_true rfl) (Nat.le_of_ble_eq_true rfl) ?_
                  refine lv_aload_n hx hb dX12_signed_98 rfl (lv_at hl 3 rfl) ?_
                  refine zy_i (va_runV (As := []) (rest := []) ⟨hx, hb, hml, hown, hts⟩ (n_isGood l dC dI h ad cl H.size τ147  hI149) (cwV 0 hts gd_n_signed_224_n_isGood rfl rfl rfl (by decide +kernel) ⟨Nat.le_of_ble_eq_true rfl, Nat.le_of_ble_eq_true rfl⟩) (preV hP hK hD hE (ci := 12) (q0 := 0) rfl rfl) rfl rfl hl.1 rfl (lv_room (Nat.le_of_ble_eq_true rfl)) dX12_signed_99 ⟨Nat.le_of_ble_eq_true rfl, Nat.le_of_ble_eq_true rfl⟩) hD hS hA (fun z152 τ151 H locs hq hP hD hS => ?_)
                  obtain ⟨rfl, f153⟩ := hq
                  refine W.widen (k := 0) (n := 0) (Nat.le_of_ble_eq_true rfl) (Nat.le_of_ble_eq_true rfl) ?_
                  refine lv_if_eq (tgt := 110) hx hb dX12_signed_102 (by decide) (fun c154 => ?_) (fun c154 => ?_)
                  · have tc154 := (show z152.toInt = 0 from ti_eq rfl (by decide) c154)
                    refine lv_iload_n hx hb dX12_signed_110 rfl (lv_at hl 4 rfl) ?_
                    rw [hQ]
                    exact W.iret (v := a) hx hb hr (fun t ht hW => ⟨⟨a, τ147, rfl, ⟨hI149, (eqx.tr hx150 eqx.rf (by decide)), (by omega), (by omega)⟩, wEn_of hP (hK.sub [] rfl) hD ht hW⟩, hS.F ht⟩) hS.2.2 dX12_signed_111
                  · have tc154 := (show z152.toInt ≠ 0 from ti_ne rfl (by decide) c154)
                    refine lv_iload hx hb dX12_signed_105 (lv_at hl 0 rfl) ?_
                    refine lv_goto (tgt := 111) hx hb dX12_signed_107 (by decide) ?_
                    rw [hQ]
                    exact W.iret (v := z94) hx hb hr (fun t ht hW => ⟨⟨z94, τ147, rfl, ⟨hI149, (eqx.tr hx150 eqx.rf (by decide)), (by omega), (by omega)⟩, wEn_of hP (hK.sub [] rfl) hD ht hW⟩, hS.F ht⟩) hS.2.2 dX12_signed_111
              · have tc138 := (show b.toInt < z94.toInt from ti_nle rfl rfl c138)
                refine lv_aload_n hx hb dX12_signed_81 rfl (lv_at hl 3 rfl) ?_
                refine lv_iconst (v := 4) hx hb dX12_signed_82 (by decide) ?_
                refine lv_iload_n hx hb dX12_signed_83 rfl (lv_at hl 2 rfl) ?_
                have kk155 : (4 : Int32).toInt = 4 := by decide
                refine zy_v (va_runV (As := [.int 4, .int (σ.1 6)]) (rest := []) ⟨hx, hb, hml, hown, hts⟩ (n_fails l dC dI h ad cl H.size σ 4 (σ.1 6) hI (by omega)) (cwV 2 hts gd_n_signed_220_n_fails rfl rfl rfl (by decide +kernel) ⟨Nat.le_of_ble_eq_true rfl, Nat.le_of_ble_eq_true rfl⟩) (preV hP hK hD hE (ci := 12) (q0 := 0) rfl rfl) rfl rfl hl.1 rfl (lv_room (Nat.le_of_ble_eq_true rfl)) dX12_signed_84 ⟨Nat.le_of_ble_eq_true rfl, Nat.le_of_ble_eq_true rfl⟩) hD hS hA (fun τ156 H locs hq hP hD hS => ?_)
                obtain ⟨hI158, hx159, f160⟩ := hq
                refine W.widen (k := 0) (n := 0) (Nat.le_of_ble_eq_true rfl) (Nat.le_of_ble_eq_true rfl) ?_
                refine lv_aload_n hx hb dX12_signed_87 rfl (lv_at hl 3 rfl) ?_
                refine zy_i (va_runV (As := []) (rest := []) ⟨hx, hb, hml, hown, hts⟩ (n_isGood l dC dI h ad cl H.size τ156  hI158) (cwV 0 hts gd_n_signed_224_n_isGood rfl rfl rfl (by decide +kernel) ⟨Nat.le_of_ble_eq_true rfl, Nat.le_of_ble_eq_true rfl⟩) (preV hP hK hD hE (ci := 12) (q0 := 0) rfl rfl) rfl rfl hl.1 rfl (lv_room (Nat.le_of_ble_eq_true rfl)) dX12_signed_88 ⟨Nat.le_of_ble_eq_true rfl, Nat.le_of_ble_eq_true rfl⟩) hD hS hA (fun z162 τ161 H locs hq hP hD hS => ?_)
                obtain ⟨rfl, f163⟩ := hq
                refine W.widen (k := 0) (n := 0) (Nat.le_of_ble_eq_true rfl) (Nat.le_of_ble_eq_true rfl) ?_
                refine lv_if_eq (tgt := 98) hx hb dX12_signed_91 (by decide) (fun c164 => ?_) (fun c164 => ?_)
                · have tc164 := (show z162.toInt = 0 from ti_eq rfl (by decide) c164)
                  refine lv_aload_n hx hb dX12_signed_98 rfl (lv_at hl 3 rfl) ?_
                  refine zy_i (va_runV (As := []) (rest := []) ⟨hx, hb, hml, hown, hts⟩ (n_isGood l dC dI h ad cl H.size τ156  hI158) (cwV 0 hts gd_n_signed_224_n_isGood rfl rfl rfl (by decide +kernel) ⟨Nat.le_of_ble_eq_true rfl, Nat.le_of_ble_eq_true rfl⟩) (preV hP hK hD hE (ci := 12) (q0 := 0) rfl rfl) rfl rfl hl.1 rfl (lv_room (Nat.le_of_ble_eq_true rfl)) dX12_signed_99 ⟨Nat.le_of_ble_eq_true rfl, Nat.le_of_ble_eq_true rfl⟩) hD hS hA (fun z166 τ165 H locs hq hP hD hS => ?_)
                  obtain ⟨rfl, f167⟩ := hq
                  refine W.widen (k := 0) (n := 0) (Nat.le_of_ble_eq_true rfl) (Nat.le_of_ble_eq_true rfl) ?_
                  refine lv_if_eq (tgt := 110) hx hb dX12_signed_102 (by decide) (fun c168 => ?_) (fun c168 => ?_)
                  · have tc168 := (show z166.toInt = 0 from ti_eq rfl (by decide) c168)
                    refine lv_iload_n hx hb dX12_signed_110 rfl (lv_at hl 4 rfl) ?_
                    rw [hQ]
                    exact W.iret (v := a) hx hb hr (fun t ht hW => ⟨⟨a, τ156, rfl, ⟨hI158, (eqx.tr hx159 eqx.rf (by decide)), (by omega), (by omega)⟩, wEn_of hP (hK.sub [] rfl) hD ht hW⟩, hS.F ht⟩) hS.2.2 dX12_signed_111
                  · have tc168 := (show z166.toInt ≠ 0 from ti_ne rfl (by decide) c168)
                    refine lv_iload hx hb dX12_signed_105 (lv_at hl 0 rfl) ?_
                    refine lv_goto (tgt := 111) hx hb dX12_signed_107 (by decide) ?_
                    rw [hQ]
                    exact W.iret (v := z94) hx hb hr (fun t ht hW => ⟨⟨z94, τ156, rfl, ⟨hI158, (eqx.tr hx159 eqx.rf (by decide)), (by omega), (by omega)⟩, wEn_of hP (hK.sub [] rfl) hD ht hW⟩, hS.F ht⟩) hS.2.2 dX12_signed_111
                · have tc164 := (show z162.toInt ≠ 0 from ti_ne rfl (by decide) c164)
                  refine lv_aload_n hx hb dX12_signed_94 rfl (lv_at hl 3 rfl) ?_
                  refine zy_v (va_runV (As := []) (rest := []) ⟨hx, hb, hml, hown, hts⟩ (n_next l dC dI h ad cl H.size τ156  hI158) (cwV 0 hts gd_n_signed_228_n_next rfl rfl rfl (by decide +kernel) ⟨Nat.le_of_ble_eq_true rfl, Nat.le_of_ble_eq_true rfl⟩) (preV hP hK hD hE (ci := 12) (q0 := 0) rfl rfl) rfl rfl hl.1 rfl (lv_room (Nat.le_of_ble_eq_true rfl)) dX12_signed_95 ⟨Nat.le_of_ble_eq_true rfl, Nat.le_of_ble_eq_true rfl⟩) hD hS hA (fun τ169 H locs hq hP hD hS => ?_)
                  obtain ⟨hI171, hx172⟩ := hq
                  refine W.widen (k := 0) (n := 0) (Nat.le_of_ble_eq_true rfl) (Nat.le_of_ble_eq_true rfl) ?_
                  refine lv_aload_n hx hb dX12_signed_98 rfl (lv_at hl 3 rfl) ?_
                  refine zy_i (va_runV (As := []) (rest := []) ⟨hx, hb, hml, hown, hts⟩ (n_isGood l dC dI h ad cl H.size τ169  hI171) (cwV 0 hts gd_n_signed_224_n_isGood rfl rfl rfl (by decide +kernel) ⟨Nat.le_of_ble_eq_true rfl, Nat.le_of_ble_eq_true rfl⟩) (preV hP hK hD hE (ci := 12) (q0 := 0) rfl rfl) rfl rfl hl.1 rfl (lv_room (Nat.le_of_ble_eq_true rfl)) dX12_signed_99 ⟨Nat.le_of_ble_eq_true rfl, Nat.le_of_ble_eq_true rfl⟩) hD hS hA (fun z174 τ173 H locs hq hP hD hS => ?_)
                  obtain ⟨rfl, f175⟩ := hq
                  refine W.widen (k := 0) (n := 0) (Nat.le_of_ble_eq_true rfl) (Nat.le_of_ble_eq_true rfl) ?_
                  refine lv_if_eq (tgt := 110) hx hb dX12_signed_102 (by decide) (fun c176 => ?_) (fun c176 => ?_)
                  · have tc176 := (show z174.toInt = 0 from ti_eq rfl (by decide) c176)
                    refine lv_iload_n hx hb dX12_signed_110 rfl (lv_at hl 4 rfl) ?_
                    rw [hQ]
                    exact W.iret (v := a) hx hb hr (fun t ht hW => ⟨⟨a, τ169, rfl, ⟨hI171, (eqx.tr hx172 (eqx.tr hx159 eqx.rf (by decide)) (by decide)), (by omega), (by omega)⟩, wEn_of hP (hK.sub [] rfl) hD ht hW⟩, hS.F ht⟩) hS.2.2 dX12_signed_111
                  · have tc176 := (show z174.toInt ≠ 0 from ti_ne rfl (by decide) c176)
                    refine lv_iload hx hb dX12_signed_105 (lv_at hl 0 rfl) ?_
                    refine lv_goto (tgt := 111) hx hb dX12_signed_107 (by decide) ?_
                    rw [hQ]
                    exact W.iret (v := z94) hx hb hr (fun t ht hW => ⟨⟨z94, τ169, rfl, ⟨hI171, (eqx.tr hx172 (eqx.tr hx159 eqx.rf (by decide)) (by decide)), (by omega), (by omega)⟩, wEn_of hP (hK.sub [] rfl) hD ht hW⟩, hS.F ht⟩) hS.2.2 dX12_signed_111
      · have tc10 := (show (σ.1 8).toInt ≠ 4 from ti_ne rfl (by decide) c10)
        refine lv_aload_n hx hb dX12_signed_39 rfl (lv_at hl 2 rfl) ?_
        refine zy_v (va_runV (As := []) (rest := []) ⟨hx, hb, hml, hown, hts⟩ (n_wrong l dC dI h ad cl H.size σ  hI) (cwV 0 hts gd_n_signed_231_n_wrong rfl rfl rfl (by decide +kernel) ⟨Nat.le_of_ble_eq_true rfl, Nat.le_of_ble_eq_true rfl⟩) (preV hP hK hD hE (ci := 12) (q0 := 0) rfl rfl) rfl rfl hl.1 rfl (lv_room (Nat.le_of_ble_eq_true rfl)) dX12_signed_40 ⟨Nat.le_of_ble_eq_true rfl, Nat.le_of_ble_eq_true rfl⟩) hD hS hA (fun τ177 H locs hq hP hD hS => ?_)
        obtain ⟨hI179, hx180, f181⟩ := hq
        refine W.widen (k := 0) (n := 0) (Nat.le_of_ble_eq_true rfl) (Nat.le_of_ble_eq_true rfl) ?_
        refine lv_iload hx hb dX12_signed_43 (lv_at hl 0 rfl) ?_
        refine lv_if_eq (tgt := 56) hx hb dX12_signed_45 (by decide) (fun c182 => ?_) (fun c182 => ?_)
        · have tc182 := (show z7.toInt = 0 from ti_eq rfl (by decide) c182)
          refine lv_aload_n hx hb dX12_signed_56 rfl (lv_at hl 2 rfl) ?_
          refine va_get (D := (dC, dI)) (ci := 12) (v := .int (τ177.1 9)) (C := RX12) (T := TX12) (N := 59) hx hb hts hin12 hown hK hP 0 rfl rfl 9 (by decide) (ho (.fieldLink RX12 217 "NearEnoughModel" "number" "I") (List.mem_of_getElem? (i := 2) rfl)) (fun _ h9 => h9) rfl dX12_signed_57 ?_
          refine zi (v := (σ.1 9)) (hx180 9 (by decide)).1 ?_
          refine lv_istore (lv' := [(5, .int (σ.1 9)), (4, .int z7), (3, .int (σ.1 6)), (0, .ref h), (1, .int a), (2, .int b)]) hx hb dX12_signed_60 hl (by decide) rfl (fun ls hl => ?_)
          refine lv_aload_n hx hb dX12_signed_62 rfl (lv_at hl 3 rfl) ?_
          refine zy_i (va_runV (As := []) (rest := []) ⟨hx, hb, hml, hown, hts⟩ (n_isGood l dC dI h ad cl H.size τ177  hI179) (cwV 0 hts gd_n_signed_224_n_isGood rfl rfl rfl (by decide +kernel) ⟨Nat.le_of_ble_eq_true rfl, Nat.le_of_ble_eq_true rfl⟩) (preV hP hK hD hE (ci := 12) (q0 := 0) rfl rfl) rfl rfl hl.1 rfl (lv_room (Nat.le_of_ble_eq_true rfl)) dX12_signed_63 ⟨Nat.le_of_ble_eq_true rfl, Nat.le_of_ble_eq_true rfl⟩) hD hS hA (fun z184 τ183 H locs hq hP hD hS => ?_)
          obtain ⟨rfl, f185⟩ := hq
          refine W.widen (k := 0) (n := 0) (Nat.le_of_ble_eq_true rfl) (Nat.le_of_ble_eq_true rfl) ?_
          refine lv_if_eq (tgt := 87) hx hb dX12_signed_66 (by decide) (fun c186 => ?_) (fun c186 => ?_)
          · have tc186 := (show z184.toInt = 0 from ti_eq rfl (by decide) c186)
            refine lv_aload_n hx hb dX12_signed_87 rfl (lv_at hl 3 rfl) ?_
            refine zy_i (va_runV (As := []) (rest := []) ⟨hx, hb, hml, hown, hts⟩ (n_isGood l dC dI h ad cl H.size τ177  hI179) (cwV 0 hts gd_n_signed_224_n_isGood rfl rfl rfl (by decide +kernel) ⟨Nat.le_of_ble_eq_true rfl, Nat.le_of_ble_eq_true rfl⟩) (preV hP hK hD hE (ci := 12) (q0 := 0) rfl rfl) rfl rfl hl.1 rfl (lv_room (Nat.le_of_ble_eq_true rfl)) dX12_signed_88 ⟨Nat.le_of_ble_eq_true rfl, Nat.le_of_ble_eq_true rfl⟩) hD hS hA (fun z188 τ187 H locs hq hP hD hS => ?_)
            obtain ⟨rfl, f189⟩ := hq
            refine W.widen (k := 0) (n := 0) (Nat.le_of_ble_eq_true rfl) (Nat.le_of_ble_eq_true rfl) ?_
            refine lv_if_eq (tgt := 98) hx hb dX12_signed_91 (by decide) (fun c190 => ?_) (fun c190 => ?_)
            · have tc190 := (show z188.toInt = 0 from ti_eq rfl (by decide) c190)
              refine lv_aload_n hx hb dX12_signed_98 rfl (lv_at hl 3 rfl) ?_
              refine zy_i (va_runV (As := []) (rest := []) ⟨hx, hb, hml, hown, hts⟩ (n_isGood l dC dI h ad cl H.size τ177  hI179) (cwV 0 hts gd_n_signed_224_n_isGood rfl rfl rfl (by decide +kernel) ⟨Nat.le_of_ble_eq_true rfl, Nat.le_of_ble_eq_true rfl⟩) (preV hP hK hD hE (ci := 12) (q0 := 0) rfl rfl) rfl rfl hl.1 rfl (lv_room (Nat.le_of_ble_eq_true rfl)) dX12_signed_99 ⟨Nat.le_of_ble_eq_true rfl, Nat.le_of_ble_eq_true rfl⟩) hD hS hA (fun z192 τ191 H locs hq hP hD hS => ?_)
              obtain ⟨rfl, f193⟩ := hq
              refine W.widen (k := 0) (n := 0) (Nat.le_of_ble_eq_true rfl) (Nat.le_of_ble_eq_true rfl) ?_
              refine lv_if_eq (tgt := 110) hx hb dX12_signed_102 (by decide) (fun c194 => ?_) (fun c194 => ?_)
              · have tc194 := (show z192.toInt = 0 from ti_eq rfl (by decide) c194)
                refine lv_iload_n hx hb dX12_signed_110 rfl (lv_at hl 4 rfl) ?_
                rw [hQ]
                exact W.iret (v := a) hx hb hr (fun t ht hW => ⟨⟨a, τ177, rfl, ⟨hI179, (eqx.tr hx180 eqx.rf (by decide)), (by omega), (by omega)⟩, wEn_of hP (hK.sub [] rfl) hD ht hW⟩, hS.F ht⟩) hS.2.2 dX12_signed_111
              · have tc194 := (show z192.toInt ≠ 0 from ti_ne rfl (by decide) c194)
                refine lv_iload hx hb dX12_signed_105 (lv_at hl 0 rfl) ?_
                refine lv_goto (tgt := 111) hx hb dX12_signed_107 (by decide) ?_
                rw [hQ]
                exact W.iret (v := (σ.1 9)) hx hb hr (fun t ht hW => ⟨⟨(σ.1 9), τ177, rfl, ⟨hI179, (eqx.tr hx180 eqx.rf (by decide)), (by omega), (by omega)⟩, wEn_of hP (hK.sub [] rfl) hD ht hW⟩, hS.F ht⟩) hS.2.2 dX12_signed_111
            · have tc190 := (show z188.toInt ≠ 0 from ti_ne rfl (by decide) c190)
              refine lv_aload_n hx hb dX12_signed_94 rfl (lv_at hl 3 rfl) ?_
              refine zy_v (va_runV (As := []) (rest := []) ⟨hx, hb, hml, hown, hts⟩ (n_next l dC dI h ad cl H.size τ177  hI179) (cwV 0 hts gd_n_signed_228_n_next rfl rfl rfl (by decide +kernel) ⟨Nat.le_of_ble_eq_true rfl, Nat.le_of_ble_eq_true rfl⟩) (preV hP hK hD hE (ci := 12) (q0 := 0) rfl rfl) rfl rfl hl.1 rfl (lv_room (Nat.le_of_ble_eq_true rfl)) dX12_signed_95 ⟨Nat.le_of_ble_eq_true rfl, Nat.le_of_ble_eq_true rfl⟩) hD hS hA (fun τ195 H locs hq hP hD hS => ?_)
              obtain ⟨hI197, hx198⟩ := hq
              refine W.widen (k := 0) (n := 0) (Nat.le_of_ble_eq_true rfl) (Nat.le_of_ble_eq_true rfl) ?_
              refine lv_aload_n hx hb dX12_signed_98 rfl (lv_at hl 3 rfl) ?_
              refine zy_i (va_runV (As := []) (rest := []) ⟨hx, hb, hml, hown, hts⟩ (n_isGood l dC dI h ad cl H.size τ195  hI197) (cwV 0 hts gd_n_signed_224_n_isGood rfl rfl rfl (by decide +kernel) ⟨Nat.le_of_ble_eq_true rfl, Nat.le_of_ble_eq_true rfl⟩) (preV hP hK hD hE (ci := 12) (q0 := 0) rfl rfl) rfl rfl hl.1 rfl (lv_room (Nat.le_of_ble_eq_true rfl)) dX12_signed_99 ⟨Nat.le_of_ble_eq_true rfl, Nat.le_of_ble_eq_true rfl⟩) hD hS hA (fun z200 τ199 H locs hq hP hD hS => ?_)
              obtain ⟨rfl, f201⟩ := hq
              refine W.widen (k := 0) (n := 0) (Nat.le_of_ble_eq_true rfl) (Nat.le_of_ble_eq_true rfl) ?_
              refine lv_if_eq (tgt := 110) hx hb dX12_signed_102 (by decide) (fun c202 => ?_) (fun c202 => ?_)
              · have tc202 := (show z200.toInt = 0 from ti_eq rfl (by decide) c202)
                refine lv_iload_n hx hb dX12_signed_110 rfl (lv_at hl 4 rfl) ?_
                rw [hQ]
                exact W.iret (v := a) hx hb hr (fun t ht hW => ⟨⟨a, τ195, rfl, ⟨hI197, (eqx.tr hx198 (eqx.tr hx180 eqx.rf (by decide)) (by decide)), (by omega), (by omega)⟩, wEn_of hP (hK.sub [] rfl) hD ht hW⟩, hS.F ht⟩) hS.2.2 dX12_signed_111
              · have tc202 := (show z200.toInt ≠ 0 from ti_ne rfl (by decide) c202)
                refine lv_iload hx hb dX12_signed_105 (lv_at hl 0 rfl) ?_
                refine lv_goto (tgt := 111) hx hb dX12_signed_107 (by decide) ?_
                rw [hQ]
                exact W.iret (v := (σ.1 9)) hx hb hr (fun t ht hW => ⟨⟨(σ.1 9), τ195, rfl, ⟨hI197, (eqx.tr hx198 (eqx.tr hx180 eqx.rf (by decide)) (by decide)), (by omega), (by omega)⟩, wEn_of hP (hK.sub [] rfl) hD ht hW⟩, hS.F ht⟩) hS.2.2 dX12_signed_111
          · have tc186 := (show z184.toInt ≠ 0 from ti_ne rfl (by decide) c186)
            refine lv_iload hx hb dX12_signed_69 (lv_at hl 0 rfl) ?_
            refine lv_iload_n hx hb dX12_signed_71 rfl (lv_at hl 4 rfl) ?_
            refine lv_icmp_lt (tgt := 81) hx hb dX12_signed_72 (by decide) (fun c203 => ?_) (fun c203 => ?_)
            · have tc203 := (show (σ.1 9).toInt < a.toInt from ti_lt rfl rfl c203)
              refine lv_aload_n hx hb dX12_signed_81 rfl (lv_at hl 3 rfl) ?_
              refine lv_iconst (v := 4) hx hb dX12_signed_82 (by decide) ?_
              refine lv_iload_n hx hb dX12_signed_83 rfl (lv_at hl 2 rfl) ?_
              have kk204 : (4 : Int32).toInt = 4 := by decide
              refine zy_v (va_runV (As := [.int 4, .int (σ.1 6)]) (rest := []) ⟨hx, hb, hml, hown, hts⟩ (n_fails l dC dI h ad cl H.size τ177 4 (σ.1 6) hI179 (by omega)) (cwV 2 hts gd_n_signed_220_n_fails rfl rfl rfl (by decide +kernel) ⟨Nat.le_of_ble_eq_true rfl, Nat.le_of_ble_eq_true rfl⟩) (preV hP hK hD hE (ci := 12) (q0 := 0) rfl rfl) rfl rfl hl.1 rfl (lv_room (Nat.le_of_ble_eq_true rfl)) dX12_signed_84 ⟨Nat.le_of_ble_eq_true rfl, Nat.le_of_ble_eq_true rfl⟩) hD hS hA (fun τ205 H locs hq hP hD hS => ?_)
              obtain ⟨hI207, hx208, f209⟩ := hq
              refine W.widen (k := 0) (n := 0) (Nat.le_of_ble_eq_true rfl) (Nat.le_of_ble_eq_true rfl) ?_
              refine lv_aload_n hx hb dX12_signed_87 rfl (lv_at hl 3 rfl) ?_
              refine zy_i (va_runV (As := []) (rest := []) ⟨hx, hb, hml, hown, hts⟩ (n_isGood l dC dI h ad cl H.size τ205  hI207) (cwV 0 hts gd_n_signed_224_n_isGood rfl rfl rfl (by decide +kernel) ⟨Nat.le_of_ble_eq_true rfl, Nat.le_of_ble_eq_true rfl⟩) (preV hP hK hD hE (ci := 12) (q0 := 0) rfl rfl) rfl rfl hl.1 rfl (lv_room (Nat.le_of_ble_eq_true rfl)) dX12_signed_88 ⟨Nat.le_of_ble_eq_true rfl, Nat.le_of_ble_eq_true rfl⟩) hD hS hA (fun z211 τ210 H locs hq hP hD hS => ?_)
              obtain ⟨rfl, f212⟩ := hq
              refine W.widen (k := 0) (n := 0) (Nat.le_of_ble_eq_true rfl) (Nat.le_of_ble_eq_true rfl) ?_
              refine lv_if_eq (tgt := 98) hx hb dX12_signed_91 (by decide) (fun c213 => ?_) (fun c213 => ?_)
              · have tc213 := (show z211.toInt = 0 from ti_eq rfl (by decide) c213)
                refine lv_aload_n hx hb dX12_signed_98 rfl (lv_at hl 3 rfl) ?_
                refine zy_i (va_runV (As := []) (rest := []) ⟨hx, hb, hml, hown, hts⟩ (n_isGood l dC dI h ad cl H.size τ205  hI207) (cwV 0 hts gd_n_signed_224_n_isGood rfl rfl rfl (by decide +kernel) ⟨Nat.le_of_ble_eq_true rfl, Nat.le_of_ble_eq_true rfl⟩) (preV hP hK hD hE (ci := 12) (q0 := 0) rfl rfl) rfl rfl hl.1 rfl (lv_room (Nat.le_of_ble_eq_true rfl)) dX12_signed_99 ⟨Nat.le_of_ble_eq_true rfl, Nat.le_of_ble_eq_true rfl⟩) hD hS hA (fun z215 τ214 H locs hq hP hD hS => ?_)
                obtain ⟨rfl, f216⟩ := hq
                refine W.widen (k := 0) (n := 0) (Nat.le_of_ble_eq_true rfl) (Nat.le_of_ble_eq_true rfl) ?_
                refine lv_if_eq (tgt := 110) hx hb dX12_signed_102 (by decide) (fun c217 => ?_) (fun c217 => ?_)
                · have tc217 := (show z215.toInt = 0 from ti_eq rfl (by decide) c217)
                  refine lv_iload_n hx hb dX12_signed_110 rfl (lv_at hl 4 rfl) ?_
                  rw [hQ]
                  exact W.iret (v := a) hx hb hr (fun t ht hW => ⟨⟨a, τ205, rfl, ⟨hI207, (eqx.tr hx208 (eqx.tr hx180 eqx.rf (by decide)) (by decide)), (by omega), (by omega)⟩, wEn_of hP (hK.sub [] rfl) hD ht hW⟩, hS.F ht⟩) hS.2.2 dX12_signed_111
                · have tc217 := (show z215.toInt ≠ 0 from ti_ne rfl (by decide) c217)
                  refine lv_iload hx hb dX12_signed_105 (lv_at hl 0 rfl) ?_
                  refine lv_goto (tgt := 111) hx hb dX12_signed_107 (by decide) ?_
                  rw [hQ]
                  exact W.iret (v := (σ.1 9)) hx hb hr (fun t ht hW => ⟨⟨(σ.1 9), τ205, rfl, ⟨hI207, (eqx.tr hx208 (eqx.tr hx180 eqx.rf (by decide)) (by decide)), (by omega), (by omega)⟩, wEn_of hP (hK.sub [] rfl) hD ht hW⟩, hS.F ht⟩) hS.2.2 dX12_signed_111
              · have tc213 := (show z211.toInt ≠ 0 from ti_ne rfl (by decide) c213)
                refine lv_aload_n hx hb dX12_signed_94 rfl (lv_at hl 3 rfl) ?_
                refine zy_v (va_runV (As := []) (rest := []) ⟨hx, hb, hml, hown, hts⟩ (n_next l dC dI h ad cl H.size τ205  hI207) (cwV 0 hts gd_n_signed_228_n_next rfl rfl rfl (by decide +kernel) ⟨Nat.le_of_ble_eq_true rfl, Nat.le_of_ble_eq_true rfl⟩) (preV hP hK hD hE (ci := 12) (q0 := 0) rfl rfl) rfl rfl hl.1 rfl (lv_room (Nat.le_of_ble_eq_true rfl)) dX12_signed_95 ⟨Nat.le_of_ble_eq_true rfl, Nat.le_of_ble_eq_true rfl⟩) hD hS hA (fun τ218 H locs hq hP hD hS => ?_)
                obtain ⟨hI220, hx221⟩ := hq
                refine W.widen (k := 0) (n := 0) (Nat.le_of_ble_eq_true rfl) (Nat.le_of_ble_eq_true rfl) ?_
                refine lv_aload_n hx hb dX12_signed_98 rfl (lv_at hl 3 rfl) ?_
                refine zy_i (va_runV (As := []) (rest := []) ⟨hx, hb, hml, hown, hts⟩ (n_isGood l dC dI h ad cl H.size τ218  hI220) (cwV 0 hts gd_n_signed_224_n_isGood rfl rfl rfl (by decide +kernel) ⟨Nat.le_of_ble_eq_true rfl, Nat.le_of_ble_eq_true rfl⟩) (preV hP hK hD hE (ci := 12) (q0 := 0) rfl rfl) rfl rfl hl.1 rfl (lv_room (Nat.le_of_ble_eq_true rfl)) dX12_signed_99 ⟨Nat.le_of_ble_eq_true rfl, Nat.le_of_ble_eq_true rfl⟩) hD hS hA (fun z223 τ222 H locs hq hP hD hS => ?_)
                obtain ⟨rfl, f224⟩ := hq
                refine W.widen (k := 0) (n := 0) (Nat.le_of_ble_eq_true rfl) (Nat.le_of_ble_eq_true rfl) ?_
                refine lv_if_eq (tgt := 110) hx hb dX12_signed_102 (by decide) (fun c225 => ?_) (fun c225 => ?_)
                · have tc225 := (show z223.toInt = 0 from ti_eq rfl (by decide) c225)
                  refine lv_iload_n hx hb dX12_signed_110 rfl (lv_at hl 4 rfl) ?_
                  rw [hQ]
                  exact W.iret (v := a) hx hb hr (fun t ht hW => ⟨⟨a, τ218, rfl, ⟨hI220, (eqx.tr hx221 (eqx.tr hx208 (eqx.tr hx180 eqx.rf (by decide)) (by decide)) (by decide)), (by omega), (by omega)⟩, wEn_of hP (hK.sub [] rfl) hD ht hW⟩, hS.F ht⟩) hS.2.2 dX12_signed_111
                · have tc225 := (show z223.toInt ≠ 0 from ti_ne rfl (by decide) c225)
                  refine lv_iload hx hb dX12_signed_105 (lv_at hl 0 rfl) ?_
                  refine lv_goto (tgt := 111) hx hb dX12_signed_107 (by decide) ?_
                  rw [hQ]
                  exact W.iret (v := (σ.1 9)) hx hb hr (fun t ht hW => ⟨⟨(σ.1 9), τ218, rfl, ⟨hI220, (eqx.tr hx221 (eqx.tr hx208 (eqx.tr hx180 eqx.rf (by decide)) (by decide)) (by decide)), (by omega), (by omega)⟩, wEn_of hP (hK.sub [] rfl) hD ht hW⟩, hS.F ht⟩) hS.2.2 dX12_signed_111
            · have tc203 := (show a.toInt ≤ (σ.1 9).toInt from ti_nlt rfl rfl c203)
              refine lv_iload hx hb dX12_signed_75 (lv_at hl 0 rfl) ?_
              refine lv_iload_n hx hb dX12_signed_77 rfl (lv_at hl 5 rfl) ?_
              refine lv_icmp_le (tgt := 87) hx hb dX12_signed_78 (by decide) (fun c226 => ?_) (fun c226 => ?_)
              · have tc226 := (show (σ.1 9).toInt ≤ b.toInt from ti_le rfl rfl c226)
                refine lv_aload_n hx hb dX12_signed_87 rfl (lv_at hl 3 rfl) ?_
                refine zy_i (va_runV (As := []) (rest := []) ⟨hx, hb, hml, hown, hts⟩ (n_isGood l dC dI h ad cl H.size τ177  hI179) (cwV 0 hts gd_n_signed_224_n_isGood rfl rfl rfl (by decide +kernel) ⟨Nat.le_of_ble_eq_true rfl, Nat.le_of_ble_eq_true rfl⟩) (preV hP hK hD hE (ci := 12) (q0 := 0) rfl rfl) rfl rfl hl.1 rfl (lv_room (Nat.le_of_ble_eq_true rfl)) dX12_signed_88 ⟨Nat.le_of_ble_eq_true rfl, Nat.le_of_ble_eq_true rfl⟩) hD hS hA (fun z228 τ227 H locs hq hP hD hS => ?_)
                obtain ⟨rfl, f229⟩ := hq
                refine W.widen (k := 0) (n := 0) (Nat.le_of_ble_eq_true rfl) (Nat.le_of_ble_eq_true rfl) ?_
                refine lv_if_eq (tgt := 98) hx hb dX12_signed_91 (by decide) (fun c230 => ?_) (fun c230 => ?_)
                · have tc230 := (show z228.toInt = 0 from ti_eq rfl (by decide) c230)
                  refine lv_aload_n hx hb dX12_signed_98 rfl (lv_at hl 3 rfl) ?_
                  refine zy_i (va_runV (As := []) (rest := []) ⟨hx, hb, hml, hown, hts⟩ (n_isGood l dC dI h ad cl H.size τ177  hI179) (cwV 0 hts gd_n_signed_224_n_isGood rfl rfl rfl (by decide +kernel) ⟨Nat.le_of_ble_eq_true rfl, Nat.le_of_ble_eq_true rfl⟩) (preV hP hK hD hE (ci := 12) (q0 := 0) rfl rfl) rfl rfl hl.1 rfl (lv_room (Nat.le_of_ble_eq_true rfl)) dX12_signed_99 ⟨Nat.le_of_ble_eq_true rfl, Nat.le_of_ble_eq_true rfl⟩) hD hS hA (fun z232 τ231 H locs hq hP hD hS => ?_)
                  obtain ⟨rfl, f233⟩ := hq
                  refine W.widen (k := 0) (n := 0) (Nat.le_of_ble_eq_true rfl) (Nat.le_of_ble_eq_true rfl) ?_
                  refine lv_if_eq (tgt := 110) hx hb dX12_signed_102 (by decide) (fun c234 => ?_) (fun c234 => ?_)
                  · have tc234 := (show z232.toInt = 0 from ti_eq rfl (by decide) c234)
                    refine lv_iload_n hx hb dX12_signed_110 rfl (lv_at hl 4 rfl) ?_
                    rw [hQ]
                    exact W.iret (v := a) hx hb hr (fun t ht hW => ⟨⟨a, τ177, rfl, ⟨hI179, (eqx.tr hx180 eqx.rf (by decide)), (by omega), (by omega)⟩, wEn_of hP (hK.sub [] rfl) hD ht hW⟩, hS.F ht⟩) hS.2.2 dX12_signed_111
                  · have tc234 := (show z232.toInt ≠ 0 from ti_ne rfl (by decide) c234)
                    refine lv_iload hx hb dX12_signed_105 (lv_at hl 0 rfl) ?_
                    refine lv_goto (tgt := 111) hx hb dX12_signed_107 (by decide) ?_
                    rw [hQ]
                    exact W.iret (v := (σ.1 9)) hx hb hr (fun t ht hW => ⟨⟨(σ.1 9), τ177, rfl, ⟨hI179, (eqx.tr hx180 eqx.rf (by decide)), (by omega), (by omega)⟩, wEn_of hP (hK.sub [] rfl) hD ht hW⟩, hS.F ht⟩) hS.2.2 dX12_signed_111
                · have tc230 := (show z228.toInt ≠ 0 from ti_ne rfl (by decide) c230)
                  refine lv_aload_n hx hb dX12_signed_94 rfl (lv_at hl 3 rfl) ?_
                  refine zy_v (va_runV (As := []) (rest := []) ⟨hx, hb, hml, hown, hts⟩ (n_next l dC dI h ad cl H.size τ177  hI179) (cwV 0 hts gd_n_signed_228_n_next rfl rfl rfl (by decide +kernel) ⟨Nat.le_of_ble_eq_true rfl, Nat.le_of_ble_eq_true rfl⟩) (preV hP hK hD hE (ci := 12) (q0 := 0) rfl rfl) rfl rfl hl.1 rfl (lv_room (Nat.le_of_ble_eq_true rfl)) dX12_signed_95 ⟨Nat.le_of_ble_eq_true rfl, Nat.le_of_ble_eq_true rfl⟩) hD hS hA (fun τ235 H locs hq hP hD hS => ?_)
                  obtain ⟨hI237, hx238⟩ := hq
                  refine W.widen (k := 0) (n := 0) (Nat.le_of_ble_eq_true rfl) (Nat.le_of_ble_eq_true rfl) ?_
                  refine lv_aload_n hx hb dX12_signed_98 rfl (lv_at hl 3 rfl) ?_
                  refine zy_i (va_runV (As := []) (rest := []) ⟨hx, hb, hml, hown, hts⟩ (n_isGood l dC dI h ad cl H.size τ235  hI237) (cwV 0 hts gd_n_signed_224_n_isGood rfl rfl rfl (by decide +kernel) ⟨Nat.le_of_ble_eq_true rfl, Nat.le_of_ble_eq_true rfl⟩) (preV hP hK hD hE (ci := 12) (q0 := 0) rfl rfl) rfl rfl hl.1 rfl (lv_room (Nat.le_of_ble_eq_true rfl)) dX12_signed_99 ⟨Nat.le_of_ble_eq_true rfl, Nat.le_of_ble_eq_true rfl⟩) hD hS hA (fun z240 τ239 H locs hq hP hD hS => ?_)
                  obtain ⟨rfl, f241⟩ := hq
                  refine W.widen (k := 0) (n := 0) (Nat.le_of_ble_eq_true rfl) (Nat.le_of_ble_eq_true rfl) ?_
                  refine lv_if_eq (tgt := 110) hx hb dX12_signed_102 (by decide) (fun c242 => ?_) (fun c242 => ?_)
                  · have tc242 := (show z240.toInt = 0 from ti_eq rfl (by decide) c242)
                    refine lv_iload_n hx hb dX12_signed_110 rfl (lv_at hl 4 rfl) ?_
                    rw [hQ]
                    exact W.iret (v := a) hx hb hr (fun t ht hW => ⟨⟨a, τ235, rfl, ⟨hI237, (eqx.tr hx238 (eqx.tr hx180 eqx.rf (by decide)) (by decide)), (by omega), (by omega)⟩, wEn_of hP (hK.sub [] rfl) hD ht hW⟩, hS.F ht⟩) hS.2.2 dX12_signed_111
                  · have tc242 := (show z240.toInt ≠ 0 from ti_ne rfl (by decide) c242)
                    refine lv_iload hx hb dX12_signed_105 (lv_at hl 0 rfl) ?_
                    refine lv_goto (tgt := 111) hx hb dX12_signed_107 (by decide) ?_
                    rw [hQ]
                    exact W.iret (v := (σ.1 9)) hx hb hr (fun t ht hW => ⟨⟨(σ.1 9), τ235, rfl, ⟨hI237, (eqx.tr hx238 (eqx.tr hx180 eqx.rf (by decide)) (by decide)), (by omega), (by omega)⟩, wEn_of hP (hK.sub [] rfl) hD ht hW⟩, hS.F ht⟩) hS.2.2 dX12_signed_111
              · have tc226 := (show b.toInt < (σ.1 9).toInt from ti_nle rfl rfl c226)
                refine lv_aload_n hx hb dX12_signed_81 rfl (lv_at hl 3 rfl) ?_
                refine lv_iconst (v := 4) hx hb dX12_signed_82 (by decide) ?_
                refine lv_iload_n hx hb dX12_signed_83 rfl (lv_at hl 2 rfl) ?_
                have kk243 : (4 : Int32).toInt = 4 := by decide
                refine zy_v (va_runV (As := [.int 4, .int (σ.1 6)]) (rest := []) ⟨hx, hb, hml, hown, hts⟩ (n_fails l dC dI h ad cl H.size τ177 4 (σ.1 6) hI179 (by omega)) (cwV 2 hts gd_n_signed_220_n_fails rfl rfl rfl (by decide +kernel) ⟨Nat.le_of_ble_eq_true rfl, Nat.le_of_ble_eq_true rfl⟩) (preV hP hK hD hE (ci := 12) (q0 := 0) rfl rfl) rfl rfl hl.1 rfl (lv_room (Nat.le_of_ble_eq_true rfl)) dX12_signed_84 ⟨Nat.le_of_ble_eq_true rfl, Nat.le_of_ble_eq_true rfl⟩) hD hS hA (fun τ244 H locs hq hP hD hS => ?_)
                obtain ⟨hI246, hx247, f248⟩ := hq
                refine W.widen (k := 0) (n := 0) (Nat.le_of_ble_eq_true rfl) (Nat.le_of_ble_eq_true rfl) ?_
                refine lv_aload_n hx hb dX12_signed_87 rfl (lv_at hl 3 rfl) ?_
                refine zy_i (va_runV (As := []) (rest := []) ⟨hx, hb, hml, hown, hts⟩ (n_isGood l dC dI h ad cl H.size τ244  hI246) (cwV 0 hts gd_n_signed_224_n_isGood rfl rfl rfl (by decide +kernel) ⟨Nat.le_of_ble_eq_true rfl, Nat.le_of_ble_eq_true rfl⟩) (preV hP hK hD hE (ci := 12) (q0 := 0) rfl rfl) rfl rfl hl.1 rfl (lv_room (Nat.le_of_ble_eq_true rfl)) dX12_signed_88 ⟨Nat.le_of_ble_eq_true rfl, Nat.le_of_ble_eq_true rfl⟩) hD hS hA (fun z250 τ249 H locs hq hP hD hS => ?_)
                obtain ⟨rfl, f251⟩ := hq
                refine W.widen (k := 0) (n := 0) (Nat.le_of_ble_eq_true rfl) (Nat.le_of_ble_eq_true rfl) ?_
                refine lv_if_eq (tgt := 98) hx hb dX12_signed_91 (by decide) (fun c252 => ?_) (fun c252 => ?_)
                · have tc252 := (show z250.toInt = 0 from ti_eq rfl (by decide) c252)
                  refine lv_aload_n hx hb dX12_signed_98 rfl (lv_at hl 3 rfl) ?_
                  refine zy_i (va_runV (As := []) (rest := []) ⟨hx, hb, hml, hown, hts⟩ (n_isGood l dC dI h ad cl H.size τ244  hI246) (cwV 0 hts gd_n_signed_224_n_isGood rfl rfl rfl (by decide +kernel) ⟨Nat.le_of_ble_eq_true rfl, Nat.le_of_ble_eq_true rfl⟩) (preV hP hK hD hE (ci := 12) (q0 := 0) rfl rfl) rfl rfl hl.1 rfl (lv_room (Nat.le_of_ble_eq_true rfl)) dX12_signed_99 ⟨Nat.le_of_ble_eq_true rfl, Nat.le_of_ble_eq_true rfl⟩) hD hS hA (fun z254 τ253 H locs hq hP hD hS => ?_)
                  obtain ⟨rfl, f255⟩ := hq
                  refine W.widen (k := 0) (n := 0) (Nat.le_of_ble_eq_true rfl) (Nat.le_of_ble_eq_true rfl) ?_
                  refine lv_if_eq (tgt := 110) hx hb dX12_signed_102 (by decide) (fun c256 => ?_) (fun c256 => ?_)
                  · have tc256 := (show z254.toInt = 0 from ti_eq rfl (by decide) c256)
                    refine lv_iload_n hx hb dX12_signed_110 rfl (lv_at hl 4 rfl) ?_
                    rw [hQ]
                    exact W.iret (v := a) hx hb hr (fun t ht hW => ⟨⟨a, τ244, rfl, ⟨hI246, (eqx.tr hx247 (eqx.tr hx180 eqx.rf (by decide)) (by decide)), (by omega), (by omega)⟩, wEn_of hP (hK.sub [] rfl) hD ht hW⟩, hS.F ht⟩) hS.2.2 dX12_signed_111
                  · have tc256 := (show z254.toInt ≠ 0 from ti_ne rfl (by decide) c256)
                    refine lv_iload hx hb dX12_signed_105 (lv_at hl 0 rfl) ?_
                    refine lv_goto (tgt := 111) hx hb dX12_signed_107 (by decide) ?_
                    rw [hQ]
                    exact W.iret (v := (σ.1 9)) hx hb hr (fun t ht hW => ⟨⟨(σ.1 9), τ244, rfl, ⟨hI246, (eqx.tr hx247 (eqx.tr hx180 eqx.rf (by decide)) (by decide)), (by omega), (by omega)⟩, wEn_of hP (hK.sub [] rfl) hD ht hW⟩, hS.F ht⟩) hS.2.2 dX12_signed_111
                · have tc252 := (show z250.toInt ≠ 0 from ti_ne rfl (by decide) c252)
                  refine lv_aload_n hx hb dX12_signed_94 rfl (lv_at hl 3 rfl) ?_
                  refine zy_v (va_runV (As := []) (rest := []) ⟨hx, hb, hml, hown, hts⟩ (n_next l dC dI h ad cl H.size τ244  hI246) (cwV 0 hts gd_n_signed_228_n_next rfl rfl rfl (by decide +kernel) ⟨Nat.le_of_ble_eq_true rfl, Nat.le_of_ble_eq_true rfl⟩) (preV hP hK hD hE (ci := 12) (q0 := 0) rfl rfl) rfl rfl hl.1 rfl (lv_room (Nat.le_of_ble_eq_true rfl)) dX12_signed_95 ⟨Nat.le_of_ble_eq_true rfl, Nat.le_of_ble_eq_true rfl⟩) hD hS hA (fun τ257 H locs hq hP hD hS => ?_)
                  obtain ⟨hI259, hx260⟩ := hq
                  refine W.widen (k := 0) (n := 0) (Nat.le_of_ble_eq_true rfl) (Nat.le_of_ble_eq_true rfl) ?_
                  refine lv_aload_n hx hb dX12_signed_98 rfl (lv_at hl 3 rfl) ?_
                  refine zy_i (va_runV (As := []) (rest := []) ⟨hx, hb, hml, hown, hts⟩ (n_isGood l dC dI h ad cl H.size τ257  hI259) (cwV 0 hts gd_n_signed_224_n_isGood rfl rfl rfl (by decide +kernel) ⟨Nat.le_of_ble_eq_true rfl, Nat.le_of_ble_eq_true rfl⟩) (preV hP hK hD hE (ci := 12) (q0 := 0) rfl rfl) rfl rfl hl.1 rfl (lv_room (Nat.le_of_ble_eq_true rfl)) dX12_signed_99 ⟨Nat.le_of_ble_eq_true rfl, Nat.le_of_ble_eq_true rfl⟩) hD hS hA (fun z262 τ261 H locs hq hP hD hS => ?_)
                  obtain ⟨rfl, f263⟩ := hq
                  refine W.widen (k := 0) (n := 0) (Nat.le_of_ble_eq_true rfl) (Nat.le_of_ble_eq_true rfl) ?_
                  refine lv_if_eq (tgt := 110) hx hb dX12_signed_102 (by decide) (fun c264 => ?_) (fun c264 => ?_)
                  · have tc264 := (show z262.toInt = 0 from ti_eq rfl (by decide) c264)
                    refine lv_iload_n hx hb dX12_signed_110 rfl (lv_at hl 4 rfl) ?_
                    rw [hQ]
                    exact W.iret (v := a) hx hb hr (fun t ht hW => ⟨⟨a, τ257, rfl, ⟨hI259, (eqx.tr hx260 (eqx.tr hx247 (eqx.tr hx180 eqx.rf (by decide)) (by decide)) (by decide)), (by omega), (by omega)⟩, wEn_of hP (hK.sub [] rfl) hD ht hW⟩, hS.F ht⟩) hS.2.2 dX12_signed_111
                  · have tc264 := (show z262.toInt ≠ 0 from ti_ne rfl (by decide) c264)
                    refine lv_iload hx hb dX12_signed_105 (lv_at hl 0 rfl) ?_
                    refine lv_goto (tgt := 111) hx hb dX12_signed_107 (by decide) ?_
                    rw [hQ]
                    exact W.iret (v := (σ.1 9)) hx hb hr (fun t ht hW => ⟨⟨(σ.1 9), τ257, rfl, ⟨hI259, (eqx.tr hx260 (eqx.tr hx247 (eqx.tr hx180 eqx.rf (by decide)) (by decide)) (by decide)), (by omega), (by omega)⟩, wEn_of hP (hK.sub [] rfl) hD ht hW⟩, hS.F ht⟩) hS.2.2 dX12_signed_111
        · have tc182 := (show z7.toInt ≠ 0 from ti_ne rfl (by decide) c182)
          refine lv_aload_n hx hb dX12_signed_48 rfl (lv_at hl 2 rfl) ?_
          refine va_get (D := (dC, dI)) (ci := 12) (v := .int (τ177.1 9)) (C := RX12) (T := TX12) (N := 59) hx hb hts hin12 hown hK hP 0 rfl rfl 9 (by decide) (ho (.fieldLink RX12 217 "NearEnoughModel" "number" "I") (List.mem_of_getElem? (i := 2) rfl)) (fun _ h9 => h9) rfl dX12_signed_49 ?_
          refine zi (v := (σ.1 9)) (hx180 9 (by decide)).1 ?_
          refine lv_ineg hx hb dX12_signed_52 ?_
          refine lv_topi (fun z265 ez265 => ?_)
          refine lv_goto (tgt := 60) hx hb dX12_signed_53 (by decide) ?_
          refine lv_istore (lv' := [(5, .int z265), (4, .int z7), (3, .int (σ.1 6)), (0, .ref h), (1, .int a), (2, .int b)]) hx hb dX12_signed_60 hl (by decide) rfl (fun ls hl => ?_)
          refine lv_aload_n hx hb dX12_signed_62 rfl (lv_at hl 3 rfl) ?_
          refine zy_i (va_runV (As := []) (rest := []) ⟨hx, hb, hml, hown, hts⟩ (n_isGood l dC dI h ad cl H.size τ177  hI179) (cwV 0 hts gd_n_signed_224_n_isGood rfl rfl rfl (by decide +kernel) ⟨Nat.le_of_ble_eq_true rfl, Nat.le_of_ble_eq_true rfl⟩) (preV hP hK hD hE (ci := 12) (q0 := 0) rfl rfl) rfl rfl hl.1 rfl (lv_room (Nat.le_of_ble_eq_true rfl)) dX12_signed_63 ⟨Nat.le_of_ble_eq_true rfl, Nat.le_of_ble_eq_true rfl⟩) hD hS hA (fun z267 τ266 H locs hq hP hD hS => ?_)
          obtain ⟨rfl, f268⟩ := hq
          refine W.widen (k := 0) (n := 0) (Nat.le_of_ble_eq_true rfl) (Nat.le_of_ble_eq_true rfl) ?_
          refine lv_if_eq (tgt := 87) hx hb dX12_signed_66 (by decide) (fun c269 => ?_) (fun c269 => ?_)
          · have tc269 := (show z267.toInt = 0 from ti_eq rfl (by decide) c269)
            refine lv_aload_n hx hb dX12_signed_87 rfl (lv_at hl 3 rfl) ?_
            refine zy_i (va_runV (As := []) (rest := []) ⟨hx, hb, hml, hown, hts⟩ (n_isGood l dC dI h ad cl H.size τ177  hI179) (cwV 0 hts gd_n_signed_224_n_isGood rfl rfl rfl (by decide +kernel) ⟨Nat.le_of_ble_eq_true rfl, Nat.le_of_ble_eq_true rfl⟩) (preV hP hK hD hE (ci := 12) (q0 := 0) rfl rfl) rfl rfl hl.1 rfl (lv_room (Nat.le_of_ble_eq_true rfl)) dX12_signed_88 ⟨Nat.le_of_ble_eq_true rfl, Nat.le_of_ble_eq_true rfl⟩) hD hS hA (fun z271 τ270 H locs hq hP hD hS => ?_)
            obtain ⟨rfl, f272⟩ := hq
            refine W.widen (k := 0) (n := 0) (Nat.le_of_ble_eq_true rfl) (Nat.le_of_ble_eq_true rfl) ?_
            refine lv_if_eq (tgt := 98) hx hb dX12_signed_91 (by decide) (fun c273 => ?_) (fun c273 => ?_)
            · have tc273 := (show z271.toInt = 0 from ti_eq rfl (by decide) c273)
              refine lv_aload_n hx hb dX12_signed_98 rfl (lv_at hl 3 rfl) ?_
              refine zy_i (va_runV (As := []) (rest := []) ⟨hx, hb, hml, hown, hts⟩ (n_isGood l dC dI h ad cl H.size τ177  hI179) (cwV 0 hts gd_n_signed_224_n_isGood rfl rfl rfl (by decide +kernel) ⟨Nat.le_of_ble_eq_true rfl, Nat.le_of_ble_eq_true rfl⟩) (preV hP hK hD hE (ci := 12) (q0 := 0) rfl rfl) rfl rfl hl.1 rfl (lv_room (Nat.le_of_ble_eq_true rfl)) dX12_signed_99 ⟨Nat.le_of_ble_eq_true rfl, Nat.le_of_ble_eq_true rfl⟩) hD hS hA (fun z275 τ274 H locs hq hP hD hS => ?_)
              obtain ⟨rfl, f276⟩ := hq
              refine W.widen (k := 0) (n := 0) (Nat.le_of_ble_eq_true rfl) (Nat.le_of_ble_eq_true rfl) ?_
              refine lv_if_eq (tgt := 110) hx hb dX12_signed_102 (by decide) (fun c277 => ?_) (fun c277 => ?_)
              · have tc277 := (show z275.toInt = 0 from ti_eq rfl (by decide) c277)
                refine lv_iload_n hx hb dX12_signed_110 rfl (lv_at hl 4 rfl) ?_
                rw [hQ]
                exact W.iret (v := a) hx hb hr (fun t ht hW => ⟨⟨a, τ177, rfl, ⟨hI179, (eqx.tr hx180 eqx.rf (by decide)), (by omega), (by omega)⟩, wEn_of hP (hK.sub [] rfl) hD ht hW⟩, hS.F ht⟩) hS.2.2 dX12_signed_111
              · have tc277 := (show z275.toInt ≠ 0 from ti_ne rfl (by decide) c277)
                refine lv_iload hx hb dX12_signed_105 (lv_at hl 0 rfl) ?_
                refine lv_goto (tgt := 111) hx hb dX12_signed_107 (by decide) ?_
                rw [hQ]
                exact W.iret (v := z265) hx hb hr (fun t ht hW => ⟨⟨z265, τ177, rfl, ⟨hI179, (eqx.tr hx180 eqx.rf (by decide)), (by omega), (by omega)⟩, wEn_of hP (hK.sub [] rfl) hD ht hW⟩, hS.F ht⟩) hS.2.2 dX12_signed_111
            · have tc273 := (show z271.toInt ≠ 0 from ti_ne rfl (by decide) c273)
              refine lv_aload_n hx hb dX12_signed_94 rfl (lv_at hl 3 rfl) ?_
              refine zy_v (va_runV (As := []) (rest := []) ⟨hx, hb, hml, hown, hts⟩ (n_next l dC dI h ad cl H.size τ177  hI179) (cwV 0 hts gd_n_signed_228_n_next rfl rfl rfl (by decide +kernel) ⟨Nat.le_of_ble_eq_true rfl, Nat.le_of_ble_eq_true rfl⟩) (preV hP hK hD hE (ci := 12) (q0 := 0) rfl rfl) rfl rfl hl.1 rfl (lv_room (Nat.le_of_ble_eq_true rfl)) dX12_signed_95 ⟨Nat.le_of_ble_eq_true rfl, Nat.le_of_ble_eq_true rfl⟩) hD hS hA (fun τ278 H locs hq hP hD hS => ?_)
              obtain ⟨hI280, hx281⟩ := hq
              refine W.widen (k := 0) (n := 0) (Nat.le_of_ble_eq_true rfl) (Nat.le_of_ble_eq_true rfl) ?_
              refine lv_aload_n hx hb dX12_signed_98 rfl (lv_at hl 3 rfl) ?_
              refine zy_i (va_runV (As := []) (rest := []) ⟨hx, hb, hml, hown, hts⟩ (n_isGood l dC dI h ad cl H.size τ278  hI280) (cwV 0 hts gd_n_signed_224_n_isGood rfl rfl rfl (by decide +kernel) ⟨Nat.le_of_ble_eq_true rfl, Nat.le_of_ble_eq_true rfl⟩) (preV hP hK hD hE (ci := 12) (q0 := 0) rfl rfl) rfl rfl hl.1 rfl (lv_room (Nat.le_of_ble_eq_true rfl)) dX12_signed_99 ⟨Nat.le_of_ble_eq_true rfl, Nat.le_of_ble_eq_true rfl⟩) hD hS hA (fun z283 τ282 H locs hq hP hD hS => ?_)
              obtain ⟨rfl, f284⟩ := hq
              refine W.widen (k := 0) (n := 0) (Nat.le_of_ble_eq_true rfl) (Nat.le_of_ble_eq_true rfl) ?_
              refine lv_if_eq (tgt := 110) hx hb dX12_signed_102 (by decide) (fun c285 => ?_) (fun c285 => ?_)
              · have tc285 := (show z283.toInt = 0 from ti_eq rfl (by decide) c285)
                refine lv_iload_n hx hb dX12_signed_110 rfl (lv_at hl 4 rfl) ?_
                rw [hQ]
                exact W.iret (v := a) hx hb hr (fun t ht hW => ⟨⟨a, τ278, rfl, ⟨hI280, (eqx.tr hx281 (eqx.tr hx180 eqx.rf (by decide)) (by decide)), (by omega), (by omega)⟩, wEn_of hP (hK.sub [] rfl) hD ht hW⟩, hS.F ht⟩) hS.2.2 dX12_signed_111
              · have tc285 := (show z283.toInt ≠ 0 from ti_ne rfl (by decide) c285)
                refine lv_iload hx hb dX12_signed_105 (lv_at hl 0 rfl) ?_
                refine lv_goto (tgt := 111) hx hb dX12_signed_107 (by decide) ?_
                rw [hQ]
                exact W.iret (v := z265) hx hb hr (fun t ht hW => ⟨⟨z265, τ278, rfl, ⟨hI280, (eqx.tr hx281 (eqx.tr hx180 eqx.rf (by decide)) (by decide)), (by omega), (by omega)⟩, wEn_of hP (hK.sub [] rfl) hD ht hW⟩, hS.F ht⟩) hS.2.2 dX12_signed_111
          · have tc269 := (show z267.toInt ≠ 0 from ti_ne rfl (by decide) c269)
            refine lv_iload hx hb dX12_signed_69 (lv_at hl 0 rfl) ?_
            refine lv_iload_n hx hb dX12_signed_71 rfl (lv_at hl 4 rfl) ?_
            refine lv_icmp_lt (tgt := 81) hx hb dX12_signed_72 (by decide) (fun c286 => ?_) (fun c286 => ?_)
            · have tc286 := (show z265.toInt < a.toInt from ti_lt rfl rfl c286)
              refine lv_aload_n hx hb dX12_signed_81 rfl (lv_at hl 3 rfl) ?_
              refine lv_iconst (v := 4) hx hb dX12_signed_82 (by decide) ?_
              refine lv_iload_n hx hb dX12_signed_83 rfl (lv_at hl 2 rfl) ?_
              have kk287 : (4 : Int32).toInt = 4 := by decide
              refine zy_v (va_runV (As := [.int 4, .int (σ.1 6)]) (rest := []) ⟨hx, hb, hml, hown, hts⟩ (n_fails l dC dI h ad cl H.size τ177 4 (σ.1 6) hI179 (by omega)) (cwV 2 hts gd_n_signed_220_n_fails rfl rfl rfl (by decide +kernel) ⟨Nat.le_of_ble_eq_true rfl, Nat.le_of_ble_eq_true rfl⟩) (preV hP hK hD hE (ci := 12) (q0 := 0) rfl rfl) rfl rfl hl.1 rfl (lv_room (Nat.le_of_ble_eq_true rfl)) dX12_signed_84 ⟨Nat.le_of_ble_eq_true rfl, Nat.le_of_ble_eq_true rfl⟩) hD hS hA (fun τ288 H locs hq hP hD hS => ?_)
              obtain ⟨hI290, hx291, f292⟩ := hq
              refine W.widen (k := 0) (n := 0) (Nat.le_of_ble_eq_true rfl) (Nat.le_of_ble_eq_true rfl) ?_
              refine lv_aload_n hx hb dX12_signed_87 rfl (lv_at hl 3 rfl) ?_
              refine zy_i (va_runV (As := []) (rest := []) ⟨hx, hb, hml, hown, hts⟩ (n_isGood l dC dI h ad cl H.size τ288  hI290) (cwV 0 hts gd_n_signed_224_n_isGood rfl rfl rfl (by decide +kernel) ⟨Nat.le_of_ble_eq_true rfl, Nat.le_of_ble_eq_true rfl⟩) (preV hP hK hD hE (ci := 12) (q0 := 0) rfl rfl) rfl rfl hl.1 rfl (lv_room (Nat.le_of_ble_eq_true rfl)) dX12_signed_88 ⟨Nat.le_of_ble_eq_true rfl, Nat.le_of_ble_eq_true rfl⟩) hD hS hA (fun z294 τ293 H locs hq hP hD hS => ?_)
              obtain ⟨rfl, f295⟩ := hq
              refine W.widen (k := 0) (n := 0) (Nat.le_of_ble_eq_true rfl) (Nat.le_of_ble_eq_true rfl) ?_
              refine lv_if_eq (tgt := 98) hx hb dX12_signed_91 (by decide) (fun c296 => ?_) (fun c296 => ?_)
              · have tc296 := (show z294.toInt = 0 from ti_eq rfl (by decide) c296)
                refine lv_aload_n hx hb dX12_signed_98 rfl (lv_at hl 3 rfl) ?_
                refine zy_i (va_runV (As := []) (rest := []) ⟨hx, hb, hml, hown, hts⟩ (n_isGood l dC dI h ad cl H.size τ288  hI290) (cwV 0 hts gd_n_signed_224_n_isGood rfl rfl rfl (by decide +kernel) ⟨Nat.le_of_ble_eq_true rfl, Nat.le_of_ble_eq_true rfl⟩) (preV hP hK hD hE (ci := 12) (q0 := 0) rfl rfl) rfl rfl hl.1 rfl (lv_room (Nat.le_of_ble_eq_true rfl)) dX12_signed_99 ⟨Nat.le_of_ble_eq_true rfl, Nat.le_of_ble_eq_true rfl⟩) hD hS hA (fun z298 τ297 H locs hq hP hD hS => ?_)
                obtain ⟨rfl, f299⟩ := hq
                refine W.widen (k := 0) (n := 0) (Nat.le_of_ble_eq_true rfl) (Nat.le_of_ble_eq_true rfl) ?_
                refine lv_if_eq (tgt := 110) hx hb dX12_signed_102 (by decide) (fun c300 => ?_) (fun c300 => ?_)
                · have tc300 := (show z298.toInt = 0 from ti_eq rfl (by decide) c300)
                  refine lv_iload_n hx hb dX12_signed_110 rfl (lv_at hl 4 rfl) ?_
                  rw [hQ]
                  exact W.iret (v := a) hx hb hr (fun t ht hW => ⟨⟨a, τ288, rfl, ⟨hI290, (eqx.tr hx291 (eqx.tr hx180 eqx.rf (by decide)) (by decide)), (by omega), (by omega)⟩, wEn_of hP (hK.sub [] rfl) hD ht hW⟩, hS.F ht⟩) hS.2.2 dX12_signed_111
                · have tc300 := (show z298.toInt ≠ 0 from ti_ne rfl (by decide) c300)
                  refine lv_iload hx hb dX12_signed_105 (lv_at hl 0 rfl) ?_
                  refine lv_goto (tgt := 111) hx hb dX12_signed_107 (by decide) ?_
                  rw [hQ]
                  exact W.iret (v := z265) hx hb hr (fun t ht hW => ⟨⟨z265, τ288, rfl, ⟨hI290, (eqx.tr hx291 (eqx.tr hx180 eqx.rf (by decide)) (by decide)), (by omega), (by omega)⟩, wEn_of hP (hK.sub [] rfl) hD ht hW⟩, hS.F ht⟩) hS.2.2 dX12_signed_111
              · have tc296 := (show z294.toInt ≠ 0 from ti_ne rfl (by decide) c296)
                refine lv_aload_n hx hb dX12_signed_94 rfl (lv_at hl 3 rfl) ?_
                refine zy_v (va_runV (As := []) (rest := []) ⟨hx, hb, hml, hown, hts⟩ (n_next l dC dI h ad cl H.size τ288  hI290) (cwV 0 hts gd_n_signed_228_n_next rfl rfl rfl (by decide +kernel) ⟨Nat.le_of_ble_eq_true rfl, Nat.le_of_ble_eq_true rfl⟩) (preV hP hK hD hE (ci := 12) (q0 := 0) rfl rfl) rfl rfl hl.1 rfl (lv_room (Nat.le_of_ble_eq_true rfl)) dX12_signed_95 ⟨Nat.le_of_ble_eq_true rfl, Nat.le_of_ble_eq_true rfl⟩) hD hS hA (fun τ301 H locs hq hP hD hS => ?_)
                obtain ⟨hI303, hx304⟩ := hq
                refine W.widen (k := 0) (n := 0) (Nat.le_of_ble_eq_true rfl) (Nat.le_of_ble_eq_true rfl) ?_
                refine lv_aload_n hx hb dX12_signed_98 rfl (lv_at hl 3 rfl) ?_
                refine zy_i (va_runV (As := []) (rest := []) ⟨hx, hb, hml, hown, hts⟩ (n_isGood l dC dI h ad cl H.size τ301  hI303) (cwV 0 hts gd_n_signed_224_n_isGood rfl rfl rfl (by decide +kernel) ⟨Nat.le_of_ble_eq_true rfl, Nat.le_of_ble_eq_true rfl⟩) (preV hP hK hD hE (ci := 12) (q0 := 0) rfl rfl) rfl rfl hl.1 rfl (lv_room (Nat.le_of_ble_eq_true rfl)) dX12_signed_99 ⟨Nat.le_of_ble_eq_true rfl, Nat.le_of_ble_eq_true rfl⟩) hD hS hA (fun z306 τ305 H locs hq hP hD hS => ?_)
                obtain ⟨rfl, f307⟩ := hq
                refine W.widen (k := 0) (n := 0) (Nat.le_of_ble_eq_true rfl) (Nat.le_of_ble_eq_true rfl) ?_
                refine lv_if_eq (tgt := 110) hx hb dX12_signed_102 (by decide) (fun c308 => ?_) (fun c308 => ?_)
                · have tc308 := (show z306.toInt = 0 from ti_eq rfl (by decide) c308)
                  refine lv_iload_n hx hb dX12_signed_110 rfl (lv_at hl 4 rfl) ?_
                  rw [hQ]
                  exact W.iret (v := a) hx hb hr (fun t ht hW => ⟨⟨a, τ301, rfl, ⟨hI303, (eqx.tr hx304 (eqx.tr hx291 (eqx.tr hx180 eqx.rf (by decide)) (by decide)) (by decide)), (by omega), (by omega)⟩, wEn_of hP (hK.sub [] rfl) hD ht hW⟩, hS.F ht⟩) hS.2.2 dX12_signed_111
                · have tc308 := (show z306.toInt ≠ 0 from ti_ne rfl (by decide) c308)
                  refine lv_iload hx hb dX12_signed_105 (lv_at hl 0 rfl) ?_
                  refine lv_goto (tgt := 111) hx hb dX12_signed_107 (by decide) ?_
                  rw [hQ]
                  exact W.iret (v := z265) hx hb hr (fun t ht hW => ⟨⟨z265, τ301, rfl, ⟨hI303, (eqx.tr hx304 (eqx.tr hx291 (eqx.tr hx180 eqx.rf (by decide)) (by decide)) (by decide)), (by omega), (by omega)⟩, wEn_of hP (hK.sub [] rfl) hD ht hW⟩, hS.F ht⟩) hS.2.2 dX12_signed_111
            · have tc286 := (show a.toInt ≤ z265.toInt from ti_nlt rfl rfl c286)
              refine lv_iload hx hb dX12_signed_75 (lv_at hl 0 rfl) ?_
              refine lv_iload_n hx hb dX12_signed_77 rfl (lv_at hl 5 rfl) ?_
              refine lv_icmp_le (tgt := 87) hx hb dX12_signed_78 (by decide) (fun c309 => ?_) (fun c309 => ?_)
              · have tc309 := (show z265.toInt ≤ b.toInt from ti_le rfl rfl c309)
                refine lv_aload_n hx hb dX12_signed_87 rfl (lv_at hl 3 rfl) ?_
                refine zy_i (va_runV (As := []) (rest := []) ⟨hx, hb, hml, hown, hts⟩ (n_isGood l dC dI h ad cl H.size τ177  hI179) (cwV 0 hts gd_n_signed_224_n_isGood rfl rfl rfl (by decide +kernel) ⟨Nat.le_of_ble_eq_true rfl, Nat.le_of_ble_eq_true rfl⟩) (preV hP hK hD hE (ci := 12) (q0 := 0) rfl rfl) rfl rfl hl.1 rfl (lv_room (Nat.le_of_ble_eq_true rfl)) dX12_signed_88 ⟨Nat.le_of_ble_eq_true rfl, Nat.le_of_ble_eq_true rfl⟩) hD hS hA (fun z311 τ310 H locs hq hP hD hS => ?_)
                obtain ⟨rfl, f312⟩ := hq
                refine W.widen (k := 0) (n := 0) (Nat.le_of_ble_eq_true rfl) (Nat.le_of_ble_eq_true rfl) ?_
                refine lv_if_eq (tgt := 98) hx hb dX12_signed_91 (by decide) (fun c313 => ?_) (fun c313 => ?_)
                · have tc313 := (show z311.toInt = 0 from ti_eq rfl (by decide) c313)
                  refine lv_aload_n hx hb dX12_signed_98 rfl (lv_at hl 3 rfl) ?_
                  refine zy_i (va_runV (As := []) (rest := []) ⟨hx, hb, hml, hown, hts⟩ (n_isGood l dC dI h ad cl H.size τ177  hI179) (cwV 0 hts gd_n_signed_224_n_isGood rfl rfl rfl (by decide +kernel) ⟨Nat.le_of_ble_eq_true rfl, Nat.le_of_ble_eq_true rfl⟩) (preV hP hK hD hE (ci := 12) (q0 := 0) rfl rfl) rfl rfl hl.1 rfl (lv_room (Nat.le_of_ble_eq_true rfl)) dX12_signed_99 ⟨Nat.le_of_ble_eq_true rfl, Nat.le_of_ble_eq_true rfl⟩) hD hS hA (fun z315 τ314 H locs hq hP hD hS => ?_)
                  obtain ⟨rfl, f316⟩ := hq
                  refine W.widen (k := 0) (n := 0) (Nat.le_of_ble_eq_true rfl) (Nat.le_of_ble_eq_true rfl) ?_
                  refine lv_if_eq (tgt := 110) hx hb dX12_signed_102 (by decide) (fun c317 => ?_) (fun c317 => ?_)
                  · have tc317 := (show z315.toInt = 0 from ti_eq rfl (by decide) c317)
                    refine lv_iload_n hx hb dX12_signed_110 rfl (lv_at hl 4 rfl) ?_
                    rw [hQ]
                    exact W.iret (v := a) hx hb hr (fun t ht hW => ⟨⟨a, τ177, rfl, ⟨hI179, (eqx.tr hx180 eqx.rf (by decide)), (by omega), (by omega)⟩, wEn_of hP (hK.sub [] rfl) hD ht hW⟩, hS.F ht⟩) hS.2.2 dX12_signed_111
                  · have tc317 := (show z315.toInt ≠ 0 from ti_ne rfl (by decide) c317)
                    refine lv_iload hx hb dX12_signed_105 (lv_at hl 0 rfl) ?_
                    refine lv_goto (tgt := 111) hx hb dX12_signed_107 (by decide) ?_
                    rw [hQ]
                    exact W.iret (v := z265) hx hb hr (fun t ht hW => ⟨⟨z265, τ177, rfl, ⟨hI179, (eqx.tr hx180 eqx.rf (by decide)), (by omega), (by omega)⟩, wEn_of hP (hK.sub [] rfl) hD ht hW⟩, hS.F ht⟩) hS.2.2 dX12_signed_111
                · have tc313 := (show z311.toInt ≠ 0 from ti_ne rfl (by decide) c313)
                  refine lv_aload_n hx hb dX12_signed_94 rfl (lv_at hl 3 rfl) ?_
                  refine zy_v (va_runV (As := []) (rest := []) ⟨hx, hb, hml, hown, hts⟩ (n_next l dC dI h ad cl H.size τ177  hI179) (cwV 0 hts gd_n_signed_228_n_next rfl rfl rfl (by decide +kernel) ⟨Nat.le_of_ble_eq_true rfl, Nat.le_of_ble_eq_true rfl⟩) (preV hP hK hD hE (ci := 12) (q0 := 0) rfl rfl) rfl rfl hl.1 rfl (lv_room (Nat.le_of_ble_eq_true rfl)) dX12_signed_95 ⟨Nat.le_of_ble_eq_true rfl, Nat.le_of_ble_eq_true rfl⟩) hD hS hA (fun τ318 H locs hq hP hD hS => ?_)
                  obtain ⟨hI320, hx321⟩ := hq
                  refine W.widen (k := 0) (n := 0) (Nat.le_of_ble_eq_true rfl) (Nat.le_of_ble_eq_true rfl) ?_
                  refine lv_aload_n hx hb dX12_signed_98 rfl (lv_at hl 3 rfl) ?_
                  refine zy_i (va_runV (As := []) (rest := []) ⟨hx, hb, hml, hown, hts⟩ (n_isGood l dC dI h ad cl H.size τ318  hI320) (cwV 0 hts gd_n_signed_224_n_isGood rfl rfl rfl (by decide +kernel) ⟨Nat.le_of_ble_eq_true rfl, Nat.le_of_ble_eq_true rfl⟩) (preV hP hK hD hE (ci := 12) (q0 := 0) rfl rfl) rfl rfl hl.1 rfl (lv_room (Nat.le_of_ble_eq_true rfl)) dX12_signed_99 ⟨Nat.le_of_ble_eq_true rfl, Nat.le_of_ble_eq_true rfl⟩) hD hS hA (fun z323 τ322 H locs hq hP hD hS => ?_)
                  obtain ⟨rfl, f324⟩ := hq
                  refine W.widen (k := 0) (n := 0) (Nat.le_of_ble_eq_true rfl) (Nat.le_of_ble_eq_true rfl) ?_
                  refine lv_if_eq (tgt := 110) hx hb dX12_signed_102 (by decide) (fun c325 => ?_) (fun c325 => ?_)
                  · have tc325 := (show z323.toInt = 0 from ti_eq rfl (by decide) c325)
                    refine lv_iload_n hx hb dX12_signed_110 rfl (lv_at hl 4 rfl) ?_
                    rw [hQ]
                    exact W.iret (v := a) hx hb hr (fun t ht hW => ⟨⟨a, τ318, rfl, ⟨hI320, (eqx.tr hx321 (eqx.tr hx180 eqx.rf (by decide)) (by decide)), (by omega), (by omega)⟩, wEn_of hP (hK.sub [] rfl) hD ht hW⟩, hS.F ht⟩) hS.2.2 dX12_signed_111
                  · have tc325 := (show z323.toInt ≠ 0 from ti_ne rfl (by decide) c325)
                    refine lv_iload hx hb dX12_signed_105 (lv_at hl 0 rfl) ?_
                    refine lv_goto (tgt := 111) hx hb dX12_signed_107 (by decide) ?_
                    rw [hQ]
                    exact W.iret (v := z265) hx hb hr (fun t ht hW => ⟨⟨z265, τ318, rfl, ⟨hI320, (eqx.tr hx321 (eqx.tr hx180 eqx.rf (by decide)) (by decide)), (by omega), (by omega)⟩, wEn_of hP (hK.sub [] rfl) hD ht hW⟩, hS.F ht⟩) hS.2.2 dX12_signed_111
              · have tc309 := (show b.toInt < z265.toInt from ti_nle rfl rfl c309)
                refine lv_aload_n hx hb dX12_signed_81 rfl (lv_at hl 3 rfl) ?_
                refine lv_iconst (v := 4) hx hb dX12_signed_82 (by decide) ?_
                refine lv_iload_n hx hb dX12_signed_83 rfl (lv_at hl 2 rfl) ?_
                have kk326 : (4 : Int32).toInt = 4 := by decide
                refine zy_v (va_runV (As := [.int 4, .int (σ.1 6)]) (rest := []) ⟨hx, hb, hml, hown, hts⟩ (n_fails l dC dI h ad cl H.size τ177 4 (σ.1 6) hI179 (by omega)) (cwV 2 hts gd_n_signed_220_n_fails rfl rfl rfl (by decide +kernel) ⟨Nat.le_of_ble_eq_true rfl, Nat.le_of_ble_eq_true rfl⟩) (preV hP hK hD hE (ci := 12) (q0 := 0) rfl rfl) rfl rfl hl.1 rfl (lv_room (Nat.le_of_ble_eq_true rfl)) dX12_signed_84 ⟨Nat.le_of_ble_eq_true rfl, Nat.le_of_ble_eq_true rfl⟩) hD hS hA (fun τ327 H locs hq hP hD hS => ?_)
                obtain ⟨hI329, hx330, f331⟩ := hq
                refine W.widen (k := 0) (n := 0) (Nat.le_of_ble_eq_true rfl) (Nat.le_of_ble_eq_true rfl) ?_
                refine lv_aload_n hx hb dX12_signed_87 rfl (lv_at hl 3 rfl) ?_
                refine zy_i (va_runV (As := []) (rest := []) ⟨hx, hb, hml, hown, hts⟩ (n_isGood l dC dI h ad cl H.size τ327  hI329) (cwV 0 hts gd_n_signed_224_n_isGood rfl rfl rfl (by decide +kernel) ⟨Nat.le_of_ble_eq_true rfl, Nat.le_of_ble_eq_true rfl⟩) (preV hP hK hD hE (ci := 12) (q0 := 0) rfl rfl) rfl rfl hl.1 rfl (lv_room (Nat.le_of_ble_eq_true rfl)) dX12_signed_88 ⟨Nat.le_of_ble_eq_true rfl, Nat.le_of_ble_eq_true rfl⟩) hD hS hA (fun z333 τ332 H locs hq hP hD hS => ?_)
                obtain ⟨rfl, f334⟩ := hq
                refine W.widen (k := 0) (n := 0) (Nat.le_of_ble_eq_true rfl) (Nat.le_of_ble_eq_true rfl) ?_
                refine lv_if_eq (tgt := 98) hx hb dX12_signed_91 (by decide) (fun c335 => ?_) (fun c335 => ?_)
                · have tc335 := (show z333.toInt = 0 from ti_eq rfl (by decide) c335)
                  refine lv_aload_n hx hb dX12_signed_98 rfl (lv_at hl 3 rfl) ?_
                  refine zy_i (va_runV (As := []) (rest := []) ⟨hx, hb, hml, hown, hts⟩ (n_isGood l dC dI h ad cl H.size τ327  hI329) (cwV 0 hts gd_n_signed_224_n_isGood rfl rfl rfl (by decide +kernel) ⟨Nat.le_of_ble_eq_true rfl, Nat.le_of_ble_eq_true rfl⟩) (preV hP hK hD hE (ci := 12) (q0 := 0) rfl rfl) rfl rfl hl.1 rfl (lv_room (Nat.le_of_ble_eq_true rfl)) dX12_signed_99 ⟨Nat.le_of_ble_eq_true rfl, Nat.le_of_ble_eq_true rfl⟩) hD hS hA (fun z337 τ336 H locs hq hP hD hS => ?_)
                  obtain ⟨rfl, f338⟩ := hq
                  refine W.widen (k := 0) (n := 0) (Nat.le_of_ble_eq_true rfl) (Nat.le_of_ble_eq_true rfl) ?_
                  refine lv_if_eq (tgt := 110) hx hb dX12_signed_102 (by decide) (fun c339 => ?_) (fun c339 => ?_)
                  · have tc339 := (show z337.toInt = 0 from ti_eq rfl (by decide) c339)
                    refine lv_iload_n hx hb dX12_signed_110 rfl (lv_at hl 4 rfl) ?_
                    rw [hQ]
                    exact W.iret (v := a) hx hb hr (fun t ht hW => ⟨⟨a, τ327, rfl, ⟨hI329, (eqx.tr hx330 (eqx.tr hx180 eqx.rf (by decide)) (by decide)), (by omega), (by omega)⟩, wEn_of hP (hK.sub [] rfl) hD ht hW⟩, hS.F ht⟩) hS.2.2 dX12_signed_111
                  · have tc339 := (show z337.toInt ≠ 0 from ti_ne rfl (by decide) c339)
                    refine lv_iload hx hb dX12_signed_105 (lv_at hl 0 rfl) ?_
                    refine lv_goto (tgt := 111) hx hb dX12_signed_107 (by decide) ?_
                    rw [hQ]
                    exact W.iret (v := z265) hx hb hr (fun t ht hW => ⟨⟨z265, τ327, rfl, ⟨hI329, (eqx.tr hx330 (eqx.tr hx180 eqx.rf (by decide)) (by decide)), (by omega), (by omega)⟩, wEn_of hP (hK.sub [] rfl) hD ht hW⟩, hS.F ht⟩) hS.2.2 dX12_signed_111
                · have tc335 := (show z333.toInt ≠ 0 from ti_ne rfl (by decide) c335)
                  refine lv_aload_n hx hb dX12_signed_94 rfl (lv_at hl 3 rfl) ?_
                  refine zy_v (va_runV (As := []) (rest := []) ⟨hx, hb, hml, hown, hts⟩ (n_next l dC dI h ad cl H.size τ327  hI329) (cwV 0 hts gd_n_signed_228_n_next rfl rfl rfl (by decide +kernel) ⟨Nat.le_of_ble_eq_true rfl, Nat.le_of_ble_eq_true rfl⟩) (preV hP hK hD hE (ci := 12) (q0 := 0) rfl rfl) rfl rfl hl.1 rfl (lv_room (Nat.le_of_ble_eq_true rfl)) dX12_signed_95 ⟨Nat.le_of_ble_eq_true rfl, Nat.le_of_ble_eq_true rfl⟩) hD hS hA (fun τ340 H locs hq hP hD hS => ?_)
                  obtain ⟨hI342, hx343⟩ := hq
                  refine W.widen (k := 0) (n := 0) (Nat.le_of_ble_eq_true rfl) (Nat.le_of_ble_eq_true rfl) ?_
                  refine lv_aload_n hx hb dX12_signed_98 rfl (lv_at hl 3 rfl) ?_
                  refine zy_i (va_runV (As := []) (rest := []) ⟨hx, hb, hml, hown, hts⟩ (n_isGood l dC dI h ad cl H.size τ340  hI342) (cwV 0 hts gd_n_signed_224_n_isGood rfl rfl rfl (by decide +kernel) ⟨Nat.le_of_ble_eq_true rfl, Nat.le_of_ble_eq_true rfl⟩) (preV hP hK hD hE (ci := 12) (q0 := 0) rfl rfl) rfl rfl hl.1 rfl (lv_room (Nat.le_of_ble_eq_true rfl)) dX12_signed_99 ⟨Nat.le_of_ble_eq_true rfl, Nat.le_of_ble_eq_true rfl⟩) hD hS hA (fun z345 τ344 H locs hq hP hD hS => ?_)
                  obtain ⟨rfl, f346⟩ := hq
                  refine W.widen (k := 0) (n := 0) (Nat.le_of_ble_eq_true rfl) (Nat.le_of_ble_eq_true rfl) ?_
                  refine lv_if_eq (tgt := 110) hx hb dX12_signed_102 (by decide) (fun c347 => ?_) (fun c347 => ?_)
                  · have tc347 := (show z345.toInt = 0 from ti_eq rfl (by decide) c347)
                    refine lv_iload_n hx hb dX12_signed_110 rfl (lv_at hl 4 rfl) ?_
                    rw [hQ]
                    exact W.iret (v := a) hx hb hr (fun t ht hW => ⟨⟨a, τ340, rfl, ⟨hI342, (eqx.tr hx343 (eqx.tr hx330 (eqx.tr hx180 eqx.rf (by decide)) (by decide)) (by decide)), (by omega), (by omega)⟩, wEn_of hP (hK.sub [] rfl) hD ht hW⟩, hS.F ht⟩) hS.2.2 dX12_signed_111
                  · have tc347 := (show z345.toInt ≠ 0 from ti_ne rfl (by decide) c347)
                    refine lv_iload hx hb dX12_signed_105 (lv_at hl 0 rfl) ?_
                    refine lv_goto (tgt := 111) hx hb dX12_signed_107 (by decide) ?_
                    rw [hQ]
                    exact W.iret (v := z265) hx hb hr (fun t ht hW => ⟨⟨z265, τ340, rfl, ⟨hI342, (eqx.tr hx343 (eqx.tr hx330 (eqx.tr hx180 eqx.rf (by decide)) (by decide)) (by decide)), (by omega), (by omega)⟩, wEn_of hP (hK.sub [] rfl) hD ht hW⟩, hS.F ht⟩) hS.2.2 dX12_signed_111
    · have tc9 := (show z7.toInt ≠ 0 from ti_ne rfl (by decide) c9)
      refine lv_aload_n hx hb dX12_signed_27 rfl (lv_at hl 2 rfl) ?_
      refine zy_v (va_runV (As := []) (rest := []) ⟨hx, hb, hml, hown, hts⟩ (n_next l dC dI h ad cl H.size σ  hI) (cwV 0 hts gd_n_signed_228_n_next rfl rfl rfl (by decide +kernel) ⟨Nat.le_of_ble_eq_true rfl, Nat.le_of_ble_eq_true rfl⟩) (preV hP hK hD hE (ci := 12) (q0 := 0) rfl rfl) rfl rfl hl.1 rfl (lv_room (Nat.le_of_ble_eq_true rfl)) dX12_signed_28 ⟨Nat.le_of_ble_eq_true rfl, Nat.le_of_ble_eq_true rfl⟩) hD hS hA (fun τ348 H locs hq hP hD hS => ?_)
      obtain ⟨hI350, hx351⟩ := hq
      refine W.widen (k := 0) (n := 0) (Nat.le_of_ble_eq_true rfl) (Nat.le_of_ble_eq_true rfl) ?_
      refine lv_aload_n hx hb dX12_signed_31 rfl (lv_at hl 2 rfl) ?_
      refine va_get (D := (dC, dI)) (ci := 12) (v := .int (τ348.1 8)) (C := RX12) (T := TX12) (N := 59) hx hb hts hin12 hown hK hP 0 rfl rfl 8 (by decide) (ho (.fieldLink RX12 199 "NearEnoughModel" "token" "I") (List.mem_of_getElem? (i := 1) rfl)) (fun _ h9 => h9) rfl dX12_signed_32 ?_
      have bτ348_8 : 0 ≤ (τ348.1 8).toInt ∧ (τ348.1 8).toInt ≤ 5 := hI350.1 8
      refine lv_iconst (v := 4) hx hb dX12_signed_35 (by decide) ?_
      refine lv_icmp_eq (tgt := 43) hx hb dX12_signed_36 (by decide) (fun c352 => ?_) (fun c352 => ?_)
      · have tc352 := (show (τ348.1 8).toInt = 4 from ti_eq rfl (by decide) c352)
        refine lv_iload hx hb dX12_signed_43 (lv_at hl 0 rfl) ?_
        refine lv_if_eq (tgt := 56) hx hb dX12_signed_45 (by decide) (fun c353 => ?_) (fun c353 => ?_)
        · have tc353 := (show z7.toInt = 0 from ti_eq rfl (by decide) c353)
          refine lv_aload_n hx hb dX12_signed_56 rfl (lv_at hl 2 rfl) ?_
          refine va_get (D := (dC, dI)) (ci := 12) (v := .int (τ348.1 9)) (C := RX12) (T := TX12) (N := 59) hx hb hts hin12 hown hK hP 0 rfl rfl 9 (by decide) (ho (.fieldLink RX12 217 "NearEnoughModel" "number" "I") (List.mem_of_getElem? (i := 2) rfl)) (fun _ h9 => h9) rfl dX12_signed_57 ?_
          refine lv_istore (lv' := [(5, .int (τ348.1 9)), (4, .int z7), (3, .int (σ.1 6)), (0, .ref h), (1, .int a), (2, .int b)]) hx hb dX12_signed_60 hl (by decide) rfl (fun ls hl => ?_)
          refine lv_aload_n hx hb dX12_signed_62 rfl (lv_at hl 3 rfl) ?_
          refine zy_i (va_runV (As := []) (rest := []) ⟨hx, hb, hml, hown, hts⟩ (n_isGood l dC dI h ad cl H.size τ348  hI350) (cwV 0 hts gd_n_signed_224_n_isGood rfl rfl rfl (by decide +kernel) ⟨Nat.le_of_ble_eq_true rfl, Nat.le_of_ble_eq_true rfl⟩) (preV hP hK hD hE (ci := 12) (q0 := 0) rfl rfl) rfl rfl hl.1 rfl (lv_room (Nat.le_of_ble_eq_true rfl)) dX12_signed_63 ⟨Nat.le_of_ble_eq_true rfl, Nat.le_of_ble_eq_true rfl⟩) hD hS hA (fun z355 τ354 H locs hq hP hD hS => ?_)
          obtain ⟨rfl, f356⟩ := hq
          refine W.widen (k := 0) (n := 0) (Nat.le_of_ble_eq_true rfl) (Nat.le_of_ble_eq_true rfl) ?_
          refine lv_if_eq (tgt := 87) hx hb dX12_signed_66 (by decide) (fun c357 => ?_) (fun c357 => ?_)
          · have tc357 := (show z355.toInt = 0 from ti_eq rfl (by decide) c357)
            refine lv_aload_n hx hb dX12_signed_87 rfl (lv_at hl 3 rfl) ?_
            refine zy_i (va_runV (As := []) (rest := []) ⟨hx, hb, hml, hown, hts⟩ (n_isGood l dC dI h ad cl H.size τ348  hI350) (cwV 0 hts gd_n_signed_224_n_isGood rfl rfl rfl (by decide +kernel) ⟨Nat.le_of_ble_eq_true rfl, Nat.le_of_ble_eq_true rfl⟩) (preV hP hK hD hE (ci := 12) (q0 := 0) rfl rfl) rfl rfl hl.1 rfl (lv_room (Nat.le_of_ble_eq_true rfl)) dX12_signed_88 ⟨Nat.le_of_ble_eq_true rfl, Nat.le_of_ble_eq_true rfl⟩) hD hS hA (fun z359 τ358 H locs hq hP hD hS => ?_)
            obtain ⟨rfl, f360⟩ := hq
            refine W.widen (k := 0) (n := 0) (Nat.le_of_ble_eq_true rfl) (Nat.le_of_ble_eq_true rfl) ?_
            refine lv_if_eq (tgt := 98) hx hb dX12_signed_91 (by decide) (fun c361 => ?_) (fun c361 => ?_)
            · have tc361 := (show z359.toInt = 0 from ti_eq rfl (by decide) c361)
              refine lv_aload_n hx hb dX12_signed_98 rfl (lv_at hl 3 rfl) ?_
              refine zy_i (va_runV (As := []) (rest := []) ⟨hx, hb, hml, hown, hts⟩ (n_isGood l dC dI h ad cl H.size τ348  hI350) (cwV 0 hts gd_n_signed_224_n_isGood rfl rfl rfl (by decide +kernel) ⟨Nat.le_of_ble_eq_true rfl, Nat.le_of_ble_eq_true rfl⟩) (preV hP hK hD hE (ci := 12) (q0 := 0) rfl rfl) rfl rfl hl.1 rfl (lv_room (Nat.le_of_ble_eq_true rfl)) dX12_signed_99 ⟨Nat.le_of_ble_eq_true rfl, Nat.le_of_ble_eq_true rfl⟩) hD hS hA (fun z363 τ362 H locs hq hP hD hS => ?_)
              obtain ⟨rfl, f364⟩ := hq
              refine W.widen (k := 0) (n := 0) (Nat.le_of_ble_eq_true rfl) (Nat.le_of_ble_eq_true rfl) ?_
              refine lv_if_eq (tgt := 110) hx hb dX12_signed_102 (by decide) (fun c365 => ?_) (fun c365 => ?_)
              · have tc365 := (show z363.toInt = 0 from ti_eq rfl (by decide) c365)
                refine lv_iload_n hx hb dX12_signed_110 rfl (lv_at hl 4 rfl) ?_
                rw [hQ]
                exact W.iret (v := a) hx hb hr (fun t ht hW => ⟨⟨a, τ348, rfl, ⟨hI350, (eqx.tr hx351 eqx.rf (by decide)), (by omega), (by omega)⟩, wEn_of hP (hK.sub [] rfl) hD ht hW⟩, hS.F ht⟩) hS.2.2 dX12_signed_111
              · have tc365 := (show z363.toInt ≠ 0 from ti_ne rfl (by decide) c365)
                refine lv_iload hx hb dX12_signed_105 (lv_at hl 0 rfl) ?_
                refine lv_goto (tgt := 111) hx hb dX12_signed_107 (by decide) ?_
                rw [hQ]
                exact W.iret (v := (τ348.1 9)) hx hb hr (fun t ht hW => ⟨⟨(τ348.1 9), τ348, rfl, ⟨hI350, (eqx.tr hx351 eqx.rf (by decide)), (by omega), (by omega)⟩, wEn_of hP (hK.sub [] rfl) hD ht hW⟩, hS.F ht⟩) hS.2.2 dX12_signed_111
            · have tc361 := (show z359.toInt ≠ 0 from ti_ne rfl (by decide) c361)
              refine lv_aload_n hx hb dX12_signed_94 rfl (lv_at hl 3 rfl) ?_
              refine zy_v (va_runV (As := []) (rest := []) ⟨hx, hb, hml, hown, hts⟩ (n_next l dC dI h ad cl H.size τ348  hI350) (cwV 0 hts gd_n_signed_228_n_next rfl rfl rfl (by decide +kernel) ⟨Nat.le_of_ble_eq_true rfl, Nat.le_of_ble_eq_true rfl⟩) (preV hP hK hD hE (ci := 12) (q0 := 0) rfl rfl) rfl rfl hl.1 rfl (lv_room (Nat.le_of_ble_eq_true rfl)) dX12_signed_95 ⟨Nat.le_of_ble_eq_true rfl, Nat.le_of_ble_eq_true rfl⟩) hD hS hA (fun τ366 H locs hq hP hD hS => ?_)
              obtain ⟨hI368, hx369⟩ := hq
              refine W.widen (k := 0) (n := 0) (Nat.le_of_ble_eq_true rfl) (Nat.le_of_ble_eq_true rfl) ?_
              refine lv_aload_n hx hb dX12_signed_98 rfl (lv_at hl 3 rfl) ?_
              refine zy_i (va_runV (As := []) (rest := []) ⟨hx, hb, hml, hown, hts⟩ (n_isGood l dC dI h ad cl H.size τ366  hI368) (cwV 0 hts gd_n_signed_224_n_isGood rfl rfl rfl (by decide +kernel) ⟨Nat.le_of_ble_eq_true rfl, Nat.le_of_ble_eq_true rfl⟩) (preV hP hK hD hE (ci := 12) (q0 := 0) rfl rfl) rfl rfl hl.1 rfl (lv_room (Nat.le_of_ble_eq_true rfl)) dX12_signed_99 ⟨Nat.le_of_ble_eq_true rfl, Nat.le_of_ble_eq_true rfl⟩) hD hS hA (fun z371 τ370 H locs hq hP hD hS => ?_)
              obtain ⟨rfl, f372⟩ := hq
              refine W.widen (k := 0) (n := 0) (Nat.le_of_ble_eq_true rfl) (Nat.le_of_ble_eq_true rfl) ?_
              refine lv_if_eq (tgt := 110) hx hb dX12_signed_102 (by decide) (fun c373 => ?_) (fun c373 => ?_)
              · have tc373 := (show z371.toInt = 0 from ti_eq rfl (by decide) c373)
                refine lv_iload_n hx hb dX12_signed_110 rfl (lv_at hl 4 rfl) ?_
                rw [hQ]
                exact W.iret (v := a) hx hb hr (fun t ht hW => ⟨⟨a, τ366, rfl, ⟨hI368, (eqx.tr hx369 (eqx.tr hx351 eqx.rf (by decide)) (by decide)), (by omega), (by omega)⟩, wEn_of hP (hK.sub [] rfl) hD ht hW⟩, hS.F ht⟩) hS.2.2 dX12_signed_111
              · have tc373 := (show z371.toInt ≠ 0 from ti_ne rfl (by decide) c373)
                refine lv_iload hx hb dX12_signed_105 (lv_at hl 0 rfl) ?_
                refine lv_goto (tgt := 111) hx hb dX12_signed_107 (by decide) ?_
                rw [hQ]
                exact W.iret (v := (τ348.1 9)) hx hb hr (fun t ht hW => ⟨⟨(τ348.1 9), τ366, rfl, ⟨hI368, (eqx.tr hx369 (eqx.tr hx351 eqx.rf (by decide)) (by decide)), (by omega), (by omega)⟩, wEn_of hP (hK.sub [] rfl) hD ht hW⟩, hS.F ht⟩) hS.2.2 dX12_signed_111
          · have tc357 := (show z355.toInt ≠ 0 from ti_ne rfl (by decide) c357)
            refine lv_iload hx hb dX12_signed_69 (lv_at hl 0 rfl) ?_
            refine lv_iload_n hx hb dX12_signed_71 rfl (lv_at hl 4 rfl) ?_
            refine lv_icmp_lt (tgt := 81) hx hb dX12_signed_72 (by decide) (fun c374 => ?_) (fun c374 => ?_)
            · have tc374 := (show (τ348.1 9).toInt < a.toInt from ti_lt rfl rfl c374)
              refine lv_aload_n hx hb dX12_signed_81 rfl (lv_at hl 3 rfl) ?_
              refine lv_iconst (v := 4) hx hb dX12_signed_82 (by decide) ?_
              refine lv_iload_n hx hb dX12_signed_83 rfl (lv_at hl 2 rfl) ?_
              have kk375 : (4 : Int32).toInt = 4 := by decide
              refine zy_v (va_runV (As := [.int 4, .int (σ.1 6)]) (rest := []) ⟨hx, hb, hml, hown, hts⟩ (n_fails l dC dI h ad cl H.size τ348 4 (σ.1 6) hI350 (by omega)) (cwV 2 hts gd_n_signed_220_n_fails rfl rfl rfl (by decide +kernel) ⟨Nat.le_of_ble_eq_true rfl, Nat.le_of_ble_eq_true rfl⟩) (preV hP hK hD hE (ci := 12) (q0 := 0) rfl rfl) rfl rfl hl.1 rfl (lv_room (Nat.le_of_ble_eq_true rfl)) dX12_signed_84 ⟨Nat.le_of_ble_eq_true rfl, Nat.le_of_ble_eq_true rfl⟩) hD hS hA (fun τ376 H locs hq hP hD hS => ?_)
              obtain ⟨hI378, hx379, f380⟩ := hq
              refine W.widen (k := 0) (n := 0) (Nat.le_of_ble_eq_true rfl) (Nat.le_of_ble_eq_true rfl) ?_
              refine lv_aload_n hx hb dX12_signed_87 rfl (lv_at hl 3 rfl) ?_
              refine zy_i (va_runV (As := []) (rest := []) ⟨hx, hb, hml, hown, hts⟩ (n_isGood l dC dI h ad cl H.size τ376  hI378) (cwV 0 hts gd_n_signed_224_n_isGood rfl rfl rfl (by decide +kernel) ⟨Nat.le_of_ble_eq_true rfl, Nat.le_of_ble_eq_true rfl⟩) (preV hP hK hD hE (ci := 12) (q0 := 0) rfl rfl) rfl rfl hl.1 rfl (lv_room (Nat.le_of_ble_eq_true rfl)) dX12_signed_88 ⟨Nat.le_of_ble_eq_true rfl, Nat.le_of_ble_eq_true rfl⟩) hD hS hA (fun z382 τ381 H locs hq hP hD hS => ?_)
              obtain ⟨rfl, f383⟩ := hq
              refine W.widen (k := 0) (n := 0) (Nat.le_of_ble_eq_true rfl) (Nat.le_of_ble_eq_true rfl) ?_
              refine lv_if_eq (tgt := 98) hx hb dX12_signed_91 (by decide) (fun c384 => ?_) (fun c384 => ?_)
              · have tc384 := (show z382.toInt = 0 from ti_eq rfl (by decide) c384)
                refine lv_aload_n hx hb dX12_signed_98 rfl (lv_at hl 3 rfl) ?_
                refine zy_i (va_runV (As := []) (rest := []) ⟨hx, hb, hml, hown, hts⟩ (n_isGood l dC dI h ad cl H.size τ376  hI378) (cwV 0 hts gd_n_signed_224_n_isGood rfl rfl rfl (by decide +kernel) ⟨Nat.le_of_ble_eq_true rfl, Nat.le_of_ble_eq_true rfl⟩) (preV hP hK hD hE (ci := 12) (q0 := 0) rfl rfl) rfl rfl hl.1 rfl (lv_room (Nat.le_of_ble_eq_true rfl)) dX12_signed_99 ⟨Nat.le_of_ble_eq_true rfl, Nat.le_of_ble_eq_true rfl⟩) hD hS hA (fun z386 τ385 H locs hq hP hD hS => ?_)
                obtain ⟨rfl, f387⟩ := hq
                refine W.widen (k := 0) (n := 0) (Nat.le_of_ble_eq_true rfl) (Nat.le_of_ble_eq_true rfl) ?_
                refine lv_if_eq (tgt := 110) hx hb dX12_signed_102 (by decide) (fun c388 => ?_) (fun c388 => ?_)
                · have tc388 := (show z386.toInt = 0 from ti_eq rfl (by decide) c388)
                  refine lv_iload_n hx hb dX12_signed_110 rfl (lv_at hl 4 rfl) ?_
                  rw [hQ]
                  exact W.iret (v := a) hx hb hr (fun t ht hW => ⟨⟨a, τ376, rfl, ⟨hI378, (eqx.tr hx379 (eqx.tr hx351 eqx.rf (by decide)) (by decide)), (by omega), (by omega)⟩, wEn_of hP (hK.sub [] rfl) hD ht hW⟩, hS.F ht⟩) hS.2.2 dX12_signed_111
                · have tc388 := (show z386.toInt ≠ 0 from ti_ne rfl (by decide) c388)
                  refine lv_iload hx hb dX12_signed_105 (lv_at hl 0 rfl) ?_
                  refine lv_goto (tgt := 111) hx hb dX12_signed_107 (by decide) ?_
                  rw [hQ]
                  exact W.iret (v := (τ348.1 9)) hx hb hr (fun t ht hW => ⟨⟨(τ348.1 9), τ376, rfl, ⟨hI378, (eqx.tr hx379 (eqx.tr hx351 eqx.rf (by decide)) (by decide)), (by omega), (by omega)⟩, wEn_of hP (hK.sub [] rfl) hD ht hW⟩, hS.F ht⟩) hS.2.2 dX12_signed_111
              · have tc384 := (show z382.toInt ≠ 0 from ti_ne rfl (by decide) c384)
                refine lv_aload_n hx hb dX12_signed_94 rfl (lv_at hl 3 rfl) ?_
                refine zy_v (va_runV (As := []) (rest := []) ⟨hx, hb, hml, hown, hts⟩ (n_next l dC dI h ad cl H.size τ376  hI378) (cwV 0 hts gd_n_signed_228_n_next rfl rfl rfl (by decide +kernel) ⟨Nat.le_of_ble_eq_true rfl, Nat.le_of_ble_eq_true rfl⟩) (preV hP hK hD hE (ci := 12) (q0 := 0) rfl rfl) rfl rfl hl.1 rfl (lv_room (Nat.le_of_ble_eq_true rfl)) dX12_signed_95 ⟨Nat.le_of_ble_eq_true rfl, Nat.le_of_ble_eq_true rfl⟩) hD hS hA (fun τ389 H locs hq hP hD hS => ?_)
                obtain ⟨hI391, hx392⟩ := hq
                refine W.widen (k := 0) (n := 0) (Nat.le_of_ble_eq_true rfl) (Nat.le_of_ble_eq_true rfl) ?_
                refine lv_aload_n hx hb dX12_signed_98 rfl (lv_at hl 3 rfl) ?_
                refine zy_i (va_runV (As := []) (rest := []) ⟨hx, hb, hml, hown, hts⟩ (n_isGood l dC dI h ad cl H.size τ389  hI391) (cwV 0 hts gd_n_signed_224_n_isGood rfl rfl rfl (by decide +kernel) ⟨Nat.le_of_ble_eq_true rfl, Nat.le_of_ble_eq_true rfl⟩) (preV hP hK hD hE (ci := 12) (q0 := 0) rfl rfl) rfl rfl hl.1 rfl (lv_room (Nat.le_of_ble_eq_true rfl)) dX12_signed_99 ⟨Nat.le_of_ble_eq_true rfl, Nat.le_of_ble_eq_true rfl⟩) hD hS hA (fun z394 τ393 H locs hq hP hD hS => ?_)
                obtain ⟨rfl, f395⟩ := hq
                refine W.widen (k := 0) (n := 0) (Nat.le_of_ble_eq_true rfl) (Nat.le_of_ble_eq_true rfl) ?_
                refine lv_if_eq (tgt := 110) hx hb dX12_signed_102 (by decide) (fun c396 => ?_) (fun c396 => ?_)
                · have tc396 := (show z394.toInt = 0 from ti_eq rfl (by decide) c396)
                  refine lv_iload_n hx hb dX12_signed_110 rfl (lv_at hl 4 rfl) ?_
                  rw [hQ]
                  exact W.iret (v := a) hx hb hr (fun t ht hW => ⟨⟨a, τ389, rfl, ⟨hI391, (eqx.tr hx392 (eqx.tr hx379 (eqx.tr hx351 eqx.rf (by decide)) (by decide)) (by decide)), (by omega), (by omega)⟩, wEn_of hP (hK.sub [] rfl) hD ht hW⟩, hS.F ht⟩) hS.2.2 dX12_signed_111
                · have tc396 := (show z394.toInt ≠ 0 from ti_ne rfl (by decide) c396)
                  refine lv_iload hx hb dX12_signed_105 (lv_at hl 0 rfl) ?_
                  refine lv_goto (tgt := 111) hx hb dX12_signed_107 (by decide) ?_
                  rw [hQ]
                  exact W.iret (v := (τ348.1 9)) hx hb hr (fun t ht hW => ⟨⟨(τ348.1 9), τ389, rfl, ⟨hI391, (eqx.tr hx392 (eqx.tr hx379 (eqx.tr hx351 eqx.rf (by decide)) (by decide)) (by decide)), (by omega), (by omega)⟩, wEn_of hP (hK.sub [] rfl) hD ht hW⟩, hS.F ht⟩) hS.2.2 dX12_signed_111
            · have tc374 := (show a.toInt ≤ (τ348.1 9).toInt from ti_nlt rfl rfl c374)
              refine lv_iload hx hb dX12_signed_75 (lv_at hl 0 rfl) ?_
              refine lv_iload_n hx hb dX12_signed_77 rfl (lv_at hl 5 rfl) ?_
              refine lv_icmp_le (tgt := 87) hx hb dX12_signed_78 (by decide) (fun c397 => ?_) (fun c397 => ?_)
              · have tc397 := (show (τ348.1 9).toInt ≤ b.toInt from ti_le rfl rfl c397)
                refine lv_aload_n hx hb dX12_signed_87 rfl (lv_at hl 3 rfl) ?_
                refine zy_i (va_runV (As := []) (rest := []) ⟨hx, hb, hml, hown, hts⟩ (n_isGood l dC dI h ad cl H.size τ348  hI350) (cwV 0 hts gd_n_signed_224_n_isGood rfl rfl rfl (by decide +kernel) ⟨Nat.le_of_ble_eq_true rfl, Nat.le_of_ble_eq_true rfl⟩) (preV hP hK hD hE (ci := 12) (q0 := 0) rfl rfl) rfl rfl hl.1 rfl (lv_room (Nat.le_of_ble_eq_true rfl)) dX12_signed_88 ⟨Nat.le_of_ble_eq_true rfl, Nat.le_of_ble_eq_true rfl⟩) hD hS hA (fun z399 τ398 H locs hq hP hD hS => ?_)
                obtain ⟨rfl, f400⟩ := hq
                refine W.widen (k := 0) (n := 0) (Nat.le_of_ble_eq_true rfl) (Nat.le_of_ble_eq_true rfl) ?_
                refine lv_if_eq (tgt := 98) hx hb dX12_signed_91 (by decide) (fun c401 => ?_) (fun c401 => ?_)
                · have tc401 := (show z399.toInt = 0 from ti_eq rfl (by decide) c401)
                  refine lv_aload_n hx hb dX12_signed_98 rfl (lv_at hl 3 rfl) ?_
                  refine zy_i (va_runV (As := []) (rest := []) ⟨hx, hb, hml, hown, hts⟩ (n_isGood l dC dI h ad cl H.size τ348  hI350) (cwV 0 hts gd_n_signed_224_n_isGood rfl rfl rfl (by decide +kernel) ⟨Nat.le_of_ble_eq_true rfl, Nat.le_of_ble_eq_true rfl⟩) (preV hP hK hD hE (ci := 12) (q0 := 0) rfl rfl) rfl rfl hl.1 rfl (lv_room (Nat.le_of_ble_eq_true rfl)) dX12_signed_99 ⟨Nat.le_of_ble_eq_true rfl, Nat.le_of_ble_eq_true rfl⟩) hD hS hA (fun z403 τ402 H locs hq hP hD hS => ?_)
                  obtain ⟨rfl, f404⟩ := hq
                  refine W.widen (k := 0) (n := 0) (Nat.le_of_ble_eq_true rfl) (Nat.le_of_ble_eq_true rfl) ?_
                  refine lv_if_eq (tgt := 110) hx hb dX12_signed_102 (by decide) (fun c405 => ?_) (fun c405 => ?_)
                  · have tc405 := (show z403.toInt = 0 from ti_eq rfl (by decide) c405)
                    refine lv_iload_n hx hb dX12_signed_110 rfl (lv_at hl 4 rfl) ?_
                    rw [hQ]
                    exact W.iret (v := a) hx hb hr (fun t ht hW => ⟨⟨a, τ348, rfl, ⟨hI350, (eqx.tr hx351 eqx.rf (by decide)), (by omega), (by omega)⟩, wEn_of hP (hK.sub [] rfl) hD ht hW⟩, hS.F ht⟩) hS.2.2 dX12_signed_111
                  · have tc405 := (show z403.toInt ≠ 0 from ti_ne rfl (by decide) c405)
                    refine lv_iload hx hb dX12_signed_105 (lv_at hl 0 rfl) ?_
                    refine lv_goto (tgt := 111) hx hb dX12_signed_107 (by decide) ?_
                    rw [hQ]
                    exact W.iret (v := (τ348.1 9)) hx hb hr (fun t ht hW => ⟨⟨(τ348.1 9), τ348, rfl, ⟨hI350, (eqx.tr hx351 eqx.rf (by decide)), (by omega), (by omega)⟩, wEn_of hP (hK.sub [] rfl) hD ht hW⟩, hS.F ht⟩) hS.2.2 dX12_signed_111
                · have tc401 := (show z399.toInt ≠ 0 from ti_ne rfl (by decide) c401)
                  refine lv_aload_n hx hb dX12_signed_94 rfl (lv_at hl 3 rfl) ?_
                  refine zy_v (va_runV (As := []) (rest := []) ⟨hx, hb, hml, hown, hts⟩ (n_next l dC dI h ad cl H.size τ348  hI350) (cwV 0 hts gd_n_signed_228_n_next rfl rfl rfl (by decide +kernel) ⟨Nat.le_of_ble_eq_true rfl, Nat.le_of_ble_eq_true rfl⟩) (preV hP hK hD hE (ci := 12) (q0 := 0) rfl rfl) rfl rfl hl.1 rfl (lv_room (Nat.le_of_ble_eq_true rfl)) dX12_signed_95 ⟨Nat.le_of_ble_eq_true rfl, Nat.le_of_ble_eq_true rfl⟩) hD hS hA (fun τ406 H locs hq hP hD hS => ?_)
                  obtain ⟨hI408, hx409⟩ := hq
                  refine W.widen (k := 0) (n := 0) (Nat.le_of_ble_eq_true rfl) (Nat.le_of_ble_eq_true rfl) ?_
                  refine lv_aload_n hx hb dX12_signed_98 rfl (lv_at hl 3 rfl) ?_
                  refine zy_i (va_runV (As := []) (rest := []) ⟨hx, hb, hml, hown, hts⟩ (n_isGood l dC dI h ad cl H.size τ406  hI408) (cwV 0 hts gd_n_signed_224_n_isGood rfl rfl rfl (by decide +kernel) ⟨Nat.le_of_ble_eq_true rfl, Nat.le_of_ble_eq_true rfl⟩) (preV hP hK hD hE (ci := 12) (q0 := 0) rfl rfl) rfl rfl hl.1 rfl (lv_room (Nat.le_of_ble_eq_true rfl)) dX12_signed_99 ⟨Nat.le_of_ble_eq_true rfl, Nat.le_of_ble_eq_true rfl⟩) hD hS hA (fun z411 τ410 H locs hq hP hD hS => ?_)
                  obtain ⟨rfl, f412⟩ := hq
                  refine W.widen (k := 0) (n := 0) (Nat.le_of_ble_eq_true rfl) (Nat.le_of_ble_eq_true rfl) ?_
                  refine lv_if_eq (tgt := 110) hx hb dX12_signed_102 (by decide) (fun c413 => ?_) (fun c413 => ?_)
                  · have tc413 := (show z411.toInt = 0 from ti_eq rfl (by decide) c413)
                    refine lv_iload_n hx hb dX12_signed_110 rfl (lv_at hl 4 rfl) ?_
                    rw [hQ]
                    exact W.iret (v := a) hx hb hr (fun t ht hW => ⟨⟨a, τ406, rfl, ⟨hI408, (eqx.tr hx409 (eqx.tr hx351 eqx.rf (by decide)) (by decide)), (by omega), (by omega)⟩, wEn_of hP (hK.sub [] rfl) hD ht hW⟩, hS.F ht⟩) hS.2.2 dX12_signed_111
                  · have tc413 := (show z411.toInt ≠ 0 from ti_ne rfl (by decide) c413)
                    refine lv_iload hx hb dX12_signed_105 (lv_at hl 0 rfl) ?_
                    refine lv_goto (tgt := 111) hx hb dX12_signed_107 (by decide) ?_
                    rw [hQ]
                    exact W.iret (v := (τ348.1 9)) hx hb hr (fun t ht hW => ⟨⟨(τ348.1 9), τ406, rfl, ⟨hI408, (eqx.tr hx409 (eqx.tr hx351 eqx.rf (by decide)) (by decide)), (by omega), (by omega)⟩, wEn_of hP (hK.sub [] rfl) hD ht hW⟩, hS.F ht⟩) hS.2.2 dX12_signed_111
              · have tc397 := (show b.toInt < (τ348.1 9).toInt from ti_nle rfl rfl c397)
                refine lv_aload_n hx hb dX12_signed_81 rfl (lv_at hl 3 rfl) ?_
                refine lv_iconst (v := 4) hx hb dX12_signed_82 (by decide) ?_
                refine lv_iload_n hx hb dX12_signed_83 rfl (lv_at hl 2 rfl) ?_
                have kk414 : (4 : Int32).toInt = 4 := by decide
                refine zy_v (va_runV (As := [.int 4, .int (σ.1 6)]) (rest := []) ⟨hx, hb, hml, hown, hts⟩ (n_fails l dC dI h ad cl H.size τ348 4 (σ.1 6) hI350 (by omega)) (cwV 2 hts gd_n_signed_220_n_fails rfl rfl rfl (by decide +kernel) ⟨Nat.le_of_ble_eq_true rfl, Nat.le_of_ble_eq_true rfl⟩) (preV hP hK hD hE (ci := 12) (q0 := 0) rfl rfl) rfl rfl hl.1 rfl (lv_room (Nat.le_of_ble_eq_true rfl)) dX12_signed_84 ⟨Nat.le_of_ble_eq_true rfl, Nat.le_of_ble_eq_true rfl⟩) hD hS hA (fun τ415 H locs hq hP hD hS => ?_)
                obtain ⟨hI417, hx418, f419⟩ := hq
                refine W.widen (k := 0) (n := 0) (Nat.le_of_ble_eq_true rfl) (Nat.le_of_ble_eq_true rfl) ?_
                refine lv_aload_n hx hb dX12_signed_87 rfl (lv_at hl 3 rfl) ?_
                refine zy_i (va_runV (As := []) (rest := []) ⟨hx, hb, hml, hown, hts⟩ (n_isGood l dC dI h ad cl H.size τ415  hI417) (cwV 0 hts gd_n_signed_224_n_isGood rfl rfl rfl (by decide +kernel) ⟨Nat.le_of_ble_eq_true rfl, Nat.le_of_ble_eq_true rfl⟩) (preV hP hK hD hE (ci := 12) (q0 := 0) rfl rfl) rfl rfl hl.1 rfl (lv_room (Nat.le_of_ble_eq_true rfl)) dX12_signed_88 ⟨Nat.le_of_ble_eq_true rfl, Nat.le_of_ble_eq_true rfl⟩) hD hS hA (fun z421 τ420 H locs hq hP hD hS => ?_)
                obtain ⟨rfl, f422⟩ := hq
                refine W.widen (k := 0) (n := 0) (Nat.le_of_ble_eq_true rfl) (Nat.le_of_ble_eq_true rfl) ?_
                refine lv_if_eq (tgt := 98) hx hb dX12_signed_91 (by decide) (fun c423 => ?_) (fun c423 => ?_)
                · have tc423 := (show z421.toInt = 0 from ti_eq rfl (by decide) c423)
                  refine lv_aload_n hx hb dX12_signed_98 rfl (lv_at hl 3 rfl) ?_
                  refine zy_i (va_runV (As := []) (rest := []) ⟨hx, hb, hml, hown, hts⟩ (n_isGood l dC dI h ad cl H.size τ415  hI417) (cwV 0 hts gd_n_signed_224_n_isGood rfl rfl rfl (by decide +kernel) ⟨Nat.le_of_ble_eq_true rfl, Nat.le_of_ble_eq_true rfl⟩) (preV hP hK hD hE (ci := 12) (q0 := 0) rfl rfl) rfl rfl hl.1 rfl (lv_room (Nat.le_of_ble_eq_true rfl)) dX12_signed_99 ⟨Nat.le_of_ble_eq_true rfl, Nat.le_of_ble_eq_true rfl⟩) hD hS hA (fun z425 τ424 H locs hq hP hD hS => ?_)
                  obtain ⟨rfl, f426⟩ := hq
                  refine W.widen (k := 0) (n := 0) (Nat.le_of_ble_eq_true rfl) (Nat.le_of_ble_eq_true rfl) ?_
                  refine lv_if_eq (tgt := 110) hx hb dX12_signed_102 (by decide) (fun c427 => ?_) (fun c427 => ?_)
                  · have tc427 := (show z425.toInt = 0 from ti_eq rfl (by decide) c427)
                    refine lv_iload_n hx hb dX12_signed_110 rfl (lv_at hl 4 rfl) ?_
                    rw [hQ]
                    exact W.iret (v := a) hx hb hr (fun t ht hW => ⟨⟨a, τ415, rfl, ⟨hI417, (eqx.tr hx418 (eqx.tr hx351 eqx.rf (by decide)) (by decide)), (by omega), (by omega)⟩, wEn_of hP (hK.sub [] rfl) hD ht hW⟩, hS.F ht⟩) hS.2.2 dX12_signed_111
                  · have tc427 := (show z425.toInt ≠ 0 from ti_ne rfl (by decide) c427)
                    refine lv_iload hx hb dX12_signed_105 (lv_at hl 0 rfl) ?_
                    refine lv_goto (tgt := 111) hx hb dX12_signed_107 (by decide) ?_
                    rw [hQ]
                    exact W.iret (v := (τ348.1 9)) hx hb hr (fun t ht hW => ⟨⟨(τ348.1 9), τ415, rfl, ⟨hI417, (eqx.tr hx418 (eqx.tr hx351 eqx.rf (by decide)) (by decide)), (by omega), (by omega)⟩, wEn_of hP (hK.sub [] rfl) hD ht hW⟩, hS.F ht⟩) hS.2.2 dX12_signed_111
                · have tc423 := (show z421.toInt ≠ 0 from ti_ne rfl (by decide) c423)
                  refine lv_aload_n hx hb dX12_signed_94 rfl (lv_at hl 3 rfl) ?_
                  refine zy_v (va_runV (As := []) (rest := []) ⟨hx, hb, hml, hown, hts⟩ (n_next l dC dI h ad cl H.size τ415  hI417) (cwV 0 hts gd_n_signed_228_n_next rfl rfl rfl (by decide +kernel) ⟨Nat.le_of_ble_eq_true rfl, Nat.le_of_ble_eq_true rfl⟩) (preV hP hK hD hE (ci := 12) (q0 := 0) rfl rfl) rfl rfl hl.1 rfl (lv_room (Nat.le_of_ble_eq_true rfl)) dX12_signed_95 ⟨Nat.le_of_ble_eq_true rfl, Nat.le_of_ble_eq_true rfl⟩) hD hS hA (fun τ428 H locs hq hP hD hS => ?_)
                  obtain ⟨hI430, hx431⟩ := hq
                  refine W.widen (k := 0) (n := 0) (Nat.le_of_ble_eq_true rfl) (Nat.le_of_ble_eq_true rfl) ?_
                  refine lv_aload_n hx hb dX12_signed_98 rfl (lv_at hl 3 rfl) ?_
                  refine zy_i (va_runV (As := []) (rest := []) ⟨hx, hb, hml, hown, hts⟩ (n_isGood l dC dI h ad cl H.size τ428  hI430) (cwV 0 hts gd_n_signed_224_n_isGood rfl rfl rfl (by decide +kernel) ⟨Nat.le_of_ble_eq_true rfl, Nat.le_of_ble_eq_true rfl⟩) (preV hP hK hD hE (ci := 12) (q0 := 0) rfl rfl) rfl rfl hl.1 rfl (lv_room (Nat.le_of_ble_eq_true rfl)) dX12_signed_99 ⟨Nat.le_of_ble_eq_true rfl, Nat.le_of_ble_eq_true rfl⟩) hD hS hA (fun z433 τ432 H locs hq hP hD hS => ?_)
                  obtain ⟨rfl, f434⟩ := hq
                  refine W.widen (k := 0) (n := 0) (Nat.le_of_ble_eq_true rfl) (Nat.le_of_ble_eq_true rfl) ?_
                  refine lv_if_eq (tgt := 110) hx hb dX12_signed_102 (by decide) (fun c435 => ?_) (fun c435 => ?_)
                  · have tc435 := (show z433.toInt = 0 from ti_eq rfl (by decide) c435)
                    refine lv_iload_n hx hb dX12_signed_110 rfl (lv_at hl 4 rfl) ?_
                    rw [hQ]
                    exact W.iret (v := a) hx hb hr (fun t ht hW => ⟨⟨a, τ428, rfl, ⟨hI430, (eqx.tr hx431 (eqx.tr hx418 (eqx.tr hx351 eqx.rf (by decide)) (by decide)) (by decide)), (by omega), (by omega)⟩, wEn_of hP (hK.sub [] rfl) hD ht hW⟩, hS.F ht⟩) hS.2.2 dX12_signed_111
                  · have tc435 := (show z433.toInt ≠ 0 from ti_ne rfl (by decide) c435)
                    refine lv_iload hx hb dX12_signed_105 (lv_at hl 0 rfl) ?_
                    refine lv_goto (tgt := 111) hx hb dX12_signed_107 (by decide) ?_
                    rw [hQ]
                    exact W.iret (v := (τ348.1 9)) hx hb hr (fun t ht hW => ⟨⟨(τ348.1 9), τ428, rfl, ⟨hI430, (eqx.tr hx431 (eqx.tr hx418 (eqx.tr hx351 eqx.rf (by decide)) (by decide)) (by decide)), (by omega), (by omega)⟩, wEn_of hP (hK.sub [] rfl) hD ht hW⟩, hS.F ht⟩) hS.2.2 dX12_signed_111
        · have tc353 := (show z7.toInt ≠ 0 from ti_ne rfl (by decide) c353)
          refine lv_aload_n hx hb dX12_signed_48 rfl (lv_at hl 2 rfl) ?_
          refine va_get (D := (dC, dI)) (ci := 12) (v := .int (τ348.1 9)) (C := RX12) (T := TX12) (N := 59) hx hb hts hin12 hown hK hP 0 rfl rfl 9 (by decide) (ho (.fieldLink RX12 217 "NearEnoughModel" "number" "I") (List.mem_of_getElem? (i := 2) rfl)) (fun _ h9 => h9) rfl dX12_signed_49 ?_
          refine lv_ineg hx hb dX12_signed_52 ?_
          refine lv_topi (fun z436 ez436 => ?_)
          refine lv_goto (tgt := 60) hx hb dX12_signed_53 (by decide) ?_
          refine lv_istore (lv' := [(5, .int z436), (4, .int z7), (3, .int (σ.1 6)), (0, .ref h), (1, .int a), (2, .int b)]) hx hb dX12_signed_60 hl (by decide) rfl (fun ls hl => ?_)
          refine lv_aload_n hx hb dX12_signed_62 rfl (lv_at hl 3 rfl) ?_
          refine zy_i (va_runV (As := []) (rest := []) ⟨hx, hb, hml, hown, hts⟩ (n_isGood l dC dI h ad cl H.size τ348  hI350) (cwV 0 hts gd_n_signed_224_n_isGood rfl rfl rfl (by decide +kernel) ⟨Nat.le_of_ble_eq_true rfl, Nat.le_of_ble_eq_true rfl⟩) (preV hP hK hD hE (ci := 12) (q0 := 0) rfl rfl) rfl rfl hl.1 rfl (lv_room (Nat.le_of_ble_eq_true rfl)) dX12_signed_63 ⟨Nat.le_of_ble_eq_true rfl, Nat.le_of_ble_eq_true rfl⟩) hD hS hA (fun z438 τ437 H locs hq hP hD hS => ?_)
          obtain ⟨rfl, f439⟩ := hq
          refine W.widen (k := 0) (n := 0) (Nat.le_of_ble_eq_true rfl) (Nat.le_of_ble_eq_true rfl) ?_
          refine lv_if_eq (tgt := 87) hx hb dX12_signed_66 (by decide) (fun c440 => ?_) (fun c440 => ?_)
          · have tc440 := (show z438.toInt = 0 from ti_eq rfl (by decide) c440)
            refine lv_aload_n hx hb dX12_signed_87 rfl (lv_at hl 3 rfl) ?_
            refine zy_i (va_runV (As := []) (rest := []) ⟨hx, hb, hml, hown, hts⟩ (n_isGood l dC dI h ad cl H.size τ348  hI350) (cwV 0 hts gd_n_signed_224_n_isGood rfl rfl rfl (by decide +kernel) ⟨Nat.le_of_ble_eq_true rfl, Nat.le_of_ble_eq_true rfl⟩) (preV hP hK hD hE (ci := 12) (q0 := 0) rfl rfl) rfl rfl hl.1 rfl (lv_room (Nat.le_of_ble_eq_true rfl)) dX12_signed_88 ⟨Nat.le_of_ble_eq_true rfl, Nat.le_of_ble_eq_true rfl⟩) hD hS hA (fun z442 τ441 H locs hq hP hD hS => ?_)
            obtain ⟨rfl, f443⟩ := hq
            refine W.widen (k := 0) (n := 0) (Nat.le_of_ble_eq_true rfl) (Nat.le_of_ble_eq_true rfl) ?_
            refine lv_if_eq (tgt := 98) hx hb dX12_signed_91 (by decide) (fun c444 => ?_) (fun c444 => ?_)
            · have tc444 := (show z442.toInt = 0 from ti_eq rfl (by decide) c444)
              refine lv_aload_n hx hb dX12_signed_98 rfl (lv_at hl 3 rfl) ?_
              refine zy_i (va_runV (As := []) (rest := []) ⟨hx, hb, hml, hown, hts⟩ (n_isGood l dC dI h ad cl H.size τ348  hI350) (cwV 0 hts gd_n_signed_224_n_isGood rfl rfl rfl (by decide +kernel) ⟨Nat.le_of_ble_eq_true rfl, Nat.le_of_ble_eq_true rfl⟩) (preV hP hK hD hE (ci := 12) (q0 := 0) rfl rfl) rfl rfl hl.1 rfl (lv_room (Nat.le_of_ble_eq_true rfl)) dX12_signed_99 ⟨Nat.le_of_ble_eq_true rfl, Nat.le_of_ble_eq_true rfl⟩) hD hS hA (fun z446 τ445 H locs hq hP hD hS => ?_)
              obtain ⟨rfl, f447⟩ := hq
              refine W.widen (k := 0) (n := 0) (Nat.le_of_ble_eq_true rfl) (Nat.le_of_ble_eq_true rfl) ?_
              refine lv_if_eq (tgt := 110) hx hb dX12_signed_102 (by decide) (fun c448 => ?_) (fun c448 => ?_)
              · have tc448 := (show z446.toInt = 0 from ti_eq rfl (by decide) c448)
                refine lv_iload_n hx hb dX12_signed_110 rfl (lv_at hl 4 rfl) ?_
                rw [hQ]
                exact W.iret (v := a) hx hb hr (fun t ht hW => ⟨⟨a, τ348, rfl, ⟨hI350, (eqx.tr hx351 eqx.rf (by decide)), (by omega), (by omega)⟩, wEn_of hP (hK.sub [] rfl) hD ht hW⟩, hS.F ht⟩) hS.2.2 dX12_signed_111
              · have tc448 := (show z446.toInt ≠ 0 from ti_ne rfl (by decide) c448)
                refine lv_iload hx hb dX12_signed_105 (lv_at hl 0 rfl) ?_
                refine lv_goto (tgt := 111) hx hb dX12_signed_107 (by decide) ?_
                rw [hQ]
                exact W.iret (v := z436) hx hb hr (fun t ht hW => ⟨⟨z436, τ348, rfl, ⟨hI350, (eqx.tr hx351 eqx.rf (by decide)), (by omega), (by omega)⟩, wEn_of hP (hK.sub [] rfl) hD ht hW⟩, hS.F ht⟩) hS.2.2 dX12_signed_111
            · have tc444 := (show z442.toInt ≠ 0 from ti_ne rfl (by decide) c444)
              refine lv_aload_n hx hb dX12_signed_94 rfl (lv_at hl 3 rfl) ?_
              refine zy_v (va_runV (As := []) (rest := []) ⟨hx, hb, hml, hown, hts⟩ (n_next l dC dI h ad cl H.size τ348  hI350) (cwV 0 hts gd_n_signed_228_n_next rfl rfl rfl (by decide +kernel) ⟨Nat.le_of_ble_eq_true rfl, Nat.le_of_ble_eq_true rfl⟩) (preV hP hK hD hE (ci := 12) (q0 := 0) rfl rfl) rfl rfl hl.1 rfl (lv_room (Nat.le_of_ble_eq_true rfl)) dX12_signed_95 ⟨Nat.le_of_ble_eq_true rfl, Nat.le_of_ble_eq_true rfl⟩) hD hS hA (fun τ449 H locs hq hP hD hS => ?_)
              obtain ⟨hI451, hx452⟩ := hq
              refine W.widen (k := 0) (n := 0) (Nat.le_of_ble_eq_true rfl) (Nat.le_of_ble_eq_true rfl) ?_
              refine lv_aload_n hx hb dX12_signed_98 rfl (lv_at hl 3 rfl) ?_
              refine zy_i (va_runV (As := []) (rest := []) ⟨hx, hb, hml, hown, hts⟩ (n_isGood l dC dI h ad cl H.size τ449  hI451) (cwV 0 hts gd_n_signed_224_n_isGood rfl rfl rfl (by decide +kernel) ⟨Nat.le_of_ble_eq_true rfl, Nat.le_of_ble_eq_true rfl⟩) (preV hP hK hD hE (ci := 12) (q0 := 0) rfl rfl) rfl rfl hl.1 rfl (lv_room (Nat.le_of_ble_eq_true rfl)) dX12_signed_99 ⟨Nat.le_of_ble_eq_true rfl, Nat.le_of_ble_eq_true rfl⟩) hD hS hA (fun z454 τ453 H locs hq hP hD hS => ?_)
              obtain ⟨rfl, f455⟩ := hq
              refine W.widen (k := 0) (n := 0) (Nat.le_of_ble_eq_true rfl) (Nat.le_of_ble_eq_true rfl) ?_
              refine lv_if_eq (tgt := 110) hx hb dX12_signed_102 (by decide) (fun c456 => ?_) (fun c456 => ?_)
              · have tc456 := (show z454.toInt = 0 from ti_eq rfl (by decide) c456)
                refine lv_iload_n hx hb dX12_signed_110 rfl (lv_at hl 4 rfl) ?_
                rw [hQ]
                exact W.iret (v := a) hx hb hr (fun t ht hW => ⟨⟨a, τ449, rfl, ⟨hI451, (eqx.tr hx452 (eqx.tr hx351 eqx.rf (by decide)) (by decide)), (by omega), (by omega)⟩, wEn_of hP (hK.sub [] rfl) hD ht hW⟩, hS.F ht⟩) hS.2.2 dX12_signed_111
              · have tc456 := (show z454.toInt ≠ 0 from ti_ne rfl (by decide) c456)
                refine lv_iload hx hb dX12_signed_105 (lv_at hl 0 rfl) ?_
                refine lv_goto (tgt := 111) hx hb dX12_signed_107 (by decide) ?_
                rw [hQ]
                exact W.iret (v := z436) hx hb hr (fun t ht hW => ⟨⟨z436, τ449, rfl, ⟨hI451, (eqx.tr hx452 (eqx.tr hx351 eqx.rf (by decide)) (by decide)), (by omega), (by omega)⟩, wEn_of hP (hK.sub [] rfl) hD ht hW⟩, hS.F ht⟩) hS.2.2 dX12_signed_111
          · have tc440 := (show z438.toInt ≠ 0 from ti_ne rfl (by decide) c440)
            refine lv_iload hx hb dX12_signed_69 (lv_at hl 0 rfl) ?_
            refine lv_iload_n hx hb dX12_signed_71 rfl (lv_at hl 4 rfl) ?_
            refine lv_icmp_lt (tgt := 81) hx hb dX12_signed_72 (by decide) (fun c457 => ?_) (fun c457 => ?_)
            · have tc457 := (show z436.toInt < a.toInt from ti_lt rfl rfl c457)
              refine lv_aload_n hx hb dX12_signed_81 rfl (lv_at hl 3 rfl) ?_
              refine lv_iconst (v := 4) hx hb dX12_signed_82 (by decide) ?_
              refine lv_iload_n hx hb dX12_signed_83 rfl (lv_at hl 2 rfl) ?_
              have kk458 : (4 : Int32).toInt = 4 := by decide
              refine zy_v (va_runV (As := [.int 4, .int (σ.1 6)]) (rest := []) ⟨hx, hb, hml, hown, hts⟩ (n_fails l dC dI h ad cl H.size τ348 4 (σ.1 6) hI350 (by omega)) (cwV 2 hts gd_n_signed_220_n_fails rfl rfl rfl (by decide +kernel) ⟨Nat.le_of_ble_eq_true rfl, Nat.le_of_ble_eq_true rfl⟩) (preV hP hK hD hE (ci := 12) (q0 := 0) rfl rfl) rfl rfl hl.1 rfl (lv_room (Nat.le_of_ble_eq_true rfl)) dX12_signed_84 ⟨Nat.le_of_ble_eq_true rfl, Nat.le_of_ble_eq_true rfl⟩) hD hS hA (fun τ459 H locs hq hP hD hS => ?_)
              obtain ⟨hI461, hx462, f463⟩ := hq
              refine W.widen (k := 0) (n := 0) (Nat.le_of_ble_eq_true rfl) (Nat.le_of_ble_eq_true rfl) ?_
              refine lv_aload_n hx hb dX12_signed_87 rfl (lv_at hl 3 rfl) ?_
              refine zy_i (va_runV (As := []) (rest := []) ⟨hx, hb, hml, hown, hts⟩ (n_isGood l dC dI h ad cl H.size τ459  hI461) (cwV 0 hts gd_n_signed_224_n_isGood rfl rfl rfl (by decide +kernel) ⟨Nat.le_of_ble_eq_true rfl, Nat.le_of_ble_eq_true rfl⟩) (preV hP hK hD hE (ci := 12) (q0 := 0) rfl rfl) rfl rfl hl.1 rfl (lv_room (Nat.le_of_ble_eq_true rfl)) dX12_signed_88 ⟨Nat.le_of_ble_eq_true rfl, Nat.le_of_ble_eq_true rfl⟩) hD hS hA (fun z465 τ464 H locs hq hP hD hS => ?_)
              obtain ⟨rfl, f466⟩ := hq
              refine W.widen (k := 0) (n := 0) (Nat.le_of_ble_eq_true rfl) (Nat.le_of_ble_eq_true rfl) ?_
              refine lv_if_eq (tgt := 98) hx hb dX12_signed_91 (by decide) (fun c467 => ?_) (fun c467 => ?_)
              · have tc467 := (show z465.toInt = 0 from ti_eq rfl (by decide) c467)
                refine lv_aload_n hx hb dX12_signed_98 rfl (lv_at hl 3 rfl) ?_
                refine zy_i (va_runV (As := []) (rest := []) ⟨hx, hb, hml, hown, hts⟩ (n_isGood l dC dI h ad cl H.size τ459  hI461) (cwV 0 hts gd_n_signed_224_n_isGood rfl rfl rfl (by decide +kernel) ⟨Nat.le_of_ble_eq_true rfl, Nat.le_of_ble_eq_true rfl⟩) (preV hP hK hD hE (ci := 12) (q0 := 0) rfl rfl) rfl rfl hl.1 rfl (lv_room (Nat.le_of_ble_eq_true rfl)) dX12_signed_99 ⟨Nat.le_of_ble_eq_true rfl, Nat.le_of_ble_eq_true rfl⟩) hD hS hA (fun z469 τ468 H locs hq hP hD hS => ?_)
                obtain ⟨rfl, f470⟩ := hq
                refine W.widen (k := 0) (n := 0) (Nat.le_of_ble_eq_true rfl) (Nat.le_of_ble_eq_true rfl) ?_
                refine lv_if_eq (tgt := 110) hx hb dX12_signed_102 (by decide) (fun c471 => ?_) (fun c471 => ?_)
                · have tc471 := (show z469.toInt = 0 from ti_eq rfl (by decide) c471)
                  refine lv_iload_n hx hb dX12_signed_110 rfl (lv_at hl 4 rfl) ?_
                  rw [hQ]
                  exact W.iret (v := a) hx hb hr (fun t ht hW => ⟨⟨a, τ459, rfl, ⟨hI461, (eqx.tr hx462 (eqx.tr hx351 eqx.rf (by decide)) (by decide)), (by omega), (by omega)⟩, wEn_of hP (hK.sub [] rfl) hD ht hW⟩, hS.F ht⟩) hS.2.2 dX12_signed_111
                · have tc471 := (show z469.toInt ≠ 0 from ti_ne rfl (by decide) c471)
                  refine lv_iload hx hb dX12_signed_105 (lv_at hl 0 rfl) ?_
                  refine lv_goto (tgt := 111) hx hb dX12_signed_107 (by decide) ?_
                  rw [hQ]
                  exact W.iret (v := z436) hx hb hr (fun t ht hW => ⟨⟨z436, τ459, rfl, ⟨hI461, (eqx.tr hx462 (eqx.tr hx351 eqx.rf (by decide)) (by decide)), (by omega), (by omega)⟩, wEn_of hP (hK.sub [] rfl) hD ht hW⟩, hS.F ht⟩) hS.2.2 dX12_signed_111
              · have tc467 := (show z465.toInt ≠ 0 from ti_ne rfl (by decide) c467)
                refine lv_aload_n hx hb dX12_signed_94 rfl (lv_at hl 3 rfl) ?_
                refine zy_v (va_runV (As := []) (rest := []) ⟨hx, hb, hml, hown, hts⟩ (n_next l dC dI h ad cl H.size τ459  hI461) (cwV 0 hts gd_n_signed_228_n_next rfl rfl rfl (by decide +kernel) ⟨Nat.le_of_ble_eq_true rfl, Nat.le_of_ble_eq_true rfl⟩) (preV hP hK hD hE (ci := 12) (q0 := 0) rfl rfl) rfl rfl hl.1 rfl (lv_room (Nat.le_of_ble_eq_true rfl)) dX12_signed_95 ⟨Nat.le_of_ble_eq_true rfl, Nat.le_of_ble_eq_true rfl⟩) hD hS hA (fun τ472 H locs hq hP hD hS => ?_)
                obtain ⟨hI474, hx475⟩ := hq
                refine W.widen (k := 0) (n := 0) (Nat.le_of_ble_eq_true rfl) (Nat.le_of_ble_eq_true rfl) ?_
                refine lv_aload_n hx hb dX12_signed_98 rfl (lv_at hl 3 rfl) ?_
                refine zy_i (va_runV (As := []) (rest := []) ⟨hx, hb, hml, hown, hts⟩ (n_isGood l dC dI h ad cl H.size τ472  hI474) (cwV 0 hts gd_n_signed_224_n_isGood rfl rfl rfl (by decide +kernel) ⟨Nat.le_of_ble_eq_true rfl, Nat.le_of_ble_eq_true rfl⟩) (preV hP hK hD hE (ci := 12) (q0 := 0) rfl rfl) rfl rfl hl.1 rfl (lv_room (Nat.le_of_ble_eq_true rfl)) dX12_signed_99 ⟨Nat.le_of_ble_eq_true rfl, Nat.le_of_ble_eq_true rfl⟩) hD hS hA (fun z477 τ476 H locs hq hP hD hS => ?_)
                obtain ⟨rfl, f478⟩ := hq
                refine W.widen (k := 0) (n := 0) (Nat.le_of_ble_eq_true rfl) (Nat.le_of_ble_eq_true rfl) ?_
                refine lv_if_eq (tgt := 110) hx hb dX12_signed_102 (by decide) (fun c479 => ?_) (fun c479 => ?_)
                · have tc479 := (show z477.toInt = 0 from ti_eq rfl (by decide) c479)
                  refine lv_iload_n hx hb dX12_signed_110 rfl (lv_at hl 4 rfl) ?_
                  rw [hQ]
                  exact W.iret (v := a) hx hb hr (fun t ht hW => ⟨⟨a, τ472, rfl, ⟨hI474, (eqx.tr hx475 (eqx.tr hx462 (eqx.tr hx351 eqx.rf (by decide)) (by decide)) (by decide)), (by omega), (by omega)⟩, wEn_of hP (hK.sub [] rfl) hD ht hW⟩, hS.F ht⟩) hS.2.2 dX12_signed_111
                · have tc479 := (show z477.toInt ≠ 0 from ti_ne rfl (by decide) c479)
                  refine lv_iload hx hb dX12_signed_105 (lv_at hl 0 rfl) ?_
                  refine lv_goto (tgt := 111) hx hb dX12_signed_107 (by decide) ?_
                  rw [hQ]
                  exact W.iret (v := z436) hx hb hr (fun t ht hW => ⟨⟨z436, τ472, rfl, ⟨hI474, (eqx.tr hx475 (eqx.tr hx462 (eqx.tr hx351 eqx.rf (by decide)) (by decide)) (by decide)), (by omega), (by omega)⟩, wEn_of hP (hK.sub [] rfl) hD ht hW⟩, hS.F ht⟩) hS.2.2 dX12_signed_111
            · have tc457 := (show a.toInt ≤ z436.toInt from ti_nlt rfl rfl c457)
              refine lv_iload hx hb dX12_signed_75 (lv_at hl 0 rfl) ?_
              refine lv_iload_n hx hb dX12_signed_77 rfl (lv_at hl 5 rfl) ?_
              refine lv_icmp_le (tgt := 87) hx hb dX12_signed_78 (by decide) (fun c480 => ?_) (fun c480 => ?_)
              · have tc480 := (show z436.toInt ≤ b.toInt from ti_le rfl rfl c480)
                refine lv_aload_n hx hb dX12_signed_87 rfl (lv_at hl 3 rfl) ?_
                refine zy_i (va_runV (As := []) (rest := []) ⟨hx, hb, hml, hown, hts⟩ (n_isGood l dC dI h ad cl H.size τ348  hI350) (cwV 0 hts gd_n_signed_224_n_isGood rfl rfl rfl (by decide +kernel) ⟨Nat.le_of_ble_eq_true rfl, Nat.le_of_ble_eq_true rfl⟩) (preV hP hK hD hE (ci := 12) (q0 := 0) rfl rfl) rfl rfl hl.1 rfl (lv_room (Nat.le_of_ble_eq_true rfl)) dX12_signed_88 ⟨Nat.le_of_ble_eq_true rfl, Nat.le_of_ble_eq_true rfl⟩) hD hS hA (fun z482 τ481 H locs hq hP hD hS => ?_)
                obtain ⟨rfl, f483⟩ := hq
                refine W.widen (k := 0) (n := 0) (Nat.le_of_ble_eq_true rfl) (Nat.le_of_ble_eq_true rfl) ?_
                refine lv_if_eq (tgt := 98) hx hb dX12_signed_91 (by decide) (fun c484 => ?_) (fun c484 => ?_)
                · have tc484 := (show z482.toInt = 0 from ti_eq rfl (by decide) c484)
                  refine lv_aload_n hx hb dX12_signed_98 rfl (lv_at hl 3 rfl) ?_
                  refine zy_i (va_runV (As := []) (rest := []) ⟨hx, hb, hml, hown, hts⟩ (n_isGood l dC dI h ad cl H.size τ348  hI350) (cwV 0 hts gd_n_signed_224_n_isGood rfl rfl rfl (by decide +kernel) ⟨Nat.le_of_ble_eq_true rfl, Nat.le_of_ble_eq_true rfl⟩) (preV hP hK hD hE (ci := 12) (q0 := 0) rfl rfl) rfl rfl hl.1 rfl (lv_room (Nat.le_of_ble_eq_true rfl)) dX12_signed_99 ⟨Nat.le_of_ble_eq_true rfl, Nat.le_of_ble_eq_true rfl⟩) hD hS hA (fun z486 τ485 H locs hq hP hD hS => ?_)
                  obtain ⟨rfl, f487⟩ := hq
                  refine W.widen (k := 0) (n := 0) (Nat.le_of_ble_eq_true rfl) (Nat.le_of_ble_eq_true rfl) ?_
                  refine lv_if_eq (tgt := 110) hx hb dX12_signed_102 (by decide) (fun c488 => ?_) (fun c488 => ?_)
                  · have tc488 := (show z486.toInt = 0 from ti_eq rfl (by decide) c488)
                    refine lv_iload_n hx hb dX12_signed_110 rfl (lv_at hl 4 rfl) ?_
                    rw [hQ]
                    exact W.iret (v := a) hx hb hr (fun t ht hW => ⟨⟨a, τ348, rfl, ⟨hI350, (eqx.tr hx351 eqx.rf (by decide)), (by omega), (by omega)⟩, wEn_of hP (hK.sub [] rfl) hD ht hW⟩, hS.F ht⟩) hS.2.2 dX12_signed_111
                  · have tc488 := (show z486.toInt ≠ 0 from ti_ne rfl (by decide) c488)
                    refine lv_iload hx hb dX12_signed_105 (lv_at hl 0 rfl) ?_
                    refine lv_goto (tgt := 111) hx hb dX12_signed_107 (by decide) ?_
                    rw [hQ]
                    exact W.iret (v := z436) hx hb hr (fun t ht hW => ⟨⟨z436, τ348, rfl, ⟨hI350, (eqx.tr hx351 eqx.rf (by decide)), (by omega), (by omega)⟩, wEn_of hP (hK.sub [] rfl) hD ht hW⟩, hS.F ht⟩) hS.2.2 dX12_signed_111
                · have tc484 := (show z482.toInt ≠ 0 from ti_ne rfl (by decide) c484)
                  refine lv_aload_n hx hb dX12_signed_94 rfl (lv_at hl 3 rfl) ?_
                  refine zy_v (va_runV (As := []) (rest := []) ⟨hx, hb, hml, hown, hts⟩ (n_next l dC dI h ad cl H.size τ348  hI350) (cwV 0 hts gd_n_signed_228_n_next rfl rfl rfl (by decide +kernel) ⟨Nat.le_of_ble_eq_true rfl, Nat.le_of_ble_eq_true rfl⟩) (preV hP hK hD hE (ci := 12) (q0 := 0) rfl rfl) rfl rfl hl.1 rfl (lv_room (Nat.le_of_ble_eq_true rfl)) dX12_signed_95 ⟨Nat.le_of_ble_eq_true rfl, Nat.le_of_ble_eq_true rfl⟩) hD hS hA (fun τ489 H locs hq hP hD hS => ?_)
                  obtain ⟨hI491, hx492⟩ := hq
                  refine W.widen (k := 0) (n := 0) (Nat.le_of_ble_eq_true rfl) (Nat.le_of_ble_eq_true rfl) ?_
                  refine lv_aload_n hx hb dX12_signed_98 rfl (lv_at hl 3 rfl) ?_
                  refine zy_i (va_runV (As := []) (rest := []) ⟨hx, hb, hml, hown, hts⟩ (n_isGood l dC dI h ad cl H.size τ489  hI491) (cwV 0 hts gd_n_signed_224_n_isGood rfl rfl rfl (by decide +kernel) ⟨Nat.le_of_ble_eq_true rfl, Nat.le_of_ble_eq_true rfl⟩) (preV hP hK hD hE (ci := 12) (q0 := 0) rfl rfl) rfl rfl hl.1 rfl (lv_room (Nat.le_of_ble_eq_true rfl)) dX12_signed_99 ⟨Nat.le_of_ble_eq_true rfl, Nat.le_of_ble_eq_true rfl⟩) hD hS hA (fun z494 τ493 H locs hq hP hD hS => ?_)
                  obtain ⟨rfl, f495⟩ := hq
                  refine W.widen (k := 0) (n := 0) (Nat.le_of_ble_eq_true rfl) (Nat.le_of_ble_eq_true rfl) ?_
                  refine lv_if_eq (tgt := 110) hx hb dX12_signed_102 (by decide) (fun c496 => ?_) (fun c496 => ?_)
                  · have tc496 := (show z494.toInt = 0 from ti_eq rfl (by decide) c496)
                    refine lv_iload_n hx hb dX12_signed_110 rfl (lv_at hl 4 rfl) ?_
                    rw [hQ]
                    exact W.iret (v := a) hx hb hr (fun t ht hW => ⟨⟨a, τ489, rfl, ⟨hI491, (eqx.tr hx492 (eqx.tr hx351 eqx.rf (by decide)) (by decide)), (by omega), (by omega)⟩, wEn_of hP (hK.sub [] rfl) hD ht hW⟩, hS.F ht⟩) hS.2.2 dX12_signed_111
                  · have tc496 := (show z494.toInt ≠ 0 from ti_ne rfl (by decide) c496)
                    refine lv_iload hx hb dX12_signed_105 (lv_at hl 0 rfl) ?_
                    refine lv_goto (tgt := 111) hx hb dX12_signed_107 (by decide) ?_
                    rw [hQ]
                    exact W.iret (v := z436) hx hb hr (fun t ht hW => ⟨⟨z436, τ489, rfl, ⟨hI491, (eqx.tr hx492 (eqx.tr hx351 eqx.rf (by decide)) (by decide)), (by omega), (by omega)⟩, wEn_of hP (hK.sub [] rfl) hD ht hW⟩, hS.F ht⟩) hS.2.2 dX12_signed_111
              · have tc480 := (show b.toInt < z436.toInt from ti_nle rfl rfl c480)
                refine lv_aload_n hx hb dX12_signed_81 rfl (lv_at hl 3 rfl) ?_
                refine lv_iconst (v := 4) hx hb dX12_signed_82 (by decide) ?_
                refine lv_iload_n hx hb dX12_signed_83 rfl (lv_at hl 2 rfl) ?_
                have kk497 : (4 : Int32).toInt = 4 := by decide
                refine zy_v (va_runV (As := [.int 4, .int (σ.1 6)]) (rest := []) ⟨hx, hb, hml, hown, hts⟩ (n_fails l dC dI h ad cl H.size τ348 4 (σ.1 6) hI350 (by omega)) (cwV 2 hts gd_n_signed_220_n_fails rfl rfl rfl (by decide +kernel) ⟨Nat.le_of_ble_eq_true rfl, Nat.le_of_ble_eq_true rfl⟩) (preV hP hK hD hE (ci := 12) (q0 := 0) rfl rfl) rfl rfl hl.1 rfl (lv_room (Nat.le_of_ble_eq_true rfl)) dX12_signed_84 ⟨Nat.le_of_ble_eq_true rfl, Nat.le_of_ble_eq_true rfl⟩) hD hS hA (fun τ498 H locs hq hP hD hS => ?_)
                obtain ⟨hI500, hx501, f502⟩ := hq
                refine W.widen (k := 0) (n := 0) (Nat.le_of_ble_eq_true rfl) (Nat.le_of_ble_eq_true rfl) ?_
                refine lv_aload_n hx hb dX12_signed_87 rfl (lv_at hl 3 rfl) ?_
                refine zy_i (va_runV (As := []) (rest := []) ⟨hx, hb, hml, hown, hts⟩ (n_isGood l dC dI h ad cl H.size τ498  hI500) (cwV 0 hts gd_n_signed_224_n_isGood rfl rfl rfl (by decide +kernel) ⟨Nat.le_of_ble_eq_true rfl, Nat.le_of_ble_eq_true rfl⟩) (preV hP hK hD hE (ci := 12) (q0 := 0) rfl rfl) rfl rfl hl.1 rfl (lv_room (Nat.le_of_ble_eq_true rfl)) dX12_signed_88 ⟨Nat.le_of_ble_eq_true rfl, Nat.le_of_ble_eq_true rfl⟩) hD hS hA (fun z504 τ503 H locs hq hP hD hS => ?_)
                obtain ⟨rfl, f505⟩ := hq
                refine W.widen (k := 0) (n := 0) (Nat.le_of_ble_eq_true rfl) (Nat.le_of_ble_eq_true rfl) ?_
                refine lv_if_eq (tgt := 98) hx hb dX12_signed_91 (by decide) (fun c506 => ?_) (fun c506 => ?_)
                · have tc506 := (show z504.toInt = 0 from ti_eq rfl (by decide) c506)
                  refine lv_aload_n hx hb dX12_signed_98 rfl (lv_at hl 3 rfl) ?_
                  refine zy_i (va_runV (As := []) (rest := []) ⟨hx, hb, hml, hown, hts⟩ (n_isGood l dC dI h ad cl H.size τ498  hI500) (cwV 0 hts gd_n_signed_224_n_isGood rfl rfl rfl (by decide +kernel) ⟨Nat.le_of_ble_eq_true rfl, Nat.le_of_ble_eq_true rfl⟩) (preV hP hK hD hE (ci := 12) (q0 := 0) rfl rfl) rfl rfl hl.1 rfl (lv_room (Nat.le_of_ble_eq_true rfl)) dX12_signed_99 ⟨Nat.le_of_ble_eq_true rfl, Nat.le_of_ble_eq_true rfl⟩) hD hS hA (fun z508 τ507 H locs hq hP hD hS => ?_)
                  obtain ⟨rfl, f509⟩ := hq
                  refine W.widen (k := 0) (n := 0) (Nat.le_of_ble_eq_true rfl) (Nat.le_of_ble_eq_true rfl) ?_
                  refine lv_if_eq (tgt := 110) hx hb dX12_signed_102 (by decide) (fun c510 => ?_) (fun c510 => ?_)
                  · have tc510 := (show z508.toInt = 0 from ti_eq rfl (by decide) c510)
                    refine lv_iload_n hx hb dX12_signed_110 rfl (lv_at hl 4 rfl) ?_
                    rw [hQ]
                    exact W.iret (v := a) hx hb hr (fun t ht hW => ⟨⟨a, τ498, rfl, ⟨hI500, (eqx.tr hx501 (eqx.tr hx351 eqx.rf (by decide)) (by decide)), (by omega), (by omega)⟩, wEn_of hP (hK.sub [] rfl) hD ht hW⟩, hS.F ht⟩) hS.2.2 dX12_signed_111
                  · have tc510 := (show z508.toInt ≠ 0 from ti_ne rfl (by decide) c510)
                    refine lv_iload hx hb dX12_signed_105 (lv_at hl 0 rfl) ?_
                    refine lv_goto (tgt := 111) hx hb dX12_signed_107 (by decide) ?_
                    rw [hQ]
                    exact W.iret (v := z436) hx hb hr (fun t ht hW => ⟨⟨z436, τ498, rfl, ⟨hI500, (eqx.tr hx501 (eqx.tr hx351 eqx.rf (by decide)) (by decide)), (by omega), (by omega)⟩, wEn_of hP (hK.sub [] rfl) hD ht hW⟩, hS.F ht⟩) hS.2.2 dX12_signed_111
                · have tc506 := (show z504.toInt ≠ 0 from ti_ne rfl (by decide) c506)
                  refine lv_aload_n hx hb dX12_signed_94 rfl (lv_at hl 3 rfl) ?_
                  refine zy_v (va_runV (As := []) (rest := []) ⟨hx, hb, hml, hown, hts⟩ (n_next l dC dI h ad cl H.size τ498  hI500) (cwV 0 hts gd_n_signed_228_n_next rfl rfl rfl (by decide +kernel) ⟨Nat.le_of_ble_eq_true rfl, Nat.le_of_ble_eq_true rfl⟩) (preV hP hK hD hE (ci := 12) (q0 := 0) rfl rfl) rfl rfl hl.1 rfl (lv_room (Nat.le_of_ble_eq_true rfl)) dX12_signed_95 ⟨Nat.le_of_ble_eq_true rfl, Nat.le_of_ble_eq_true rfl⟩) hD hS hA (fun τ511 H locs hq hP hD hS => ?_)
                  obtain ⟨hI513, hx514⟩ := hq
                  refine W.widen (k := 0) (n := 0) (Nat.le_of_ble_eq_true rfl) (Nat.le_of_ble_eq_true rfl) ?_
                  refine lv_aload_n hx hb dX12_signed_98 rfl (lv_at hl 3 rfl) ?_
                  refine zy_i (va_runV (As := []) (rest := []) ⟨hx, hb, hml, hown, hts⟩ (n_isGood l dC dI h ad cl H.size τ511  hI513) (cwV 0 hts gd_n_signed_224_n_isGood rfl rfl rfl (by decide +kernel) ⟨Nat.le_of_ble_eq_true rfl, Nat.le_of_ble_eq_true rfl⟩) (preV hP hK hD hE (ci := 12) (q0 := 0) rfl rfl) rfl rfl hl.1 rfl (lv_room (Nat.le_of_ble_eq_true rfl)) dX12_signed_99 ⟨Nat.le_of_ble_eq_true rfl, Nat.le_of_ble_eq_true rfl⟩) hD hS hA (fun z516 τ515 H locs hq hP hD hS => ?_)
                  obtain ⟨rfl, f517⟩ := hq
                  refine W.widen (k := 0) (n := 0) (Nat.le_of_ble_eq_true rfl) (Nat.le_of_ble_eq_true rfl) ?_
                  refine lv_if_eq (tgt := 110) hx hb dX12_signed_102 (by decide) (fun c518 => ?_) (fun c518 => ?_)
                  · have tc518 := (show z516.toInt = 0 from ti_eq rfl (by decide) c518)
                    refine lv_iload_n hx hb dX12_signed_110 rfl (lv_at hl 4 rfl) ?_
                    rw [hQ]
                    exact W.iret (v := a) hx hb hr (fun t ht hW => ⟨⟨a, τ511, rfl, ⟨hI513, (eqx.tr hx514 (eqx.tr hx501 (eqx.tr hx351 eqx.rf (by decide)) (by decide)) (by decide)), (by omega), (by omega)⟩, wEn_of hP (hK.sub [] rfl) hD ht hW⟩, hS.F ht⟩) hS.2.2 dX12_signed_111
                  · have tc518 := (show z516.toInt ≠ 0 from ti_ne rfl (by decide) c518)
                    refine lv_iload hx hb dX12_signed_105 (lv_at hl 0 rfl) ?_
                    refine lv_goto (tgt := 111) hx hb dX12_signed_107 (by decide) ?_
                    rw [hQ]
                    exact W.iret (v := z436) hx hb hr (fun t ht hW => ⟨⟨z436, τ511, rfl, ⟨hI513, (eqx.tr hx514 (eqx.tr hx501 (eqx.tr hx351 eqx.rf (by decide)) (by decide)) (by decide)), (by omega), (by omega)⟩, wEn_of hP (hK.sub [] rfl) hD ht hW⟩, hS.F ht⟩) hS.2.2 dX12_signed_111
      · have tc352 := (show (τ348.1 8).toInt ≠ 4 from ti_ne rfl (by decide) c352)
        refine lv_aload_n hx hb dX12_signed_39 rfl (lv_at hl 2 rfl) ?_
        refine zy_v (va_runV (As := []) (rest := []) ⟨hx, hb, hml, hown, hts⟩ (n_wrong l dC dI h ad cl H.size τ348  hI350) (cwV 0 hts gd_n_signed_231_n_wrong rfl rfl rfl (by decide +kernel) ⟨Nat.le_of_ble_eq_true rfl, Nat.le_of_ble_eq_true rfl⟩) (preV hP hK hD hE (ci := 12) (q0 := 0) rfl rfl) rfl rfl hl.1 rfl (lv_room (Nat.le_of_ble_eq_true rfl)) dX12_signed_40 ⟨Nat.le_of_ble_eq_true rfl, Nat.le_of_ble_eq_true rfl⟩) hD hS hA (fun τ519 H locs hq hP hD hS => ?_)
        obtain ⟨hI521, hx522, f523⟩ := hq
        refine W.widen (k := 0) (n := 0) (Nat.le_of_ble_eq_true rfl) (Nat.le_of_ble_eq_true rfl) ?_
        refine lv_iload hx hb dX12_signed_43 (lv_at hl 0 rfl) ?_
        refine lv_if_eq (tgt := 56) hx hb dX12_signed_45 (by decide) (fun c524 => ?_) (fun c524 => ?_)
        · have tc524 := (show z7.toInt = 0 from ti_eq rfl (by decide) c524)
          refine lv_aload_n hx hb dX12_signed_56 rfl (lv_at hl 2 rfl) ?_
          refine va_get (D := (dC, dI)) (ci := 12) (v := .int (τ519.1 9)) (C := RX12) (T := TX12) (N := 59) hx hb hts hin12 hown hK hP 0 rfl rfl 9 (by decide) (ho (.fieldLink RX12 217 "NearEnoughModel" "number" "I") (List.mem_of_getElem? (i := 2) rfl)) (fun _ h9 => h9) rfl dX12_signed_57 ?_
          refine zi (v := (τ348.1 9)) (hx522 9 (by decide)).1 ?_
          refine lv_istore (lv' := [(5, .int (τ348.1 9)), (4, .int z7), (3, .int (σ.1 6)), (0, .ref h), (1, .int a), (2, .int b)]) hx hb dX12_signed_60 hl (by decide) rfl (fun ls hl => ?_)
          refine lv_aload_n hx hb dX12_signed_62 rfl (lv_at hl 3 rfl) ?_
          refine zy_i (va_runV (As := []) (rest := []) ⟨hx, hb, hml, hown, hts⟩ (n_isGood l dC dI h ad cl H.size τ519  hI521) (cwV 0 hts gd_n_signed_224_n_isGood rfl rfl rfl (by decide +kernel) ⟨Nat.le_of_ble_eq_true rfl, Nat.le_of_ble_eq_true rfl⟩) (preV hP hK hD hE (ci := 12) (q0 := 0) rfl rfl) rfl rfl hl.1 rfl (lv_room (Nat.le_of_ble_eq_true rfl)) dX12_signed_63 ⟨Nat.le_of_ble_eq_true rfl, Nat.le_of_ble_eq_true rfl⟩) hD hS hA (fun z526 τ525 H locs hq hP hD hS => ?_)
          obtain ⟨rfl, f527⟩ := hq
          refine W.widen (k := 0) (n := 0) (Nat.le_of_ble_eq_true rfl) (Nat.le_of_ble_eq_true rfl) ?_
          refine lv_if_eq (tgt := 87) hx hb dX12_signed_66 (by decide) (fun c528 => ?_) (fun c528 => ?_)
          · have tc528 := (show z526.toInt = 0 from ti_eq rfl (by decide) c528)
            refine lv_aload_n hx hb dX12_signed_87 rfl (lv_at hl 3 rfl) ?_
            refine zy_i (va_runV (As := []) (rest := []) ⟨hx, hb, hml, hown, hts⟩ (n_isGood l dC dI h ad cl H.size τ519  hI521) (cwV 0 hts gd_n_signed_224_n_isGood rfl rfl rfl (by decide +kernel) ⟨Nat.le_of_ble_eq_true rfl, Nat.le_of_ble_eq_true rfl⟩) (preV hP hK hD hE (ci := 12) (q0 := 0) rfl rfl) rfl rfl hl.1 rfl (lv_room (Nat.le_of_ble_eq_true rfl)) dX12_signed_88 ⟨Nat.le_of_ble_eq_true rfl, Nat.le_of_ble_eq_true rfl⟩) hD hS hA (fun z530 τ529 H locs hq hP hD hS => ?_)
            obtain ⟨rfl, f531⟩ := hq
            refine W.widen (k := 0) (n := 0) (Nat.le_of_ble_eq_true rfl) (Nat.le_of_ble_eq_true rfl) ?_
            refine lv_if_eq (tgt := 98) hx hb dX12_signed_91 (by decide) (fun c532 => ?_) (fun c532 => ?_)
            · have tc532 := (show z530.toInt = 0 from ti_eq rfl (by decide) c532)
              refine lv_aload_n hx hb dX12_signed_98 rfl (lv_at hl 3 rfl) ?_
              refine zy_i (va_runV (As := []) (rest := []) ⟨hx, hb, hml, hown, hts⟩ (n_isGood l dC dI h ad cl H.size τ519  hI521) (cwV 0 hts gd_n_signed_224_n_isGood rfl rfl rfl (by decide +kernel) ⟨Nat.le_of_ble_eq_true rfl, Nat.le_of_ble_eq_true rfl⟩) (preV hP hK hD hE (ci := 12) (q0 := 0) rfl rfl) rfl rfl hl.1 rfl (lv_room (Nat.le_of_ble_eq_true rfl)) dX12_signed_99 ⟨Nat.le_of_ble_eq_true rfl, Nat.le_of_ble_eq_true rfl⟩) hD hS hA (fun z534 τ533 H locs hq hP hD hS => ?_)
              obtain ⟨rfl, f535⟩ := hq
              refine W.widen (k := 0) (n := 0) (Nat.le_of_ble_eq_true rfl) (Nat.le_of_ble_eq_true rfl) ?_
              refine lv_if_eq (tgt := 110) hx hb dX12_signed_102 (by decide) (fun c536 => ?_) (fun c536 => ?_)
              · have tc536 := (show z534.toInt = 0 from ti_eq rfl (by decide) c536)
                refine lv_iload_n hx hb dX12_signed_110 rfl (lv_at hl 4 rfl) ?_
                rw [hQ]
                exact W.iret (v := a) hx hb hr (fun t ht hW => ⟨⟨a, τ519, rfl, ⟨hI521, (eqx.tr hx522 (eqx.tr hx351 eqx.rf (by decide)) (by decide)), (by omega), (by omega)⟩, wEn_of hP (hK.sub [] rfl) hD ht hW⟩, hS.F ht⟩) hS.2.2 dX12_signed_111
              · have tc536 := (show z534.toInt ≠ 0 from ti_ne rfl (by decide) c536)
                refine lv_iload hx hb dX12_signed_105 (lv_at hl 0 rfl) ?_
                refine lv_goto (tgt := 111) hx hb dX12_signed_107 (by decide) ?_
                rw [hQ]
                exact W.iret (v := (τ348.1 9)) hx hb hr (fun t ht hW => ⟨⟨(τ348.1 9), τ519, rfl, ⟨hI521, (eqx.tr hx522 (eqx.tr hx351 eqx.rf (by decide)) (by decide)), (by omega), (by omega)⟩, wEn_of hP (hK.sub [] rfl) hD ht hW⟩, hS.F ht⟩) hS.2.2 dX12_signed_111
            · have tc532 := (show z530.toInt ≠ 0 from ti_ne rfl (by decide) c532)
              refine lv_aload_n hx hb dX12_signed_94 rfl (lv_at hl 3 rfl) ?_
              refine zy_v (va_runV (As := []) (rest := []) ⟨hx, hb, hml, hown, hts⟩ (n_next l dC dI h ad cl H.size τ519  hI521) (cwV 0 hts gd_n_signed_228_n_next rfl rfl rfl (by decide +kernel) ⟨Nat.le_of_ble_eq_true rfl, Nat.le_of_ble_eq_true rfl⟩) (preV hP hK hD hE (ci := 12) (q0 := 0) rfl rfl) rfl rfl hl.1 rfl (lv_room (Nat.le_of_ble_eq_true rfl)) dX12_signed_95 ⟨Nat.le_of_ble_eq_true rfl, Nat.le_of_ble_eq_true rfl⟩) hD hS hA (fun τ537 H locs hq hP hD hS => ?_)
              obtain ⟨hI539, hx540⟩ := hq
              refine W.widen (k := 0) (n := 0) (Nat.le_of_ble_eq_true rfl) (Nat.le_of_ble_eq_true rfl) ?_
              refine lv_aload_n hx hb dX12_signed_98 rfl (lv_at hl 3 rfl) ?_
              refine zy_i (va_runV (As := []) (rest := []) ⟨hx, hb, hml, hown, hts⟩ (n_isGood l dC dI h ad cl H.size τ537  hI539) (cwV 0 hts gd_n_signed_224_n_isGood rfl rfl rfl (by decide +kernel) ⟨Nat.le_of_ble_eq_true rfl, Nat.le_of_ble_eq_true rfl⟩) (preV hP hK hD hE (ci := 12) (q0 := 0) rfl rfl) rfl rfl hl.1 rfl (lv_room (Nat.le_of_ble_eq_true rfl)) dX12_signed_99 ⟨Nat.le_of_ble_eq_true rfl, Nat.le_of_ble_eq_true rfl⟩) hD hS hA (fun z542 τ541 H locs hq hP hD hS => ?_)
              obtain ⟨rfl, f543⟩ := hq
              refine W.widen (k := 0) (n := 0) (Nat.le_of_ble_eq_true rfl) (Nat.le_of_ble_eq_true rfl) ?_
              refine lv_if_eq (tgt := 110) hx hb dX12_signed_102 (by decide) (fun c544 => ?_) (fun c544 => ?_)
              · have tc544 := (show z542.toInt = 0 from ti_eq rfl (by decide) c544)
                refine lv_iload_n hx hb dX12_signed_110 rfl (lv_at hl 4 rfl) ?_
                rw [hQ]
                exact W.iret (v := a) hx hb hr (fun t ht hW => ⟨⟨a, τ537, rfl, ⟨hI539, (eqx.tr hx540 (eqx.tr hx522 (eqx.tr hx351 eqx.rf (by decide)) (by decide)) (by decide)), (by omega), (by omega)⟩, wEn_of hP (hK.sub [] rfl) hD ht hW⟩, hS.F ht⟩) hS.2.2 dX12_signed_111
              · have tc544 := (show z542.toInt ≠ 0 from ti_ne rfl (by decide) c544)
                refine lv_iload hx hb dX12_signed_105 (lv_at hl 0 rfl) ?_
                refine lv_goto (tgt := 111) hx hb dX12_signed_107 (by decide) ?_
                rw [hQ]
                exact W.iret (v := (τ348.1 9)) hx hb hr (fun t ht hW => ⟨⟨(τ348.1 9), τ537, rfl, ⟨hI539, (eqx.tr hx540 (eqx.tr hx522 (eqx.tr hx351 eqx.rf (by decide)) (by decide)) (by decide)), (by omega), (by omega)⟩, wEn_of hP (hK.sub [] rfl) hD ht hW⟩, hS.F ht⟩) hS.2.2 dX12_signed_111
          · have tc528 := (show z526.toInt ≠ 0 from ti_ne rfl (by decide) c528)
            refine lv_iload hx hb dX12_signed_69 (lv_at hl 0 rfl) ?_
            refine lv_iload_n hx hb dX12_signed_71 rfl (lv_at hl 4 rfl) ?_
            refine lv_icmp_lt (tgt := 81) hx hb dX12_signed_72 (by decide) (fun c545 => ?_) (fun c545 => ?_)
            · have tc545 := (show (τ348.1 9).toInt < a.toInt from ti_lt rfl rfl c545)
              refine lv_aload_n hx hb dX12_signed_81 rfl (lv_at hl 3 rfl) ?_
              refine lv_iconst (v := 4) hx hb dX12_signed_82 (by decide) ?_
              refine lv_iload_n hx hb dX12_signed_83 rfl (lv_at hl 2 rfl) ?_
              have kk546 : (4 : Int32).toInt = 4 := by decide
              refine zy_v (va_runV (As := [.int 4, .int (σ.1 6)]) (rest := []) ⟨hx, hb, hml, hown, hts⟩ (n_fails l dC dI h ad cl H.size τ519 4 (σ.1 6) hI521 (by omega)) (cwV 2 hts gd_n_signed_220_n_fails rfl rfl rfl (by decide +kernel) ⟨Nat.le_of_ble_eq_true rfl, Nat.le_of_ble_eq_true rfl⟩) (preV hP hK hD hE (ci := 12) (q0 := 0) rfl rfl) rfl rfl hl.1 rfl (lv_room (Nat.le_of_ble_eq_true rfl)) dX12_signed_84 ⟨Nat.le_of_ble_eq_true rfl, Nat.le_of_ble_eq_true rfl⟩) hD hS hA (fun τ547 H locs hq hP hD hS => ?_)
              obtain ⟨hI549, hx550, f551⟩ := hq
              refine W.widen (k := 0) (n := 0) (Nat.le_of_ble_eq_true rfl) (Nat.le_of_ble_eq_true rfl) ?_
              refine lv_aload_n hx hb dX12_signed_87 rfl (lv_at hl 3 rfl) ?_
              refine zy_i (va_runV (As := []) (rest := []) ⟨hx, hb, hml, hown, hts⟩ (n_isGood l dC dI h ad cl H.size τ547  hI549) (cwV 0 hts gd_n_signed_224_n_isGood rfl rfl rfl (by decide +kernel) ⟨Nat.le_of_ble_eq_true rfl, Nat.le_of_ble_eq_true rfl⟩) (preV hP hK hD hE (ci := 12) (q0 := 0) rfl rfl) rfl rfl hl.1 rfl (lv_room (Nat.le_of_ble_eq_true rfl)) dX12_signed_88 ⟨Nat.le_of_ble_eq_true rfl, Nat.le_of_ble_eq_true rfl⟩) hD hS hA (fun z553 τ552 H locs hq hP hD hS => ?_)
              obtain ⟨rfl, f554⟩ := hq
              refine W.widen (k := 0) (n := 0) (Nat.le_of_ble_eq_true rfl) (Nat.le_of_ble_eq_true rfl) ?_
              refine lv_if_eq (tgt := 98) hx hb dX12_signed_91 (by decide) (fun c555 => ?_) (fun c555 => ?_)
              · have tc555 := (show z553.toInt = 0 from ti_eq rfl (by decide) c555)
                refine lv_aload_n hx hb dX12_signed_98 rfl (lv_at hl 3 rfl) ?_
                refine zy_i (va_runV (As := []) (rest := []) ⟨hx, hb, hml, hown, hts⟩ (n_isGood l dC dI h ad cl H.size τ547  hI549) (cwV 0 hts gd_n_signed_224_n_isGood rfl rfl rfl (by decide +kernel) ⟨Nat.le_of_ble_eq_true rfl, Nat.le_of_ble_eq_true rfl⟩) (preV hP hK hD hE (ci := 12) (q0 := 0) rfl rfl) rfl rfl hl.1 rfl (lv_room (Nat.le_of_ble_eq_true rfl)) dX12_signed_99 ⟨Nat.le_of_ble_eq_true rfl, Nat.le_of_ble_eq_true rfl⟩) hD hS hA (fun z557 τ556 H locs hq hP hD hS => ?_)
                obtain ⟨rfl, f558⟩ := hq
                refine W.widen (k := 0) (n := 0) (Nat.le_of_ble_eq_true rfl) (Nat.le_of_ble_eq_true rfl) ?_
                refine lv_if_eq (tgt := 110) hx hb dX12_signed_102 (by decide) (fun c559 => ?_) (fun c559 => ?_)
                · have tc559 := (show z557.toInt = 0 from ti_eq rfl (by decide) c559)
                  refine lv_iload_n hx hb dX12_signed_110 rfl (lv_at hl 4 rfl) ?_
                  rw [hQ]
                  exact W.iret (v := a) hx hb hr (fun t ht hW => ⟨⟨a, τ547, rfl, ⟨hI549, (eqx.tr hx550 (eqx.tr hx522 (eqx.tr hx351 eqx.rf (by decide)) (by decide)) (by decide)), (by omega), (by omega)⟩, wEn_of hP (hK.sub [] rfl) hD ht hW⟩, hS.F ht⟩) hS.2.2 dX12_signed_111
                · have tc559 := (show z557.toInt ≠ 0 from ti_ne rfl (by decide) c559)
                  refine lv_iload hx hb dX12_signed_105 (lv_at hl 0 rfl) ?_
                  refine lv_goto (tgt := 111) hx hb dX12_signed_107 (by decide) ?_
                  rw [hQ]
                  exact W.iret (v := (τ348.1 9)) hx hb hr (fun t ht hW => ⟨⟨(τ348.1 9), τ547, rfl, ⟨hI549, (eqx.tr hx550 (eqx.tr hx522 (eqx.tr hx351 eqx.rf (by decide)) (by decide)) (by decide)), (by omega), (by omega)⟩, wEn_of hP (hK.sub [] rfl) hD ht hW⟩, hS.F ht⟩) hS.2.2 dX12_signed_111
              · have tc555 := (show z553.toInt ≠ 0 from ti_ne rfl (by decide) c555)
                refine lv_aload_n hx hb dX12_signed_94 rfl (lv_at hl 3 rfl) ?_
                refine zy_v (va_runV (As := []) (rest := []) ⟨hx, hb, hml, hown, hts⟩ (n_next l dC dI h ad cl H.size τ547  hI549) (cwV 0 hts gd_n_signed_228_n_next rfl rfl rfl (by decide +kernel) ⟨Nat.le_of_ble_eq_true rfl, Nat.le_of_ble_eq_true rfl⟩) (preV hP hK hD hE (ci := 12) (q0 := 0) rfl rfl) rfl rfl hl.1 rfl (lv_room (Nat.le_of_ble_eq_true rfl)) dX12_signed_95 ⟨Nat.le_of_ble_eq_true rfl, Nat.le_of_ble_eq_true rfl⟩) hD hS hA (fun τ560 H locs hq hP hD hS => ?_)
                obtain ⟨hI562, hx563⟩ := hq
                refine W.widen (k := 0) (n := 0) (Nat.le_of_ble_eq_true rfl) (Nat.le_of_ble_eq_true rfl) ?_
                refine lv_aload_n hx hb dX12_signed_98 rfl (lv_at hl 3 rfl) ?_
                refine zy_i (va_runV (As := []) (rest := []) ⟨hx, hb, hml, hown, hts⟩ (n_isGood l dC dI h ad cl H.size τ560  hI562) (cwV 0 hts gd_n_signed_224_n_isGood rfl rfl rfl (by decide +kernel) ⟨Nat.le_of_ble_eq_true rfl, Nat.le_of_ble_eq_true rfl⟩) (preV hP hK hD hE (ci := 12) (q0 := 0) rfl rfl) rfl rfl hl.1 rfl (lv_room (Nat.le_of_ble_eq_true rfl)) dX12_signed_99 ⟨Nat.le_of_ble_eq_true rfl, Nat.le_of_ble_eq_true rfl⟩) hD hS hA (fun z565 τ564 H locs hq hP hD hS => ?_)
                obtain ⟨rfl, f566⟩ := hq
                refine W.widen (k := 0) (n := 0) (Nat.le_of_ble_eq_true rfl) (Nat.le_of_ble_eq_true rfl) ?_
                refine lv_if_eq (tgt := 110) hx hb dX12_signed_102 (by decide) (fun c567 => ?_) (fun c567 => ?_)
                · have tc567 := (show z565.toInt = 0 from ti_eq rfl (by decide) c567)
                  refine lv_iload_n hx hb dX12_signed_110 rfl (lv_at hl 4 rfl) ?_
                  rw [hQ]
                  exact W.iret (v := a) hx hb hr (fun t ht hW => ⟨⟨a, τ560, rfl, ⟨hI562, (eqx.tr hx563 (eqx.tr hx550 (eqx.tr hx522 (eqx.tr hx351 eqx.rf (by decide)) (by decide)) (by decide)) (by decide)), (by omega), (by omega)⟩, wEn_of hP (hK.sub [] rfl) hD ht hW⟩, hS.F ht⟩) hS.2.2 dX12_signed_111
                · have tc567 := (show z565.toInt ≠ 0 from ti_ne rfl (by decide) c567)
                  refine lv_iload hx hb dX12_signed_105 (lv_at hl 0 rfl) ?_
                  refine lv_goto (tgt := 111) hx hb dX12_signed_107 (by decide) ?_
                  rw [hQ]
                  exact W.iret (v := (τ348.1 9)) hx hb hr (fun t ht hW => ⟨⟨(τ348.1 9), τ560, rfl, ⟨hI562, (eqx.tr hx563 (eqx.tr hx550 (eqx.tr hx522 (eqx.tr hx351 eqx.rf (by decide)) (by decide)) (by decide)) (by decide)), (by omega), (by omega)⟩, wEn_of hP (hK.sub [] rfl) hD ht hW⟩, hS.F ht⟩) hS.2.2 dX12_signed_111
            · have tc545 := (show a.toInt ≤ (τ348.1 9).toInt from ti_nlt rfl rfl c545)
              refine lv_iload hx hb dX12_signed_75 (lv_at hl 0 rfl) ?_
              refine lv_iload_n hx hb dX12_signed_77 rfl (lv_at hl 5 rfl) ?_
              refine lv_icmp_le (tgt := 87) hx hb dX12_signed_78 (by decide) (fun c568 => ?_) (fun c568 => ?_)
              · have tc568 := (show (τ348.1 9).toInt ≤ b.toInt from ti_le rfl rfl c568)
                refine lv_aload_n hx hb dX12_signed_87 rfl (lv_at hl 3 rfl) ?_
                refine zy_i (va_runV (As := []) (rest := []) ⟨hx, hb, hml, hown, hts⟩ (n_isGood l dC dI h ad cl H.size τ519  hI521) (cwV 0 hts gd_n_signed_224_n_isGood rfl rfl rfl (by decide +kernel) ⟨Nat.le_of_ble_eq_true rfl, Nat.le_of_ble_eq_true rfl⟩) (preV hP hK hD hE (ci := 12) (q0 := 0) rfl rfl) rfl rfl hl.1 rfl (lv_room (Nat.le_of_ble_eq_true rfl)) dX12_signed_88 ⟨Nat.le_of_ble_eq_true rfl, Nat.le_of_ble_eq_true rfl⟩) hD hS hA (fun z570 τ569 H locs hq hP hD hS => ?_)
                obtain ⟨rfl, f571⟩ := hq
                refine W.widen (k := 0) (n := 0) (Nat.le_of_ble_eq_true rfl) (Nat.le_of_ble_eq_true rfl) ?_
                refine lv_if_eq (tgt := 98) hx hb dX12_signed_91 (by decide) (fun c572 => ?_) (fun c572 => ?_)
                · have tc572 := (show z570.toInt = 0 from ti_eq rfl (by decide) c572)
                  refine lv_aload_n hx hb dX12_signed_98 rfl (lv_at hl 3 rfl) ?_
                  refine zy_i (va_runV (As := []) (rest := []) ⟨hx, hb, hml, hown, hts⟩ (n_isGood l dC dI h ad cl H.size τ519  hI521) (cwV 0 hts gd_n_signed_224_n_isGood rfl rfl rfl (by decide +kernel) ⟨Nat.le_of_ble_eq_true rfl, Nat.le_of_ble_eq_true rfl⟩) (preV hP hK hD hE (ci := 12) (q0 := 0) rfl rfl) rfl rfl hl.1 rfl (lv_room (Nat.le_of_ble_eq_true rfl)) dX12_signed_99 ⟨Nat.le_of_ble_eq_true rfl, Nat.le_of_ble_eq_true rfl⟩) hD hS hA (fun z574 τ573 H locs hq hP hD hS => ?_)
                  obtain ⟨rfl, f575⟩ := hq
                  refine W.widen (k := 0) (n := 0) (Nat.le_of_ble_eq_true rfl) (Nat.le_of_ble_eq_true rfl) ?_
                  refine lv_if_eq (tgt := 110) hx hb dX12_signed_102 (by decide) (fun c576 => ?_) (fun c576 => ?_)
                  · have tc576 := (show z574.toInt = 0 from ti_eq rfl (by decide) c576)
                    refine lv_iload_n hx hb dX12_signed_110 rfl (lv_at hl 4 rfl) ?_
                    rw [hQ]
                    exact W.iret (v := a) hx hb hr (fun t ht hW => ⟨⟨a, τ519, rfl, ⟨hI521, (eqx.tr hx522 (eqx.tr hx351 eqx.rf (by decide)) (by decide)), (by omega), (by omega)⟩, wEn_of hP (hK.sub [] rfl) hD ht hW⟩, hS.F ht⟩) hS.2.2 dX12_signed_111
                  · have tc576 := (show z574.toInt ≠ 0 from ti_ne rfl (by decide) c576)
                    refine lv_iload hx hb dX12_signed_105 (lv_at hl 0 rfl) ?_
                    refine lv_goto (tgt := 111) hx hb dX12_signed_107 (by decide) ?_
                    rw [hQ]
                    exact W.iret (v := (τ348.1 9)) hx hb hr (fun t ht hW => ⟨⟨(τ348.1 9), τ519, rfl, ⟨hI521, (eqx.tr hx522 (eqx.tr hx351 eqx.rf (by decide)) (by decide)), (by omega), (by omega)⟩, wEn_of hP (hK.sub [] rfl) hD ht hW⟩, hS.F ht⟩) hS.2.2 dX12_signed_111
                · have tc572 := (show z570.toInt ≠ 0 from ti_ne rfl (by decide) c572)
                  refine lv_aload_n hx hb dX12_signed_94 rfl (lv_at hl 3 rfl) ?_
                  refine zy_v (va_runV (As := []) (rest := []) ⟨hx, hb, hml, hown, hts⟩ (n_next l dC dI h ad cl H.size τ519  hI521) (cwV 0 hts gd_n_signed_228_n_next rfl rfl rfl (by decide +kernel) ⟨Nat.le_of_ble_eq_true rfl, Nat.le_of_ble_eq_true rfl⟩) (preV hP hK hD hE (ci := 12) (q0 := 0) rfl rfl) rfl rfl hl.1 rfl (lv_room (Nat.le_of_ble_eq_true rfl)) dX12_signed_95 ⟨Nat.le_of_ble_eq_true rfl, Nat.le_of_ble_eq_true rfl⟩) hD hS hA (fun τ577 H locs hq hP hD hS => ?_)
                  obtain ⟨hI579, hx580⟩ := hq
                  refine W.widen (k := 0) (n := 0) (Nat.le_of_ble_eq_true rfl) (Nat.le_of_ble_eq_true rfl) ?_
                  refine lv_aload_n hx hb dX12_signed_98 rfl (lv_at hl 3 rfl) ?_
                  refine zy_i (va_runV (As := []) (rest := []) ⟨hx, hb, hml, hown, hts⟩ (n_isGood l dC dI h ad cl H.size τ577  hI579) (cwV 0 hts gd_n_signed_224_n_isGood rfl rfl rfl (by decide +kernel) ⟨Nat.le_of_ble_eq_true rfl, Nat.le_of_ble_eq_true rfl⟩) (preV hP hK hD hE (ci := 12) (q0 := 0) rfl rfl) rfl rfl hl.1 rfl (lv_room (Nat.le_of_ble_eq_true rfl)) dX12_signed_99 ⟨Nat.le_of_ble_eq_true rfl, Nat.le_of_ble_eq_true rfl⟩) hD hS hA (fun z582 τ581 H locs hq hP hD hS => ?_)
                  obtain ⟨rfl, f583⟩ := hq
                  refine W.widen (k := 0) (n := 0) (Nat.le_of_ble_eq_true rfl) (Nat.le_of_ble_eq_true rfl) ?_
                  refine lv_if_eq (tgt := 110) hx hb dX12_signed_102 (by decide) (fun c584 => ?_) (fun c584 => ?_)
                  · have tc584 := (show z582.toInt = 0 from ti_eq rfl (by decide) c584)
                    refine lv_iload_n hx hb dX12_signed_110 rfl (lv_at hl 4 rfl) ?_
                    rw [hQ]
                    exact W.iret (v := a) hx hb hr (fun t ht hW => ⟨⟨a, τ577, rfl, ⟨hI579, (eqx.tr hx580 (eqx.tr hx522 (eqx.tr hx351 eqx.rf (by decide)) (by decide)) (by decide)), (by omega), (by omega)⟩, wEn_of hP (hK.sub [] rfl) hD ht hW⟩, hS.F ht⟩) hS.2.2 dX12_signed_111
                  · have tc584 := (show z582.toInt ≠ 0 from ti_ne rfl (by decide) c584)
                    refine lv_iload hx hb dX12_signed_105 (lv_at hl 0 rfl) ?_
                    refine lv_goto (tgt := 111) hx hb dX12_signed_107 (by decide) ?_
                    rw [hQ]
                    exact W.iret (v := (τ348.1 9)) hx hb hr (fun t ht hW => ⟨⟨(τ348.1 9), τ577, rfl, ⟨hI579, (eqx.tr hx580 (eqx.tr hx522 (eqx.tr hx351 eqx.rf (by decide)) (by decide)) (by decide)), (by omega), (by omega)⟩, wEn_of hP (hK.sub [] rfl) hD ht hW⟩, hS.F ht⟩) hS.2.2 dX12_signed_111
              · have tc568 := (show b.toInt < (τ348.1 9).toInt from ti_nle rfl rfl c568)
                refine lv_aload_n hx hb dX12_signed_81 rfl (lv_at hl 3 rfl) ?_
                refine lv_iconst (v := 4) hx hb dX12_signed_82 (by decide) ?_
                refine lv_iload_n hx hb dX12_signed_83 rfl (lv_at hl 2 rfl) ?_
                have kk585 : (4 : Int32).toInt = 4 := by decide
                refine zy_v (va_runV (As := [.int 4, .int (σ.1 6)]) (rest := []) ⟨hx, hb, hml, hown, hts⟩ (n_fails l dC dI h ad cl H.size τ519 4 (σ.1 6) hI521 (by omega)) (cwV 2 hts gd_n_signed_220_n_fails rfl rfl rfl (by decide +kernel) ⟨Nat.le_of_ble_eq_true rfl, Nat.le_of_ble_eq_true rfl⟩) (preV hP hK hD hE (ci := 12) (q0 := 0) rfl rfl) rfl rfl hl.1 rfl (lv_room (Nat.le_of_ble_eq_true rfl)) dX12_signed_84 ⟨Nat.le_of_ble_eq_true rfl, Nat.le_of_ble_eq_true rfl⟩) hD hS hA (fun τ586 H locs hq hP hD hS => ?_)
                obtain ⟨hI588, hx589, f590⟩ := hq
                refine W.widen (k := 0) (n := 0) (Nat.le_of_ble_eq_true rfl) (Nat.le_of_ble_eq_true rfl) ?_
                refine lv_aload_n hx hb dX12_signed_87 rfl (lv_at hl 3 rfl) ?_
                refine zy_i (va_runV (As := []) (rest := []) ⟨hx, hb, hml, hown, hts⟩ (n_isGood l dC dI h ad cl H.size τ586  hI588) (cwV 0 hts gd_n_signed_224_n_isGood rfl rfl rfl (by decide +kernel) ⟨Nat.le_of_ble_eq_true rfl, Nat.le_of_ble_eq_true rfl⟩) (preV hP hK hD hE (ci := 12) (q0 := 0) rfl rfl) rfl rfl hl.1 rfl (lv_room (Nat.le_of_ble_eq_true rfl)) dX12_signed_88 ⟨Nat.le_of_ble_eq_true rfl, Nat.le_of_ble_eq_true rfl⟩) hD hS hA (fun z592 τ591 H locs hq hP hD hS => ?_)
                obtain ⟨rfl, f593⟩ := hq
                refine W.widen (k := 0) (n := 0) (Nat.le_of_ble_eq_true rfl) (Nat.le_of_ble_eq_true rfl) ?_
                refine lv_if_eq (tgt := 98) hx hb dX12_signed_91 (by decide) (fun c594 => ?_) (fun c594 => ?_)
                · have tc594 := (show z592.toInt = 0 from ti_eq rfl (by decide) c594)
                  refine lv_aload_n hx hb dX12_signed_98 rfl (lv_at hl 3 rfl) ?_
                  refine zy_i (va_runV (As := []) (rest := []) ⟨hx, hb, hml, hown, hts⟩ (n_isGood l dC dI h ad cl H.size τ586  hI588) (cwV 0 hts gd_n_signed_224_n_isGood rfl rfl rfl (by decide +kernel) ⟨Nat.le_of_ble_eq_true rfl, Nat.le_of_ble_eq_true rfl⟩) (preV hP hK hD hE (ci := 12) (q0 := 0) rfl rfl) rfl rfl hl.1 rfl (lv_room (Nat.le_of_ble_eq_true rfl)) dX12_signed_99 ⟨Nat.le_of_ble_eq_true rfl, Nat.le_of_ble_eq_true rfl⟩) hD hS hA (fun z596 τ595 H locs hq hP hD hS => ?_)
                  obtain ⟨rfl, f597⟩ := hq
                  refine W.widen (k := 0) (n := 0) (Nat.le_of_ble_eq_true rfl) (Nat.le_of_ble_eq_true rfl) ?_
                  refine lv_if_eq (tgt := 110) hx hb dX12_signed_102 (by decide) (fun c598 => ?_) (fun c598 => ?_)
                  · have tc598 := (show z596.toInt = 0 from ti_eq rfl (by decide) c598)
                    refine lv_iload_n hx hb dX12_signed_110 rfl (lv_at hl 4 rfl) ?_
                    rw [hQ]
                    exact W.iret (v := a) hx hb hr (fun t ht hW => ⟨⟨a, τ586, rfl, ⟨hI588, (eqx.tr hx589 (eqx.tr hx522 (eqx.tr hx351 eqx.rf (by decide)) (by decide)) (by decide)), (by omega), (by omega)⟩, wEn_of hP (hK.sub [] rfl) hD ht hW⟩, hS.F ht⟩) hS.2.2 dX12_signed_111
                  · have tc598 := (show z596.toInt ≠ 0 from ti_ne rfl (by decide) c598)
                    refine lv_iload hx hb dX12_signed_105 (lv_at hl 0 rfl) ?_
                    refine lv_goto (tgt := 111) hx hb dX12_signed_107 (by decide) ?_
                    rw [hQ]
                    exact W.iret (v := (τ348.1 9)) hx hb hr (fun t ht hW => ⟨⟨(τ348.1 9), τ586, rfl, ⟨hI588, (eqx.tr hx589 (eqx.tr hx522 (eqx.tr hx351 eqx.rf (by decide)) (by decide)) (by decide)), (by omega), (by omega)⟩, wEn_of hP (hK.sub [] rfl) hD ht hW⟩, hS.F ht⟩) hS.2.2 dX12_signed_111
                · have tc594 := (show z592.toInt ≠ 0 from ti_ne rfl (by decide) c594)
                  refine lv_aload_n hx hb dX12_signed_94 rfl (lv_at hl 3 rfl) ?_
                  refine zy_v (va_runV (As := []) (rest := []) ⟨hx, hb, hml, hown, hts⟩ (n_next l dC dI h ad cl H.size τ586  hI588) (cwV 0 hts gd_n_signed_228_n_next rfl rfl rfl (by decide +kernel) ⟨Nat.le_of_ble_eq_true rfl, Nat.le_of_ble_eq_true rfl⟩) (preV hP hK hD hE (ci := 12) (q0 := 0) rfl rfl) rfl rfl hl.1 rfl (lv_room (Nat.le_of_ble_eq_true rfl)) dX12_signed_95 ⟨Nat.le_of_ble_eq_true rfl, Nat.le_of_ble_eq_true rfl⟩) hD hS hA (fun τ599 H locs hq hP hD hS => ?_)
                  obtain ⟨hI601, hx602⟩ := hq
                  refine W.widen (k := 0) (n := 0) (Nat.le_of_ble_eq_true rfl) (Nat.le_of_ble_eq_true rfl) ?_
                  refine lv_aload_n hx hb dX12_signed_98 rfl (lv_at hl 3 rfl) ?_
                  refine zy_i (va_runV (As := []) (rest := []) ⟨hx, hb, hml, hown, hts⟩ (n_isGood l dC dI h ad cl H.size τ599  hI601) (cwV 0 hts gd_n_signed_224_n_isGood rfl rfl rfl (by decide +kernel) ⟨Nat.le_of_ble_eq_true rfl, Nat.le_of_ble_eq_true rfl⟩) (preV hP hK hD hE (ci := 12) (q0 := 0) rfl rfl) rfl rfl hl.1 rfl (lv_room (Nat.le_of_ble_eq_true rfl)) dX12_signed_99 ⟨Nat.le_of_ble_eq_true rfl, Nat.le_of_ble_eq_true rfl⟩) hD hS hA (fun z604 τ603 H locs hq hP hD hS => ?_)
                  obtain ⟨rfl, f605⟩ := hq
                  refine W.widen (k := 0) (n := 0) (Nat.le_of_ble_eq_true rfl) (Nat.le_of_ble_eq_true rfl) ?_
                  refine lv_if_eq (tgt := 110) hx hb dX12_signed_102 (by decide) (fun c606 => ?_) (fun c606 => ?_)
                  · have tc606 := (show z604.toInt = 0 from ti_eq rfl (by decide) c606)
                    refine lv_iload_n hx hb dX12_signed_110 rfl (lv_at hl 4 rfl) ?_
                    rw [hQ]
                    exact W.iret (v := a) hx hb hr (fun t ht hW => ⟨⟨a, τ599, rfl, ⟨hI601, (eqx.tr hx602 (eqx.tr hx589 (eqx.tr hx522 (eqx.tr hx351 eqx.rf (by decide)) (by decide)) (by decide)) (by decide)), (by omega), (by omega)⟩, wEn_of hP (hK.sub [] rfl) hD ht hW⟩, hS.F ht⟩) hS.2.2 dX12_signed_111
                  · have tc606 := (show z604.toInt ≠ 0 from ti_ne rfl (by decide) c606)
                    refine lv_iload hx hb dX12_signed_105 (lv_at hl 0 rfl) ?_
                    refine lv_goto (tgt := 111) hx hb dX12_signed_107 (by decide) ?_
                    rw [hQ]
                    exact W.iret (v := (τ348.1 9)) hx hb hr (fun t ht hW => ⟨⟨(τ348.1 9), τ599, rfl, ⟨hI601, (eqx.tr hx602 (eqx.tr hx589 (eqx.tr hx522 (eqx.tr hx351 eqx.rf (by decide)) (by decide)) (by decide)) (by decide)), (by omega), (by omega)⟩, wEn_of hP (hK.sub [] rfl) hD ht hW⟩, hS.F ht⟩) hS.2.2 dX12_signed_111
        · have tc524 := (show z7.toInt ≠ 0 from ti_ne rfl (by decide) c524)
          refine lv_aload_n hx hb dX12_signed_48 rfl (lv_at hl 2 rfl) ?_
          refine va_get (D := (dC, dI)) (ci := 12) (v := .int (τ519.1 9)) (C := RX12) (T := TX12) (N := 59) hx hb hts hin12 hown hK hP 0 rfl rfl 9 (by decide) (ho (.fieldLink RX12 217 "NearEnoughModel" "number" "I") (List.mem_of_getElem? (i := 2) rfl)) (fun _ h9 => h9) rfl dX12_signed_49 ?_
          refine zi (v := (τ348.1 9)) (hx522 9 (by decide)).1 ?_
          refine lv_ineg hx hb dX12_signed_52 ?_
          refine lv_topi (fun z607 ez607 => ?_)
          refine lv_goto (tgt := 60) hx hb dX12_signed_53 (by decide) ?_
          refine lv_istore (lv' := [(5, .int z607), (4, .int z7), (3, .int (σ.1 6)), (0, .ref h), (1, .int a), (2, .int b)]) hx hb dX12_signed_60 hl (by decide) rfl (fun ls hl => ?_)
          refine lv_aload_n hx hb dX12_signed_62 rfl (lv_at hl 3 rfl) ?_
          refine zy_i (va_runV (As := []) (rest := []) ⟨hx, hb, hml, hown, hts⟩ (n_isGood l dC dI h ad cl H.size τ519  hI521) (cwV 0 hts gd_n_signed_224_n_isGood rfl rfl rfl (by decide +kernel) ⟨Nat.le_of_ble_eq_true rfl, Nat.le_of_ble_eq_true rfl⟩) (preV hP hK hD hE (ci := 12) (q0 := 0) rfl rfl) rfl rfl hl.1 rfl (lv_room (Nat.le_of_ble_eq_true rfl)) dX12_signed_63 ⟨Nat.le_of_ble_eq_true rfl, Nat.le_of_ble_eq_true rfl⟩) hD hS hA (fun z609 τ608 H locs hq hP hD hS => ?_)
          obtain ⟨rfl, f610⟩ := hq
          refine W.widen (k := 0) (n := 0) (Nat.le_of_ble_eq_true rfl) (Nat.le_of_ble_eq_true rfl) ?_
          refine lv_if_eq (tgt := 87) hx hb dX12_signed_66 (by decide) (fun c611 => ?_) (fun c611 => ?_)
          · have tc611 := (show z609.toInt = 0 from ti_eq rfl (by decide) c611)
            refine lv_aload_n hx hb dX12_signed_87 rfl (lv_at hl 3 rfl) ?_
            refine zy_i (va_runV (As := []) (rest := []) ⟨hx, hb, hml, hown, hts⟩ (n_isGood l dC dI h ad cl H.size τ519  hI521) (cwV 0 hts gd_n_signed_224_n_isGood rfl rfl rfl (by decide +kernel) ⟨Nat.le_of_ble_eq_true rfl, Nat.le_of_ble_eq_true rfl⟩) (preV hP hK hD hE (ci := 12) (q0 := 0) rfl rfl) rfl rfl hl.1 rfl (lv_room (Nat.le_of_ble_eq_true rfl)) dX12_signed_88 ⟨Nat.le_of_ble_eq_true rfl, Nat.le_of_ble_eq_true rfl⟩) hD hS hA (fun z613 τ612 H locs hq hP hD hS => ?_)
            obtain ⟨rfl, f614⟩ := hq
            refine W.widen (k := 0) (n := 0) (Nat.le_of_ble_eq_true rfl) (Nat.le_of_ble_eq_true rfl) ?_
            refine lv_if_eq (tgt := 98) hx hb dX12_signed_91 (by decide) (fun c615 => ?_) (fun c615 => ?_)
            · have tc615 := (show z613.toInt = 0 from ti_eq rfl (by decide) c615)
              refine lv_aload_n hx hb dX12_signed_98 rfl (lv_at hl 3 rfl) ?_
              refine zy_i (va_runV (As := []) (rest := []) ⟨hx, hb, hml, hown, hts⟩ (n_isGood l dC dI h ad cl H.size τ519  hI521) (cwV 0 hts gd_n_signed_224_n_isGood rfl rfl rfl (by decide +kernel) ⟨Nat.le_of_ble_eq_true rfl, Nat.le_of_ble_eq_true rfl⟩) (preV hP hK hD hE (ci := 12) (q0 := 0) rfl rfl) rfl rfl hl.1 rfl (lv_room (Nat.le_of_ble_eq_true rfl)) dX12_signed_99 ⟨Nat.le_of_ble_eq_true rfl, Nat.le_of_ble_eq_true rfl⟩) hD hS hA (fun z617 τ616 H locs hq hP hD hS => ?_)
              obtain ⟨rfl, f618⟩ := hq
              refine W.widen (k := 0) (n := 0) (Nat.le_of_ble_eq_true rfl) (Nat.le_of_ble_eq_true rfl) ?_
              refine lv_if_eq (tgt := 110) hx hb dX12_signed_102 (by decide) (fun c619 => ?_) (fun c619 => ?_)
              · have tc619 := (show z617.toInt = 0 from ti_eq rfl (by decide) c619)
                refine lv_iload_n hx hb dX12_signed_110 rfl (lv_at hl 4 rfl) ?_
                rw [hQ]
                exact W.iret (v := a) hx hb hr (fun t ht hW => ⟨⟨a, τ519, rfl, ⟨hI521, (eqx.tr hx522 (eqx.tr hx351 eqx.rf (by decide)) (by decide)), (by omega), (by omega)⟩, wEn_of hP (hK.sub [] rfl) hD ht hW⟩, hS.F ht⟩) hS.2.2 dX12_signed_111
              · have tc619 := (show z617.toInt ≠ 0 from ti_ne rfl (by decide) c619)
                refine lv_iload hx hb dX12_signed_105 (lv_at hl 0 rfl) ?_
                refine lv_goto (tgt := 111) hx hb dX12_signed_107 (by decide) ?_
                rw [hQ]
                exact W.iret (v := z607) hx hb hr (fun t ht hW => ⟨⟨z607, τ519, rfl, ⟨hI521, (eqx.tr hx522 (eqx.tr hx351 eqx.rf (by decide)) (by decide)), (by omega), (by omega)⟩, wEn_of hP (hK.sub [] rfl) hD ht hW⟩, hS.F ht⟩) hS.2.2 dX12_signed_111
            · have tc615 := (show z613.toInt ≠ 0 from ti_ne rfl (by decide) c615)
              refine lv_aload_n hx hb dX12_signed_94 rfl (lv_at hl 3 rfl) ?_
              refine zy_v (va_runV (As := []) (rest := []) ⟨hx, hb, hml, hown, hts⟩ (n_next l dC dI h ad cl H.size τ519  hI521) (cwV 0 hts gd_n_signed_228_n_next rfl rfl rfl (by decide +kernel) ⟨Nat.le_of_ble_eq_true rfl, Nat.le_of_ble_eq_true rfl⟩) (preV hP hK hD hE (ci := 12) (q0 := 0) rfl rfl) rfl rfl hl.1 rfl (lv_room (Nat.le_of_ble_eq_true rfl)) dX12_signed_95 ⟨Nat.le_of_ble_eq_true rfl, Nat.le_of_ble_eq_true rfl⟩) hD hS hA (fun τ620 H locs hq hP hD hS => ?_)
              obtain ⟨hI622, hx623⟩ := hq
              refine W.widen (k := 0) (n := 0) (Nat.le_of_ble_eq_true rfl) (Nat.le_of_ble_eq_true rfl) ?_
              refine lv_aload_n hx hb dX12_signed_98 rfl (lv_at hl 3 rfl) ?_
              refine zy_i (va_runV (As := []) (rest := []) ⟨hx, hb, hml, hown, hts⟩ (n_isGood l dC dI h ad cl H.size τ620  hI622) (cwV 0 hts gd_n_signed_224_n_isGood rfl rfl rfl (by decide +kernel) ⟨Nat.le_of_ble_eq_true rfl, Nat.le_of_ble_eq_true rfl⟩) (preV hP hK hD hE (ci := 12) (q0 := 0) rfl rfl) rfl rfl hl.1 rfl (lv_room (Nat.le_of_ble_eq_true rfl)) dX12_signed_99 ⟨Nat.le_of_ble_eq_true rfl, Nat.le_of_ble_eq_true rfl⟩) hD hS hA (fun z625 τ624 H locs hq hP hD hS => ?_)
              obtain ⟨rfl, f626⟩ := hq
              refine W.widen (k := 0) (n := 0) (Nat.le_of_ble_eq_true rfl) (Nat.le_of_ble_eq_true rfl) ?_
              refine lv_if_eq (tgt := 110) hx hb dX12_signed_102 (by decide) (fun c627 => ?_) (fun c627 => ?_)
              · have tc627 := (show z625.toInt = 0 from ti_eq rfl (by decide) c627)
                refine lv_iload_n hx hb dX12_signed_110 rfl (lv_at hl 4 rfl) ?_
                rw [hQ]
                exact W.iret (v := a) hx hb hr (fun t ht hW => ⟨⟨a, τ620, rfl, ⟨hI622, (eqx.tr hx623 (eqx.tr hx522 (eqx.tr hx351 eqx.rf (by decide)) (by decide)) (by decide)), (by omega), (by omega)⟩, wEn_of hP (hK.sub [] rfl) hD ht hW⟩, hS.F ht⟩) hS.2.2 dX12_signed_111
              · have tc627 := (show z625.toInt ≠ 0 from ti_ne rfl (by decide) c627)
                refine lv_iload hx hb dX12_signed_105 (lv_at hl 0 rfl) ?_
                refine lv_goto (tgt := 111) hx hb dX12_signed_107 (by decide) ?_
                rw [hQ]
                exact W.iret (v := z607) hx hb hr (fun t ht hW => ⟨⟨z607, τ620, rfl, ⟨hI622, (eqx.tr hx623 (eqx.tr hx522 (eqx.tr hx351 eqx.rf (by decide)) (by decide)) (by decide)), (by omega), (by omega)⟩, wEn_of hP (hK.sub [] rfl) hD ht hW⟩, hS.F ht⟩) hS.2.2 dX12_signed_111
          · have tc611 := (show z609.toInt ≠ 0 from ti_ne rfl (by decide) c611)
            refine lv_iload hx hb dX12_signed_69 (lv_at hl 0 rfl) ?_
            refine lv_iload_n hx hb dX12_signed_71 rfl (lv_at hl 4 rfl) ?_
            refine lv_icmp_lt (tgt := 81) hx hb dX12_signed_72 (by decide) (fun c628 => ?_) (fun c628 => ?_)
            · have tc628 := (show z607.toInt < a.toInt from ti_lt rfl rfl c628)
              refine lv_aload_n hx hb dX12_signed_81 rfl (lv_at hl 3 rfl) ?_
              refine lv_iconst (v := 4) hx hb dX12_signed_82 (by decide) ?_
              refine lv_iload_n hx hb dX12_signed_83 rfl (lv_at hl 2 rfl) ?_
              have kk629 : (4 : Int32).toInt = 4 := by decide
              refine zy_v (va_runV (As := [.int 4, .int (σ.1 6)]) (rest := []) ⟨hx, hb, hml, hown, hts⟩ (n_fails l dC dI h ad cl H.size τ519 4 (σ.1 6) hI521 (by omega)) (cwV 2 hts gd_n_signed_220_n_fails rfl rfl rfl (by decide +kernel) ⟨Nat.le_of_ble_eq_true rfl, Nat.le_of_ble_eq_true rfl⟩) (preV hP hK hD hE (ci := 12) (q0 := 0) rfl rfl) rfl rfl hl.1 rfl (lv_room (Nat.le_of_ble_eq_true rfl)) dX12_signed_84 ⟨Nat.le_of_ble_eq_true rfl, Nat.le_of_ble_eq_true rfl⟩) hD hS hA (fun τ630 H locs hq hP hD hS => ?_)
              obtain ⟨hI632, hx633, f634⟩ := hq
              refine W.widen (k := 0) (n := 0) (Nat.le_of_ble_eq_true rfl) (Nat.le_of_ble_eq_true rfl) ?_
              refine lv_aload_n hx hb dX12_signed_87 rfl (lv_at hl 3 rfl) ?_
              refine zy_i (va_runV (As := []) (rest := []) ⟨hx, hb, hml, hown, hts⟩ (n_isGood l dC dI h ad cl H.size τ630  hI632) (cwV 0 hts gd_n_signed_224_n_isGood rfl rfl rfl (by decide +kernel) ⟨Nat.le_of_ble_eq_true rfl, Nat.le_of_ble_eq_true rfl⟩) (preV hP hK hD hE (ci := 12) (q0 := 0) rfl rfl) rfl rfl hl.1 rfl (lv_room (Nat.le_of_ble_eq_true rfl)) dX12_signed_88 ⟨Nat.le_of_ble_eq_true rfl, Nat.le_of_ble_eq_true rfl⟩) hD hS hA (fun z636 τ635 H locs hq hP hD hS => ?_)
              obtain ⟨rfl, f637⟩ := hq
              refine W.widen (k := 0) (n := 0) (Nat.le_of_ble_eq_true rfl) (Nat.le_of_ble_eq_true rfl) ?_
              refine lv_if_eq (tgt := 98) hx hb dX12_signed_91 (by decide) (fun c638 => ?_) (fun c638 => ?_)
              · have tc638 := (show z636.toInt = 0 from ti_eq rfl (by decide) c638)
                refine lv_aload_n hx hb dX12_signed_98 rfl (lv_at hl 3 rfl) ?_
                refine zy_i (va_runV (As := []) (rest := []) ⟨hx, hb, hml, hown, hts⟩ (n_isGood l dC dI h ad cl H.size τ630  hI632) (cwV 0 hts gd_n_signed_224_n_isGood rfl rfl rfl (by decide +kernel) ⟨Nat.le_of_ble_eq_true rfl, Nat.le_of_ble_eq_true rfl⟩) (preV hP hK hD hE (ci := 12) (q0 := 0) rfl rfl) rfl rfl hl.1 rfl (lv_room (Nat.le_of_ble_eq_true rfl)) dX12_signed_99 ⟨Nat.le_of_ble_eq_true rfl, Nat.le_of_ble_eq_true rfl⟩) hD hS hA (fun z640 τ639 H locs hq hP hD hS => ?_)
                obtain ⟨rfl, f641⟩ := hq
                refine W.widen (k := 0) (n := 0) (Nat.le_of_ble_eq_true rfl) (Nat.le_of_ble_eq_true rfl) ?_
                refine lv_if_eq (tgt := 110) hx hb dX12_signed_102 (by decide) (fun c642 => ?_) (fun c642 => ?_)
                · have tc642 := (show z640.toInt = 0 from ti_eq rfl (by decide) c642)
                  refine lv_iload_n hx hb dX12_signed_110 rfl (lv_at hl 4 rfl) ?_
                  rw [hQ]
                  exact W.iret (v := a) hx hb hr (fun t ht hW => ⟨⟨a, τ630, rfl, ⟨hI632, (eqx.tr hx633 (eqx.tr hx522 (eqx.tr hx351 eqx.rf (by decide)) (by decide)) (by decide)), (by omega), (by omega)⟩, wEn_of hP (hK.sub [] rfl) hD ht hW⟩, hS.F ht⟩) hS.2.2 dX12_signed_111
                · have tc642 := (show z640.toInt ≠ 0 from ti_ne rfl (by decide) c642)
                  refine lv_iload hx hb dX12_signed_105 (lv_at hl 0 rfl) ?_
                  refine lv_goto (tgt := 111) hx hb dX12_signed_107 (by decide) ?_
                  rw [hQ]
                  exact W.iret (v := z607) hx hb hr (fun t ht hW => ⟨⟨z607, τ630, rfl, ⟨hI632, (eqx.tr hx633 (eqx.tr hx522 (eqx.tr hx351 eqx.rf (by decide)) (by decide)) (by decide)), (by omega), (by omega)⟩, wEn_of hP (hK.sub [] rfl) hD ht hW⟩, hS.F ht⟩) hS.2.2 dX12_signed_111
              · have tc638 := (show z636.toInt ≠ 0 from ti_ne rfl (by decide) c638)
                refine lv_aload_n hx hb dX12_signed_94 rfl (lv_at hl 3 rfl) ?_
                refine zy_v (va_runV (As := []) (rest := []) ⟨hx, hb, hml, hown, hts⟩ (n_next l dC dI h ad cl H.size τ630  hI632) (cwV 0 hts gd_n_signed_228_n_next rfl rfl rfl (by decide +kernel) ⟨Nat.le_of_ble_eq_true rfl, Nat.le_of_ble_eq_true rfl⟩) (preV hP hK hD hE (ci := 12) (q0 := 0) rfl rfl) rfl rfl hl.1 rfl (lv_room (Nat.le_of_ble_eq_true rfl)) dX12_signed_95 ⟨Nat.le_of_ble_eq_true rfl, Nat.le_of_ble_eq_true rfl⟩) hD hS hA (fun τ643 H locs hq hP hD hS => ?_)
                obtain ⟨hI645, hx646⟩ := hq
                refine W.widen (k := 0) (n := 0) (Nat.le_of_ble_eq_true rfl) (Nat.le_of_ble_eq_true rfl) ?_
                refine lv_aload_n hx hb dX12_signed_98 rfl (lv_at hl 3 rfl) ?_
                refine zy_i (va_runV (As := []) (rest := []) ⟨hx, hb, hml, hown, hts⟩ (n_isGood l dC dI h ad cl H.size τ643  hI645) (cwV 0 hts gd_n_signed_224_n_isGood rfl rfl rfl (by decide +kernel) ⟨Nat.le_of_ble_eq_true rfl, Nat.le_of_ble_eq_true rfl⟩) (preV hP hK hD hE (ci := 12) (q0 := 0) rfl rfl) rfl rfl hl.1 rfl (lv_room (Nat.le_of_ble_eq_true rfl)) dX12_signed_99 ⟨Nat.le_of_ble_eq_true rfl, Nat.le_of_ble_eq_true rfl⟩) hD hS hA (fun z648 τ647 H locs hq hP hD hS => ?_)
                obtain ⟨rfl, f649⟩ := hq
                refine W.widen (k := 0) (n := 0) (Nat.le_of_ble_eq_true rfl) (Nat.le_of_ble_eq_true rfl) ?_
                refine lv_if_eq (tgt := 110) hx hb dX12_signed_102 (by decide) (fun c650 => ?_) (fun c650 => ?_)
                · have tc650 := (show z648.toInt = 0 from ti_eq rfl (by decide) c650)
                  refine lv_iload_n hx hb dX12_signed_110 rfl (lv_at hl 4 rfl) ?_
                  rw [hQ]
                  exact W.iret (v := a) hx hb hr (fun t ht hW => ⟨⟨a, τ643, rfl, ⟨hI645, (eqx.tr hx646 (eqx.tr hx633 (eqx.tr hx522 (eqx.tr hx351 eqx.rf (by decide)) (by decide)) (by decide)) (by decide)), (by omega), (by omega)⟩, wEn_of hP (hK.sub [] rfl) hD ht hW⟩, hS.F ht⟩) hS.2.2 dX12_signed_111
                · have tc650 := (show z648.toInt ≠ 0 from ti_ne rfl (by decide) c650)
                  refine lv_iload hx hb dX12_signed_105 (lv_at hl 0 rfl) ?_
                  refine lv_goto (tgt := 111) hx hb dX12_signed_107 (by decide) ?_
                  rw [hQ]
                  exact W.iret (v := z607) hx hb hr (fun t ht hW => ⟨⟨z607, τ643, rfl, ⟨hI645, (eqx.tr hx646 (eqx.tr hx633 (eqx.tr hx522 (eqx.tr hx351 eqx.rf (by decide)) (by decide)) (by decide)) (by decide)), (by omega), (by omega)⟩, wEn_of hP (hK.sub [] rfl) hD ht hW⟩, hS.F ht⟩) hS.2.2 dX12_signed_111
            · have tc628 := (show a.toInt ≤ z607.toInt from ti_nlt rfl rfl c628)
              refine lv_iload hx hb dX12_signed_75 (lv_at hl 0 rfl) ?_
              refine lv_iload_n hx hb dX12_signed_77 rfl (lv_at hl 5 rfl) ?_
              refine lv_icmp_le (tgt := 87) hx hb dX12_signed_78 (by decide) (fun c651 => ?_) (fun c651 => ?_)
              · have tc651 := (show z607.toInt ≤ b.toInt from ti_le rfl rfl c651)
                refine lv_aload_n hx hb dX12_signed_87 rfl (lv_at hl 3 rfl) ?_
                refine zy_i (va_runV (As := []) (rest := []) ⟨hx, hb, hml, hown, hts⟩ (n_isGood l dC dI h ad cl H.size τ519  hI521) (cwV 0 hts gd_n_signed_224_n_isGood rfl rfl rfl (by decide +kernel) ⟨Nat.le_of_ble_eq_true rfl, Nat.le_of_ble_eq_true rfl⟩) (preV hP hK hD hE (ci := 12) (q0 := 0) rfl rfl) rfl rfl hl.1 rfl (lv_room (Nat.le_of_ble_eq_true rfl)) dX12_signed_88 ⟨Nat.le_of_ble_eq_true rfl, Nat.le_of_ble_eq_true rfl⟩) hD hS hA (fun z653 τ652 H locs hq hP hD hS => ?_)
                obtain ⟨rfl, f654⟩ := hq
                refine W.widen (k := 0) (n := 0) (Nat.le_of_ble_eq_true rfl) (Nat.le_of_ble_eq_true rfl) ?_
                refine lv_if_eq (tgt := 98) hx hb dX12_signed_91 (by decide) (fun c655 => ?_) (fun c655 => ?_)
                · have tc655 := (show z653.toInt = 0 from ti_eq rfl (by decide) c655)
                  refine lv_aload_n hx hb dX12_signed_98 rfl (lv_at hl 3 rfl) ?_
                  refine zy_i (va_runV (As := []) (rest := []) ⟨hx, hb, hml, hown, hts⟩ (n_isGood l dC dI h ad cl H.size τ519  hI521) (cwV 0 hts gd_n_signed_224_n_isGood rfl rfl rfl (by decide +kernel) ⟨Nat.le_of_ble_eq_true rfl, Nat.le_of_ble_eq_true rfl⟩) (preV hP hK hD hE (ci := 12) (q0 := 0) rfl rfl) rfl rfl hl.1 rfl (lv_room (Nat.le_of_ble_eq_true rfl)) dX12_signed_99 ⟨Nat.le_of_ble_eq_true rfl, Nat.le_of_ble_eq_true rfl⟩) hD hS hA (fun z657 τ656 H locs hq hP hD hS => ?_)
                  obtain ⟨rfl, f658⟩ := hq
                  refine W.widen (k := 0) (n := 0) (Nat.le_of_ble_eq_true rfl) (Nat.le_of_ble_eq_true rfl) ?_
                  refine lv_if_eq (tgt := 110) hx hb dX12_signed_102 (by decide) (fun c659 => ?_) (fun c659 => ?_)
                  · have tc659 := (show z657.toInt = 0 from ti_eq rfl (by decide) c659)
                    refine lv_iload_n hx hb dX12_signed_110 rfl (lv_at hl 4 rfl) ?_
                    rw [hQ]
                    exact W.iret (v := a) hx hb hr (fun t ht hW => ⟨⟨a, τ519, rfl, ⟨hI521, (eqx.tr hx522 (eqx.tr hx351 eqx.rf (by decide)) (by decide)), (by omega), (by omega)⟩, wEn_of hP (hK.sub [] rfl) hD ht hW⟩, hS.F ht⟩) hS.2.2 dX12_signed_111
                  · have tc659 := (show z657.toInt ≠ 0 from ti_ne rfl (by decide) c659)
                    refine lv_iload hx hb dX12_signed_105 (lv_at hl 0 rfl) ?_
                    refine lv_goto (tgt := 111) hx hb dX12_signed_107 (by decide) ?_
                    rw [hQ]
                    exact W.iret (v := z607) hx hb hr (fun t ht hW => ⟨⟨z607, τ519, rfl, ⟨hI521, (eqx.tr hx522 (eqx.tr hx351 eqx.rf (by decide)) (by decide)), (by omega), (by omega)⟩, wEn_of hP (hK.sub [] rfl) hD ht hW⟩, hS.F ht⟩) hS.2.2 dX12_signed_111
                · have tc655 := (show z653.toInt ≠ 0 from ti_ne rfl (by decide) c655)
                  refine lv_aload_n hx hb dX12_signed_94 rfl (lv_at hl 3 rfl) ?_
                  refine zy_v (va_runV (As := []) (rest := []) ⟨hx, hb, hml, hown, hts⟩ (n_next l dC dI h ad cl H.size τ519  hI521) (cwV 0 hts gd_n_signed_228_n_next rfl rfl rfl (by decide +kernel) ⟨Nat.le_of_ble_eq_true rfl, Nat.le_of_ble_eq_true rfl⟩) (preV hP hK hD hE (ci := 12) (q0 := 0) rfl rfl) rfl rfl hl.1 rfl (lv_room (Nat.le_of_ble_eq_true rfl)) dX12_signed_95 ⟨Nat.le_of_ble_eq_true rfl, Nat.le_of_ble_eq_true rfl⟩) hD hS hA (fun τ660 H locs hq hP hD hS => ?_)
                  obtain ⟨hI662, hx663⟩ := hq
                  refine W.widen (k := 0) (n := 0) (Nat.le_of_ble_eq_true rfl) (Nat.le_of_ble_eq_true rfl) ?_
                  refine lv_aload_n hx hb dX12_signed_98 rfl (lv_at hl 3 rfl) ?_
                  refine zy_i (va_runV (As := []) (rest := []) ⟨hx, hb, hml, hown, hts⟩ (n_isGood l dC dI h ad cl H.size τ660  hI662) (cwV 0 hts gd_n_signed_224_n_isGood rfl rfl rfl (by decide +kernel) ⟨Nat.le_of_ble_eq_true rfl, Nat.le_of_ble_eq_true rfl⟩) (preV hP hK hD hE (ci := 12) (q0 := 0) rfl rfl) rfl rfl hl.1 rfl (lv_room (Nat.le_of_ble_eq_true rfl)) dX12_signed_99 ⟨Nat.le_of_ble_eq_true rfl, Nat.le_of_ble_eq_true rfl⟩) hD hS hA (fun z665 τ664 H locs hq hP hD hS => ?_)
                  obtain ⟨rfl, f666⟩ := hq
                  refine W.widen (k := 0) (n := 0) (Nat.le_of_ble_eq_true rfl) (Nat.le_of_ble_eq_true rfl) ?_
                  refine lv_if_eq (tgt := 110) hx hb dX12_signed_102 (by decide) (fun c667 => ?_) (fun c667 => ?_)
                  · have tc667 := (show z665.toInt = 0 from ti_eq rfl (by decide) c667)
                    refine lv_iload_n hx hb dX12_signed_110 rfl (lv_at hl 4 rfl) ?_
                    rw [hQ]
                    exact W.iret (v := a) hx hb hr (fun t ht hW => ⟨⟨a, τ660, rfl, ⟨hI662, (eqx.tr hx663 (eqx.tr hx522 (eqx.tr hx351 eqx.rf (by decide)) (by decide)) (by decide)), (by omega), (by omega)⟩, wEn_of hP (hK.sub [] rfl) hD ht hW⟩, hS.F ht⟩) hS.2.2 dX12_signed_111
                  · have tc667 := (show z665.toInt ≠ 0 from ti_ne rfl (by decide) c667)
                    refine lv_iload hx hb dX12_signed_105 (lv_at hl 0 rfl) ?_
                    refine lv_goto (tgt := 111) hx hb dX12_signed_107 (by decide) ?_
                    rw [hQ]
                    exact W.iret (v := z607) hx hb hr (fun t ht hW => ⟨⟨z607, τ660, rfl, ⟨hI662, (eqx.tr hx663 (eqx.tr hx522 (eqx.tr hx351 eqx.rf (by decide)) (by decide)) (by decide)), (by omega), (by omega)⟩, wEn_of hP (hK.sub [] rfl) hD ht hW⟩, hS.F ht⟩) hS.2.2 dX12_signed_111
              · have tc651 := (show b.toInt < z607.toInt from ti_nle rfl rfl c651)
                refine lv_aload_n hx hb dX12_signed_81 rfl (lv_at hl 3 rfl) ?_
                refine lv_iconst (v := 4) hx hb dX12_signed_82 (by decide) ?_
                refine lv_iload_n hx hb dX12_signed_83 rfl (lv_at hl 2 rfl) ?_
                have kk668 : (4 : Int32).toInt = 4 := by decide
                refine zy_v (va_runV (As := [.int 4, .int (σ.1 6)]) (rest := []) ⟨hx, hb, hml, hown, hts⟩ (n_fails l dC dI h ad cl H.size τ519 4 (σ.1 6) hI521 (by omega)) (cwV 2 hts gd_n_signed_220_n_fails rfl rfl rfl (by decide +kernel) ⟨Nat.le_of_ble_eq_true rfl, Nat.le_of_ble_eq_true rfl⟩) (preV hP hK hD hE (ci := 12) (q0 := 0) rfl rfl) rfl rfl hl.1 rfl (lv_room (Nat.le_of_ble_eq_true rfl)) dX12_signed_84 ⟨Nat.le_of_ble_eq_true rfl, Nat.le_of_ble_eq_true rfl⟩) hD hS hA (fun τ669 H locs hq hP hD hS => ?_)
                obtain ⟨hI671, hx672, f673⟩ := hq
                refine W.widen (k := 0) (n := 0) (Nat.le_of_ble_eq_true rfl) (Nat.le_of_ble_eq_true rfl) ?_
                refine lv_aload_n hx hb dX12_signed_87 rfl (lv_at hl 3 rfl) ?_
                refine zy_i (va_runV (As := []) (rest := []) ⟨hx, hb, hml, hown, hts⟩ (n_isGood l dC dI h ad cl H.size τ669  hI671) (cwV 0 hts gd_n_signed_224_n_isGood rfl rfl rfl (by decide +kernel) ⟨Nat.le_of_ble_eq_true rfl, Nat.le_of_ble_eq_true rfl⟩) (preV hP hK hD hE (ci := 12) (q0 := 0) rfl rfl) rfl rfl hl.1 rfl (lv_room (Nat.le_of_ble_eq_true rfl)) dX12_signed_88 ⟨Nat.le_of_ble_eq_true rfl, Nat.le_of_ble_eq_true rfl⟩) hD hS hA (fun z675 τ674 H locs hq hP hD hS => ?_)
                obtain ⟨rfl, f676⟩ := hq
                refine W.widen (k := 0) (n := 0) (Nat.le_of_ble_eq_true rfl) (Nat.le_of_ble_eq_true rfl) ?_
                refine lv_if_eq (tgt := 98) hx hb dX12_signed_91 (by decide) (fun c677 => ?_) (fun c677 => ?_)
                · have tc677 := (show z675.toInt = 0 from ti_eq rfl (by decide) c677)
                  refine lv_aload_n hx hb dX12_signed_98 rfl (lv_at hl 3 rfl) ?_
                  refine zy_i (va_runV (As := []) (rest := []) ⟨hx, hb, hml, hown, hts⟩ (n_isGood l dC dI h ad cl H.size τ669  hI671) (cwV 0 hts gd_n_signed_224_n_isGood rfl rfl rfl (by decide +kernel) ⟨Nat.le_of_ble_eq_true rfl, Nat.le_of_ble_eq_true rfl⟩) (preV hP hK hD hE (ci := 12) (q0 := 0) rfl rfl) rfl rfl hl.1 rfl (lv_room (Nat.le_of_ble_eq_true rfl)) dX12_signed_99 ⟨Nat.le_of_ble_eq_true rfl, Nat.le_of_ble_eq_true rfl⟩) hD hS hA (fun z679 τ678 H locs hq hP hD hS => ?_)
                  obtain ⟨rfl, f680⟩ := hq
                  refine W.widen (k := 0) (n := 0) (Nat.le_of_ble_eq_true rfl) (Nat.le_of_ble_eq_true rfl) ?_
                  refine lv_if_eq (tgt := 110) hx hb dX12_signed_102 (by decide) (fun c681 => ?_) (fun c681 => ?_)
                  · have tc681 := (show z679.toInt = 0 from ti_eq rfl (by decide) c681)
                    refine lv_iload_n hx hb dX12_signed_110 rfl (lv_at hl 4 rfl) ?_
                    rw [hQ]
                    exact W.iret (v := a) hx hb hr (fun t ht hW => ⟨⟨a, τ669, rfl, ⟨hI671, (eqx.tr hx672 (eqx.tr hx522 (eqx.tr hx351 eqx.rf (by decide)) (by decide)) (by decide)), (by omega), (by omega)⟩, wEn_of hP (hK.sub [] rfl) hD ht hW⟩, hS.F ht⟩) hS.2.2 dX12_signed_111
                  · have tc681 := (show z679.toInt ≠ 0 from ti_ne rfl (by decide) c681)
                    refine lv_iload hx hb dX12_signed_105 (lv_at hl 0 rfl) ?_
                    refine lv_goto (tgt := 111) hx hb dX12_signed_107 (by decide) ?_
                    rw [hQ]
                    exact W.iret (v := z607) hx hb hr (fun t ht hW => ⟨⟨z607, τ669, rfl, ⟨hI671, (eqx.tr hx672 (eqx.tr hx522 (eqx.tr hx351 eqx.rf (by decide)) (by decide)) (by decide)), (by omega), (by omega)⟩, wEn_of hP (hK.sub [] rfl) hD ht hW⟩, hS.F ht⟩) hS.2.2 dX12_signed_111
                · have tc677 := (show z675.toInt ≠ 0 from ti_ne rfl (by decide) c677)
                  refine lv_aload_n hx hb dX12_signed_94 rfl (lv_at hl 3 rfl) ?_
                  refine zy_v (va_runV (As := []) (rest := []) ⟨hx, hb, hml, hown, hts⟩ (n_next l dC dI h ad cl H.size τ669  hI671) (cwV 0 hts gd_n_signed_228_n_next rfl rfl rfl (by decide +kernel) ⟨Nat.le_of_ble_eq_true rfl, Nat.le_of_ble_eq_true rfl⟩) (preV hP hK hD hE (ci := 12) (q0 := 0) rfl rfl) rfl rfl hl.1 rfl (lv_room (Nat.le_of_ble_eq_true rfl)) dX12_signed_95 ⟨Nat.le_of_ble_eq_true rfl, Nat.le_of_ble_eq_true rfl⟩) hD hS hA (fun τ682 H locs hq hP hD hS => ?_)
                  obtain ⟨hI684, hx685⟩ := hq
                  refine W.widen (k := 0) (n := 0) (Nat.le_of_ble_eq_true rfl) (Nat.le_of_ble_eq_true rfl) ?_
                  refine lv_aload_n hx hb dX12_signed_98 rfl (lv_at hl 3 rfl) ?_
                  refine zy_i (va_runV (As := []) (rest := []) ⟨hx, hb, hml, hown, hts⟩ (n_isGood l dC dI h ad cl H.size τ682  hI684) (cwV 0 hts gd_n_signed_224_n_isGood rfl rfl rfl (by decide +kernel) ⟨Nat.le_of_ble_eq_true rfl, Nat.le_of_ble_eq_true rfl⟩) (preV hP hK hD hE (ci := 12) (q0 := 0) rfl rfl) rfl rfl hl.1 rfl (lv_room (Nat.le_of_ble_eq_true rfl)) dX12_signed_99 ⟨Nat.le_of_ble_eq_true rfl, Nat.le_of_ble_eq_true rfl⟩) hD hS hA (fun z687 τ686 H locs hq hP hD hS => ?_)
                  obtain ⟨rfl, f688⟩ := hq
                  refine W.widen (k := 0) (n := 0) (Nat.le_of_ble_eq_true rfl) (Nat.le_of_ble_eq_true rfl) ?_
                  refine lv_if_eq (tgt := 110) hx hb dX12_signed_102 (by decide) (fun c689 => ?_) (fun c689 => ?_)
                  · have tc689 := (show z687.toInt = 0 from ti_eq rfl (by decide) c689)
                    refine lv_iload_n hx hb dX12_signed_110 rfl (lv_at hl 4 rfl) ?_
                    rw [hQ]
                    exact W.iret (v := a) hx hb hr (fun t ht hW => ⟨⟨a, τ682, rfl, ⟨hI684, (eqx.tr hx685 (eqx.tr hx672 (eqx.tr hx522 (eqx.tr hx351 eqx.rf (by decide)) (by decide)) (by decide)) (by decide)), (by omega), (by omega)⟩, wEn_of hP (hK.sub [] rfl) hD ht hW⟩, hS.F ht⟩) hS.2.2 dX12_signed_111
                  · have tc689 := (show z687.toInt ≠ 0 from ti_ne rfl (by decide) c689)
                    refine lv_iload hx hb dX12_signed_105 (lv_at hl 0 rfl) ?_
                    refine lv_goto (tgt := 111) hx hb dX12_signed_107 (by decide) ?_
                    rw [hQ]
                    exact W.iret (v := z607) hx hb hr (fun t ht hW => ⟨⟨z607, τ682, rfl, ⟨hI684, (eqx.tr hx685 (eqx.tr hx672 (eqx.tr hx522 (eqx.tr hx351 eqx.rf (by decide)) (by decide)) (by decide)) (by decide)), (by omega), (by omega)⟩, wEn_of hP (hK.sub [] rfl) hD ht hW⟩, hS.F ht⟩) hS.2.2 dX12_signed_111
  · have tc4 := (show z2.toInt = 0 from ti_eq rfl (by decide) c4)
    refine lv_iload_n hx hb dX12_signed_7 rfl (lv_at hl 1 rfl) ?_
    rw [hQ]
    exact W.iret (v := a) hx hb hr (fun t ht hW => ⟨⟨a, σ, rfl, ⟨hI, eqx.rf, (by omega), (by omega)⟩, wEn_of hP (hK.sub [] rfl) hD ht hW⟩, hS.F ht⟩) hS.2.2 dX12_signed_8
def ow_n_kindHere : List Cond := [.constantLong RX12 151 (7566701), .constantLong RX12 155 (1836020596), .constantLong RX12 157 (6382692), .constantLong RX12 159 (1818588019), .constantLong RX12 161 (499984983411), .constantLong RX12 163 (495588568165), .constantLong RX12 169 (24948), .constantLong RX12 173 (1885954923)]
def vs_n_kindHere : List Cond := .code yX12_kindHere cX12_kindHere 1 (some .int) :: (ow_n_kindHere ++ (([.methodLink RX12 261 yX12_isWord, .instanceMethod yX12_isWord, .selects RX12 yX12_isWord yX12_isWord, .initialized RX12] : List Cond) ++ (vs_n_isWord)))
theorem vg_n_kindHere : vs_n_kindHere.all goodWord = true := by decide +kernel
def rm_n_kindHere : Room := { frames := 1, cells := 0, slots := 0, locals := 22 }
theorem gd_n_kindHere_261_n_isWord : GoodIn vs_n_kindHere (wsV RX12 261 RX12 yX12_isWord vs_n_isWord) := goodIn_app (goodIn_sub (fun w h => (List.mem_cons_of_mem _ (List.mem_append_right _ (List.mem_append_left _ h)))) (by decide +kernel)) (goodIn_sub (fun w h => (List.mem_cons_of_mem _ (List.mem_append_right _ (List.mem_append_right _ h)))) vg_n_isWord)
set_option maxHeartbeats 4000000 in
set_option maxRecDepth 100000 in
theorem n_kindHere (l : Launch) (dC : Nat → ClassId) (dI : Nat → Nat → Nat) (h : Nat) (ad : Nat → Nat) (cl : Nat → ClassId) (sz : Nat) (σ : MS)  (hI : Inv σ) : Met l yX12_kindHere vs_n_kindHere rm_n_kindHere (va_Pc [.ref h] (wSt dC dI (mW h ad cl σ) (mT cl) sz)) (va_Qi (fun (r : Int32) (τ : MS) => τ = σ ∧ -1 ≤ r.toInt ∧ r.toInt ≤ 7) (fun (τ : MS) => wEn dC dI (va_A (mW h ad cl σ) sz) (mW h ad cl τ) []) (va_A (mW h ad cl σ) sz)) 0 0 (va_A (mW h ad cl σ) sz) := by
  refine Met.ofW (cc := cX12_kindHere) (maxL := 1) (ret := (some .int)) (by decide) rfl ?_
  intro p e s m args below meth c s₁ B hml hv
  obtain ⟨rfl, hsz, hP, hK, hD0, hE⟩ := hv
  have hx := B.exec
  have hb := B.bytes
  have hr := B.returns
  have hts := atoms_spec (ws := vs_n_kindHere) B.pre
  have hown : s.vm.findClass RX12 = some m.cls := findClass_of_methodNamed B.named
  have hlocks := B.notSynchronized
  subst hsz
  have hD := hD0.self (sz := s.heap.size)
  generalize hAe : va_A (mW h ad cl σ) s.heap.size = A at hD ⊢
  have hA : ∀ q : Nat, s.heap.size ≤ q → A q := fun q h => by rw [← hAe]; exact Or.inr h
  have hl := lv_entry ([.ref h]) (n := 1) (Nat.le_of_ble_eq_true rfl)
  rw [lg_entry_eq]
  generalize (lg_sl ([.ref h]) ++ List.replicate (1 - (lg_sl ([.ref h])).length) Slot.unset).toArray = ls at hl ⊢
  have hl : lv_has ls 1 [(0, .ref h)] := hl
  have ho := fun w (h : w ∈ ow_n_kindHere) => hts w (List.mem_cons_of_mem _ (List.mem_append_left _ h))
  refine zQ (fun Q hQ => ?_)
  refine zH (A := A) (ws := mW h ad cl σ) (fun H hP hS => ?_) hP
  refine lv_aload_n hx hb dX12_kindHere_0 rfl (lv_at hl 0 rfl) ?_
  refine lv_ldc2 (v := (7566701)) hx hb hown (ho (.constantLong RX12 151 (7566701)) (List.mem_of_getElem? (i := 0) rfl)) dX12_kindHere_1 ?_
  refine zy_i (va_runV (As := [.long 7566701]) (rest := []) ⟨hx, hb, hml, hown, hts⟩ (n_isWord l dC dI h ad cl H.size σ 7566701 hI) (cwV 1 hts gd_n_kindHere_261_n_isWord rfl rfl rfl (by decide +kernel) ⟨Nat.le_of_ble_eq_true rfl, Nat.le_of_ble_eq_true rfl⟩) (preV hP hK hD hE (ci := 12) (q0 := 0) rfl rfl) rfl rfl hl.1 rfl (lv_room (Nat.le_of_ble_eq_true rfl)) dX12_kindHere_4 ⟨Nat.le_of_ble_eq_true rfl, Nat.le_of_ble_eq_true rfl⟩) hD hS hA (fun z2 τ1 H locs hq hP hD hS => ?_)
  obtain ⟨rfl, f3⟩ := hq
  refine W.widen (k := 0) (n := 0) (Nat.le_of_ble_eq_true rfl) (Nat.le_of_ble_eq_true rfl) ?_
  refine lv_if_eq (tgt := 12) hx hb dX12_kindHere_7 (by decide) (fun c4 => ?_) (fun c4 => ?_)
  · have tc4 := (show z2.toInt = 0 from ti_eq rfl (by decide) c4)
    refine lv_aload_n hx hb dX12_kindHere_12 rfl (lv_at hl 0 rfl) ?_
    refine lv_ldc2 (v := (1836020596)) hx hb hown (ho (.constantLong RX12 155 (1836020596)) (List.mem_of_getElem? (i := 1) rfl)) dX12_kindHere_13 ?_
    refine zy_i (va_runV (As := [.long 1836020596]) (rest := []) ⟨hx, hb, hml, hown, hts⟩ (n_isWord l dC dI h ad cl H.size σ 1836020596 hI) (cwV 1 hts gd_n_kindHere_261_n_isWord rfl rfl rfl (by decide +kernel) ⟨Nat.le_of_ble_eq_true rfl, Nat.le_of_ble_eq_true rfl⟩) (preV hP hK hD hE (ci := 12) (q0 := 0) rfl rfl) rfl rfl hl.1 rfl (lv_room (Nat.le_of_ble_eq_true rfl)) dX12_kindHere_16 ⟨Nat.le_of_ble_eq_true rfl, Nat.le_of_ble_eq_true rfl⟩) hD hS hA (fun z6 τ5 H locs hq hP hD hS => ?_)
    obtain ⟨rfl, f7⟩ := hq
    refine W.widen (k := 0) (n := 0) (Nat.le_of_ble_eq_true rfl) (Nat.le_of_ble_eq_true rfl) ?_
    refine lv_if_eq (tgt := 24) hx hb dX12_kindHere_19 (by decide) (fun c8 => ?_) (fun c8 => ?_)
    · have tc8 := (show z6.toInt = 0 from ti_eq rfl (by decide) c8)
      refine lv_aload_n hx hb dX12_kindHere_24 rfl (lv_at hl 0 rfl) ?_
      refine lv_ldc2 (v := (6382692)) hx hb hown (ho (.constantLong RX12 157 (6382692)) (List.mem_of_getElem? (i := 2) rfl)) dX12_kindHere_25 ?_
      refine zy_i (va_runV (As := [.long 6382692]) (rest := []) ⟨hx, hb, hml, hown, hts⟩ (n_isWord l dC dI h ad cl H.size σ 6382692 hI) (cwV 1 hts gd_n_kindHere_261_n_isWord rfl rfl rfl (by decide +kernel) ⟨Nat.le_of_ble_eq_true rfl, Nat.le_of_ble_eq_true rfl⟩) (preV hP hK hD hE (ci := 12) (q0 := 0) rfl rfl) rfl rfl hl.1 rfl (lv_room (Nat.le_of_ble_eq_true rfl)) dX12_kindHere_28 ⟨Nat.le_of_ble_eq_true rfl, Nat.le_of_ble_eq_true rfl⟩) hD hS hA (fun z10 τ9 H locs hq hP hD hS => ?_)
      obtain ⟨rfl, f11⟩ := hq
      refine W.widen (k := 0) (n := 0) (Nat.le_of_ble_eq_true rfl) (Nat.le_of_ble_eq_true rfl) ?_
      refine lv_if_eq (tgt := 36) hx hb dX12_kindHere_31 (by decide) (fun c12 => ?_) (fun c12 => ?_)
      · have tc12 := (show z10.toInt = 0 from ti_eq rfl (by decide) c12)
        refine lv_aload_n hx hb dX12_kindHere_36 rfl (lv_at hl 0 rfl) ?_
        refine lv_ldc2 (v := (1818588019)) hx hb hown (ho (.constantLong RX12 159 (1818588019)) (List.mem_of_getElem? (i := 3) rfl)) dX12_kindHere_37 ?_
        refine zy_i (va_runV (As := [.long 1818588019]) (rest := []) ⟨hx, hb, hml, hown, hts⟩ (n_isWord l dC dI h ad cl H.size σ 1818588019 hI) (cwV 1 hts gd_n_kindHere_261_n_isWord rfl rfl rfl (by decide +kernel) ⟨Nat.le_of_ble_eq_true rfl, Nat.le_of_ble_eq_true rfl⟩) (preV hP hK hD hE (ci := 12) (q0 := 0) rfl rfl) rfl rfl hl.1 rfl (lv_room (Nat.le_of_ble_eq_true rfl)) dX12_kindHere_40 ⟨Nat.le_of_ble_eq_true rfl, Nat.le_of_ble_eq_true rfl⟩) hD hS hA (fun z14 τ13 H locs hq hP hD hS => ?_)
        obtain ⟨rfl, f15⟩ := hq
        refine W.widen (k := 0) (n := 0) (Nat.le_of_ble_eq_true rfl) (Nat.le_of_ble_eq_true rfl) ?_
        refine lv_if_eq (tgt := 48) hx hb dX12_kindHere_43 (by decide) (fun c16 => ?_) (fun c16 => ?_)
        · have tc16 := (show z14.toInt = 0 from ti_eq rfl (by decide) c16)
          refine lv_aload_n hx hb dX12_kindHere_48 rfl (lv_at hl 0 rfl) ?_
          refine lv_ldc2 (v := (499984983411)) hx hb hown (ho (.constantLong RX12 161 (499984983411)) (List.mem_of_getElem? (i := 4) rfl)) dX12_kindHere_49 ?_
          refine zy_i (va_runV (As := [.long 499984983411]) (rest := []) ⟨hx, hb, hml, hown, hts⟩ (n_isWord l dC dI h ad cl H.size σ 499984983411 hI) (cwV 1 hts gd_n_kindHere_261_n_isWord rfl rfl rfl (by decide +kernel) ⟨Nat.le_of_ble_eq_true rfl, Nat.le_of_ble_eq_true rfl⟩) (preV hP hK hD hE (ci := 12) (q0 := 0) rfl rfl) rfl rfl hl.1 rfl (lv_room (Nat.le_of_ble_eq_true rfl)) dX12_kindHere_52 ⟨Nat.le_of_ble_eq_true rfl, Nat.le_of_ble_eq_true rfl⟩) hD hS hA (fun z18 τ17 H locs hq hP hD hS => ?_)
          obtain ⟨rfl, f19⟩ := hq
          refine W.widen (k := 0) (n := 0) (Nat.le_of_ble_eq_true rfl) (Nat.le_of_ble_eq_true rfl) ?_
          refine lv_if_eq (tgt := 60) hx hb dX12_kindHere_55 (by decide) (fun c20 => ?_) (fun c20 => ?_)
          · have tc20 := (show z18.toInt = 0 from ti_eq rfl (by decide) c20)
            refine lv_aload_n hx hb dX12_kindHere_60 rfl (lv_at hl 0 rfl) ?_
            refine lv_ldc2 (v := (495588568165)) hx hb hown (ho (.constantLong RX12 163 (495588568165)) (List.mem_of_getElem? (i := 5) rfl)) dX12_kindHere_61 ?_
            refine zy_i (va_runV (As := [.long 495588568165]) (rest := []) ⟨hx, hb, hml, hown, hts⟩ (n_isWord l dC dI h ad cl H.size σ 495588568165 hI) (cwV 1 hts gd_n_kindHere_261_n_isWord rfl rfl rfl (by decide +kernel) ⟨Nat.le_of_ble_eq_true rfl, Nat.le_of_ble_eq_true rfl⟩) (preV hP hK hD hE (ci := 12) (q0 := 0) rfl rfl) rfl rfl hl.1 rfl (lv_room (Nat.le_of_ble_eq_true rfl)) dX12_kindHere_64 ⟨Nat.le_of_ble_eq_true rfl, Nat.le_of_ble_eq_true rfl⟩) hD hS hA (fun z22 τ21 H locs hq hP hD hS => ?_)
            obtain ⟨rfl, f23⟩ := hq
            refine W.widen (k := 0) (n := 0) (Nat.le_of_ble_eq_true rfl) (Nat.le_of_ble_eq_true rfl) ?_
            refine lv_if_eq (tgt := 72) hx hb dX12_kindHere_67 (by decide) (fun c24 => ?_) (fun c24 => ?_)
            · have tc24 := (show z22.toInt = 0 from ti_eq rfl (by decide) c24)
              refine lv_aload_n hx hb dX12_kindHere_72 rfl (lv_at hl 0 rfl) ?_
              refine lv_ldc2 (v := (24948)) hx hb hown (ho (.constantLong RX12 169 (24948)) (List.mem_of_getElem? (i := 6) rfl)) dX12_kindHere_73 ?_
              refine zy_i (va_runV (As := [.long 24948]) (rest := []) ⟨hx, hb, hml, hown, hts⟩ (n_isWord l dC dI h ad cl H.size σ 24948 hI) (cwV 1 hts gd_n_kindHere_261_n_isWord rfl rfl rfl (by decide +kernel) ⟨Nat.le_of_ble_eq_true rfl, Nat.le_of_ble_eq_true rfl⟩) (preV hP hK hD hE (ci := 12) (q0 := 0) rfl rfl) rfl rfl hl.1 rfl (lv_room (Nat.le_of_ble_eq_true rfl)) dX12_kindHere_76 ⟨Nat.le_of_ble_eq_true rfl, Nat.le_of_ble_eq_true rfl⟩) hD hS hA (fun z26 τ25 H locs hq hP hD hS => ?_)
              obtain ⟨rfl, f27⟩ := hq
              refine W.widen (k := 0) (n := 0) (Nat.le_of_ble_eq_true rfl) (Nat.le_of_ble_eq_true rfl) ?_
              refine lv_if_eq (tgt := 85) hx hb dX12_kindHere_79 (by decide) (fun c28 => ?_) (fun c28 => ?_)
              · have tc28 := (show z26.toInt = 0 from ti_eq rfl (by decide) c28)
                refine lv_aload_n hx hb dX12_kindHere_85 rfl (lv_at hl 0 rfl) ?_
                refine lv_ldc2 (v := (1885954923)) hx hb hown (ho (.constantLong RX12 173 (1885954923)) (List.mem_of_getElem? (i := 7) rfl)) dX12_kindHere_86 ?_
                refine zy_i (va_runV (As := [.long 1885954923]) (rest := []) ⟨hx, hb, hml, hown, hts⟩ (n_isWord l dC dI h ad cl H.size σ 1885954923 hI) (cwV 1 hts gd_n_kindHere_261_n_isWord rfl rfl rfl (by decide +kernel) ⟨Nat.le_of_ble_eq_true rfl, Nat.le_of_ble_eq_true rfl⟩) (preV hP hK hD hE (ci := 12) (q0 := 0) rfl rfl) rfl rfl hl.1 rfl (lv_room (Nat.le_of_ble_eq_true rfl)) dX12_kindHere_89 ⟨Nat.le_of_ble_eq_true rfl, Nat.le_of_ble_eq_true rfl⟩) hD hS hA (fun z30 τ29 H locs hq hP hD hS => ?_)
                obtain ⟨rfl, f31⟩ := hq
                refine W.widen (k := 0) (n := 0) (Nat.le_of_ble_eq_true rfl) (Nat.le_of_ble_eq_true rfl) ?_
                refine lv_if_eq (tgt := 100) hx hb dX12_kindHere_92 (by decide) (fun c32 => ?_) (fun c32 => ?_)
                · have tc32 := (show z30.toInt = 0 from ti_eq rfl (by decide) c32)
                  refine lv_iconst (v := (-1)) hx hb dX12_kindHere_100 (by decide) ?_
                  rw [hQ]
                  exact W.iret (v := (-1)) hx hb hr (fun t ht hW => ⟨⟨(-1), σ, rfl, ⟨rfl, (by have k9 : ((-1) : Int32).toInt = (-1) := by decide
                     omega), (by have k9 : ((-1) : Int32).toInt = (-1) := by decide
                     omega)⟩, wEn_of hP (hK.sub [] rfl) hD ht hW⟩, hS.F ht⟩) hS.2.2 dX12_kindHere_101
                · have tc32 := (show z30.toInt ≠ 0 from ti_ne rfl (by decide) c32)
                  refine lv_bipush (v := 7) hx hb dX12_kindHere_95 (by decide) ?_
                  refine lv_goto (tgt := 101) hx hb dX12_kindHere_97 (by decide) ?_
                  rw [hQ]
                  exact W.iret (v := 7) hx hb hr (fun t ht hW => ⟨⟨7, σ, rfl, ⟨rfl, (by have k9 : (7 : Int32).toInt = 7 := by decide
                     omega), (by have k9 : (7 : Int32).toInt = 7 := by decide
                     omega)⟩, wEn_of hP (hK.sub [] rfl) hD ht hW⟩, hS.F ht⟩) hS.2.2 dX12_kindHere_101
              · have tc28 := (show z26.toInt ≠ 0 from ti_ne rfl (by decide) c28)
                refine lv_bipush (v := 6) hx hb dX12_kindHere_82 (by decide) ?_
                rw [hQ]
                exact W.iret (v := 6) hx hb hr (fun t ht hW => ⟨⟨6, σ, rfl, ⟨rfl, (by have k9 : (6 : Int32).toInt = 6 := by decide
                   omega), (by have k9 : (6 : Int32).toInt = 6 := by decide
                   omega)⟩, wEn_of hP (hK.sub [] rfl) hD ht hW⟩, hS.F ht⟩) hS.2.2 dX12_kindHere_84
            · have tc24 := (show z22.toInt ≠ 0 from ti_ne rfl (by decide) c24)
              refine lv_iconst (v := 5) hx hb dX12_kindHere_70 (by decide) ?_
              rw [hQ]
              exact W.iret (v := 5) hx hb hr (fun t ht hW => ⟨⟨5, σ, rfl, ⟨rfl, (by have k9 : (5 : Int32).toInt = 5 := by decide
                 omega), (by have k9 : (5 : Int32).toInt = 5 := by decide
                 omega)⟩, wEn_of hP (hK.sub [] rfl) hD ht hW⟩, hS.F ht⟩) hS.2.2 dX12_kindHere_71
          · have tc20 := (show z18.toInt ≠ 0 from ti_ne rfl (by decide) c20)
            refine lv_iconst (v := 4) hx hb dX12_kindHere_58 (by decide) ?_
            rw [hQ]
            exact W.iret (v := 4) hx hb hr (fun t ht hW => ⟨⟨4, σ, rfl, ⟨rfl, (by have k9 : (4 : Int32).toInt = 4 := by decide
               omega), (by have k9 : (4 : Int32).toInt = 4 := by decide
               omega)⟩, wEn_of hP (hK.sub [] rfl) hD ht hW⟩, hS.F ht⟩) hS.2.2 dX12_kindHere_59
        · have tc16 := (show z14.toInt ≠ 0 from ti_ne rfl (by decide) c16)
          refine lv_iconst (v := 3) hx hb dX12_kindHere_46 (by decide) ?_
          rw [hQ]
          exact W.iret (v := 3) hx hb hr (fun t ht hW => ⟨⟨3, σ, rfl, ⟨rfl, (by have k9 : (3 : Int32).toInt = 3 := by decide
             omega), (by have k9 : (3 : Int32).toInt = 3 := by decide
             omega)⟩, wEn_of hP (hK.sub [] rfl) hD ht hW⟩, hS.F ht⟩) hS.2.2 dX12_kindHere_47
      · have tc12 := (show z10.toInt ≠ 0 from ti_ne rfl (by decide) c12)
        refine lv_iconst (v := 2) hx hb dX12_kindHere_34 (by decide) ?_
        rw [hQ]
        exact W.iret (v := 2) hx hb hr (fun t ht hW => ⟨⟨2, σ, rfl, ⟨rfl, (by have k9 : (2 : Int32).toInt = 2 := by decide
           omega), (by have k9 : (2 : Int32).toInt = 2 := by decide
           omega)⟩, wEn_of hP (hK.sub [] rfl) hD ht hW⟩, hS.F ht⟩) hS.2.2 dX12_kindHere_35
    · have tc8 := (show z6.toInt ≠ 0 from ti_ne rfl (by decide) c8)
      refine lv_iconst (v := 1) hx hb dX12_kindHere_22 (by decide) ?_
      rw [hQ]
      exact W.iret (v := 1) hx hb hr (fun t ht hW => ⟨⟨1, σ, rfl, ⟨rfl, (by have k9 : (1 : Int32).toInt = 1 := by decide
         omega), (by have k9 : (1 : Int32).toInt = 1 := by decide
         omega)⟩, wEn_of hP (hK.sub [] rfl) hD ht hW⟩, hS.F ht⟩) hS.2.2 dX12_kindHere_23
  · have tc4 := (show z2.toInt ≠ 0 from ti_ne rfl (by decide) c4)
    refine lv_iconst (v := 0) hx hb dX12_kindHere_10 (by decide) ?_
    rw [hQ]
    exact W.iret (v := 0) hx hb hr (fun t ht hW => ⟨⟨0, σ, rfl, ⟨rfl, (by have k9 : (0 : Int32).toInt = 0 := by decide
       omega), (by have k9 : (0 : Int32).toInt = 0 := by decide
       omega)⟩, wEn_of hP (hK.sub [] rfl) hD ht hW⟩, hS.F ht⟩) hS.2.2 dX12_kindHere_11
def ow_n_rowNamed : List Cond := [.fieldLink RX12 20 "NearEnoughModel" "rowMany" "[I", .fieldLink RX12 243 "NearEnoughModel" "rb" "I", .fieldLink RX12 199 "NearEnoughModel" "token" "I", .fieldLink RX12 63 "NearEnoughModel" "rName" "[J", .fieldLink RX12 206 "NearEnoughModel" "name" "J"]
def vs_n_rowNamed : List Cond := .code yX12_rowNamed cX12_rowNamed 2 (some .int) :: (ow_n_rowNamed ++ (wsX120))
theorem vg_n_rowNamed : vs_n_rowNamed.all goodWord = true := by decide +kernel
def rm_n_rowNamed : Room := { frames := 0, cells := 0, slots := 0, locals := 0 }
set_option maxHeartbeats 4000000 in
set_option maxRecDepth 100000 in
theorem n_rowNamed (l : Launch) (dC : Nat → ClassId) (dI : Nat → Nat → Nat) (h : Nat) (ad : Nat → Nat) (cl : Nat → ClassId) (sz : Nat) (σ : MS)  (hI : Inv σ) : Met l yX12_rowNamed vs_n_rowNamed rm_n_rowNamed (va_Pc [.ref h] (wSt dC dI (mW h ad cl σ) (mT cl) sz)) (va_Qi (fun (r : Int32) (τ : MS) => τ = σ ∧ -1 ≤ r.toInt ∧ r.toInt ≤ 1) (fun (τ : MS) => wEn dC dI (va_A (mW h ad cl σ) sz) (mW h ad cl τ) []) (va_A (mW h ad cl σ) sz)) 0 0 (va_A (mW h ad cl σ) sz) := by
  refine Met.ofW (cc := cX12_rowNamed) (maxL := 2) (ret := (some .int)) (by decide) rfl ?_
  intro p e s m args below meth c s₁ B hml hv
  obtain ⟨rfl, hsz, hP, hK, hD0, hE⟩ := hv
  have hx := B.exec
  have hb := B.bytes
  have hr := B.returns
  have hts := atoms_spec (ws := vs_n_rowNamed) B.pre
  have hown : s.vm.findClass RX12 = some m.cls := findClass_of_methodNamed B.named
  have hlocks := B.notSynchronized
  subst hsz
  have hD := hD0.self (sz := s.heap.size)
  generalize hAe : va_A (mW h ad cl σ) s.heap.size = A at hD ⊢
  have hA : ∀ q : Nat, s.heap.size ≤ q → A q := fun q h => by rw [← hAe]; exact Or.inr h
  have hl := lv_entry ([.ref h]) (n := 2) (Nat.le_of_ble_eq_true rfl)
  rw [lg_entry_eq]
  generalize (lg_sl ([.ref h]) ++ List.replicate (2 - (lg_sl ([.ref h])).length) Slot.unset).toArray = ls at hl ⊢
  have hl : lv_has ls 2 [(0, .ref h)] := hl
  have ho := fun w (h : w ∈ ow_n_rowNamed) => hts w (List.mem_cons_of_mem _ (List.mem_append_left _ h))
  have hin12 : ∀ w ∈ u_ws RX12 TX12 59, w ∈ vs_n_rowNamed := fun w h => (List.mem_cons_of_mem _ (List.mem_append_right _ h))
  refine zQ (fun Q hQ => ?_)
  have pt_2 : ∀ (n : Nat) (τ : MS) (kv : Int32) (H : Heap) (locs : List Loc) (ls : Array Slot), (2 - kv.toInt).toNat < n → (Inv τ) → (τ = σ) → (0 ≤ kv.toInt) → va_P (dC, dI) vwCl (mW h ad cl τ) H → va_D A (mW h ad cl τ) → va_S A s.heap H locs → lv_has ls 2 [(0, .ref h), (1, .int kv)] → W p l e (headSpec vs_n_rowNamed rm_n_rowNamed).room s m #[Value.ref h] below meth c H locs 0 0 Q (F0 m 2 ls []) := by
    intro n
    induction n with
    | zero => intro τ kv H locs ls hn hIτ hxτ hk0 hP hD hS hl; exact absurd hn (Nat.not_lt_zero _)
    | succ n ih =>
      intro τ kv H locs ls hn hIτ hxτ hk0 hP hD hS hl
      have bτ_30 : 0 ≤ (τ.1 30).toInt ∧ (τ.1 30).toInt ≤ 1 := hIτ.1 30
      refine lv_iload_n hx hb dX12_rowNamed_2 rfl (lv_at hl 1 rfl) ?_
      refine lv_aload_n hx hb dX12_rowNamed_3 rfl (lv_at hl 0 rfl) ?_
      refine va_get (D := (dC, dI)) (ci := 12) (v := .ref (ad 11)) (C := RX12) (T := TX12) (N := 59) hx hb hts hin12 hown hK hP 0 rfl rfl 11 (by decide) (ho (.fieldLink RX12 20 "NearEnoughModel" "rowMany" "[I") (List.mem_of_getElem? (i := 0) rfl)) (fun _ h9 => h9) rfl dX12_rowNamed_4 ?_
      refine lv_aload_n hx hb dX12_rowNamed_7 rfl (lv_at hl 0 rfl) ?_
      refine va_get (D := (dC, dI)) (ci := 12) (v := .int (τ.1 30)) (C := RX12) (T := TX12) (N := 59) hx hb hts hin12 hown hK hP 0 rfl rfl 30 (by decide) (ho (.fieldLink RX12 243 "NearEnoughModel" "rb" "I") (List.mem_of_getElem? (i := 1) rfl)) (fun _ h9 => h9) rfl dX12_rowNamed_8 ?_
      have bτ_30 : 0 ≤ (τ.1 30).toInt ∧ (τ.1 30).toInt ≤ 1 := hIτ.1 30
      refine va_iald hx hb hK hP 3 2 rfl rfl (ti_in rfl (by omega) (by omega)) dX12_rowNamed_11 ?_
      refine lv_topi (fun z1 ez1 => ?_)
      have bz1 : 0 ≤ z1.toInt ∧ z1.toInt ≤ 2 := by rw [ez1]; exact hIτ.2 11 _ (by have := ti_cl (x := (τ.1 30)) rfl (by omega); show _ < 2; omega)
      refine lv_icmp_ge (tgt := 52) hx hb dX12_rowNamed_12 (by decide) (fun c2 => ?_) (fun c2 => ?_)
      · have tc2 := (show z1.toInt ≤ kv.toInt from ti_le rfl rfl c2)
        refine lv_iconst (v := (-1)) hx hb dX12_rowNamed_52 (by decide) ?_
        rw [hQ]
        exact W.iret (v := (-1)) hx hb hr (fun t ht hW => ⟨⟨(-1), τ, rfl, ⟨hxτ, (by have k9 : ((-1) : Int32).toInt = (-1) := by decide
           omega), (by have k9 : ((-1) : Int32).toInt = (-1) := by decide
           omega)⟩, wEn_of hP (hK.sub [] rfl) hD ht hW⟩, hS.F ht⟩) hS.2.2 dX12_rowNamed_53
      · have tc2 := (show kv.toInt < z1.toInt from ti_nle rfl rfl c2)
        refine lv_aload_n hx hb dX12_rowNamed_15 rfl (lv_at hl 0 rfl) ?_
        refine va_get (D := (dC, dI)) (ci := 12) (v := .int (τ.1 8)) (C := RX12) (T := TX12) (N := 59) hx hb hts hin12 hown hK hP 0 rfl rfl 8 (by decide) (ho (.fieldLink RX12 199 "NearEnoughModel" "token" "I") (List.mem_of_getElem? (i := 2) rfl)) (fun _ h9 => h9) rfl dX12_rowNamed_16 ?_
        have bτ_8 : 0 ≤ (τ.1 8).toInt ∧ (τ.1 8).toInt ≤ 5 := hIτ.1 8
        refine lv_iconst (v := 2) hx hb dX12_rowNamed_19 (by decide) ?_
        refine lv_icmp_ne (tgt := 46) hx hb dX12_rowNamed_20 (by decide) (fun c3 => ?_) (fun c3 => ?_)
        · have tc3 := (show (τ.1 8).toInt ≠ 2 from ti_ne rfl (by decide) c3)
          obtain ⟨z4, ez4⟩ : ∃ y : Int32, y = kv + 1 := ⟨_, rfl⟩
          have tz4 := ti_add ez4 rfl (show (1 : Int32).toInt = 1 by decide) (by omega) (by omega)
          refine lv_iinc (v := z4) (lv' := [(1, .int z4), (0, .ref h)]) hx hb dX12_rowNamed_46 hl (k := 1) rfl (by rw [ez4]; rfl) (by decide) rfl (fun ls hl => ?_)
          refine lv_goto (tgt := 2) hx hb dX12_rowNamed_49 (by decide) ?_
          exact ih τ z4 _ _ _ (show (2 - z4.toInt).toNat < n by omega) hIτ hxτ (show 0 ≤ z4.toInt by omega) hP hD hS (lv_sub hl [1, 0] rfl)
        · have tc3 := (show (τ.1 8).toInt = 2 from ti_eq rfl (by decide) c3)
          refine lv_aload_n hx hb dX12_rowNamed_23 rfl (lv_at hl 0 rfl) ?_
          refine va_get (D := (dC, dI)) (ci := 12) (v := .ref (ad 25)) (C := RX12) (T := TX12) (N := 59) hx hb hts hin12 hown hK hP 0 rfl rfl 25 (by decide) (ho (.fieldLink RX12 63 "NearEnoughModel" "rName" "[J") (List.mem_of_getElem? (i := 3) rfl)) (fun _ h9 => h9) rfl dX12_rowNamed_24 ?_
          refine lv_iconst (v := 2) hx hb dX12_rowNamed_27 (by decide) ?_
          refine lv_aload_n hx hb dX12_rowNamed_28 rfl (lv_at hl 0 rfl) ?_
          refine va_get (D := (dC, dI)) (ci := 12) (v := .int (τ.1 30)) (C := RX12) (T := TX12) (N := 59) hx hb hts hin12 hown hK hP 0 rfl rfl 30 (by decide) (ho (.fieldLink RX12 243 "NearEnoughModel" "rb" "I") (List.mem_of_getElem? (i := 1) rfl)) (fun _ h9 => h9) rfl dX12_rowNamed_29 ?_
          have bτ_30 : 0 ≤ (τ.1 30).toInt ∧ (τ.1 30).toInt ≤ 1 := hIτ.1 30
          refine lv_imul hx hb dX12_rowNamed_32 ?_
          refine lv_topi (fun z5 ez5 => ?_)
          have tz5 : z5.toInt = 2 * (τ.1 30).toInt := ti_mul ez5 (by decide) rfl (by omega) (by omega)
          refine lv_iload_n hx hb dX12_rowNamed_33 rfl (lv_at hl 1 rfl) ?_
          refine lv_iadd hx hb dX12_rowNamed_34 ?_
          refine lv_topi (fun z6 ez6 => ?_)
          have tz6 : z6.toInt = z5.toInt + kv.toInt := ti_add ez6 rfl rfl (by omega) (by omega)
          refine va_lald hx hb hK hP 17 16 rfl rfl (ti_in rfl (by omega) (by omega)) dX12_rowNamed_35 ?_
          refine lv_topl (fun y7 ey7 => ?_)
          refine lv_aload_n hx hb dX12_rowNamed_36 rfl (lv_at hl 0 rfl) ?_
          refine va_get (D := (dC, dI)) (ci := 12) (v := .long (τ.2.2.2 10)) (C := RX12) (T := TX12) (N := 59) hx hb hts hin12 hown hK hP 0 rfl rfl 10 (by decide) (ho (.fieldLink RX12 206 "NearEnoughModel" "name" "J") (List.mem_of_getElem? (i := 4) rfl)) (fun _ h9 => h9) rfl dX12_rowNamed_37 ?_
          refine W.lcmp hx hb dX12_rowNamed_40 ?_
          refine lv_topi (fun z8 ez8 => ?_)
          refine lv_if_ne (tgt := 46) hx hb dX12_rowNamed_41 (by decide) (fun c9 => ?_) (fun c9 => ?_)
          · have tc9 := (show z8.toInt ≠ 0 from ti_ne rfl (by decide) c9)
            obtain ⟨z10, ez10⟩ : ∃ y : Int32, y = kv + 1 := ⟨_, rfl⟩
            have tz10 := ti_add ez10 rfl (show (1 : Int32).toInt = 1 by decide) (by omega) (by omega)
            refine lv_iinc (v := z10) (lv' := [(1, .int z10), (0, .ref h)]) hx hb dX12_rowNamed_46 hl (k := 1) rfl (by rw [ez10]; rfl) (by decide) rfl (fun ls hl => ?_)
            refine lv_goto (tgt := 2) hx hb dX12_rowNamed_49 (by decide) ?_
            exact ih τ z10 _ _ _ (show (2 - z10.toInt).toNat < n by omega) hIτ hxτ (show 0 ≤ z10.toInt by omega) hP hD hS (lv_sub hl [1, 0] rfl)
          · have tc9 := (show z8.toInt = 0 from ti_eq rfl (by decide) c9)
            refine lv_iload_n hx hb dX12_rowNamed_44 rfl (lv_at hl 1 rfl) ?_
            rw [hQ]
            exact W.iret (v := kv) hx hb hr (fun t ht hW => ⟨⟨kv, τ, rfl, ⟨hxτ, (by omega), (by omega)⟩, wEn_of hP (hK.sub [] rfl) hD ht hW⟩, hS.F ht⟩) hS.2.2 dX12_rowNamed_45
  refine zH (A := A) (ws := mW h ad cl σ) (fun H hP hS => ?_) hP
  have bσ_30 : 0 ≤ (σ.1 30).toInt ∧ (σ.1 30).toInt ≤ 1 := hI.1 30
  refine lv_iconst (v := 0) hx hb dX12_rowNamed_0 (by decide) ?_
  refine lv_istore_n (lv' := [(1, .int 0), (0, .ref h)]) hx hb dX12_rowNamed_1 rfl hl (by decide) rfl (fun ls hl => ?_)
  exact rb _ σ 0 _ _ _ (Nat.lt_succ_self _) hI rfl (show 0 ≤ (0 : Int32).toInt by omega) hP hD hS (lv_sub hl [1, 0] rfl)
def ow_n_stepNamed : List Cond := [.fieldLink RX12 24 "NearEnoughModel" "stepMany" "[I", .fieldLink RX12 243 "NearEnoughModel" "rb" "I", .fieldLink RX12 199 "NearEnoughModel" "token" "I", .fieldLink RX12 67 "NearEnoughModel" "sName" "[J", .fieldLink RX12 206 "NearEnoughModel" "name" "J"]
def vs_n_stepNamed : List Cond := .code yX12_stepNamed cX12_stepNamed 2 (some .int) :: (ow_n_stepNamed ++ (wsX120))
theorem vg_n_stepNamed : vs_n_stepNamed.all goodWord = true := by decide +kernel
def rm_n_stepNamed : Room := { frames := 0, cells := 0, slots := 0, locals := 0 }
set_option maxHeartbeats 4000000 in
set_option maxRecDepth 100000 in
theorem n_stepNamed (l : Launch) (dC : Nat → ClassId) (dI : Nat → Nat → Nat) (h : Nat) (ad : Nat → Nat) (cl : Nat → ClassId) (sz : Nat) (σ : MS)  (hI : Inv σ) : Met l yX12_stepNamed vs_n_stepNamed rm_n_stepNamed (va_Pc [.ref h] (wSt dC dI (mW h ad cl σ) (mT cl) sz)) (va_Qi (fun (r : Int32) (τ : MS) => τ = σ ∧ -1 ≤ r.toInt ∧ r.toInt ≤ 11) (fun (τ : MS) => wEn dC dI (va_A (mW h ad cl σ) sz) (mW h ad cl τ) []) (va_A (mW h ad cl σ) sz)) 0 0 (va_A (mW h ad cl σ) sz) := by
  refine Met.ofW (cc := cX12_stepNamed) (maxL := 2) (ret := (some .int)) (by decide) rfl ?_
  intro p e s m args below meth c s₁ B hml hv
  obtain ⟨rfl, hsz, hP, hK, hD0, hE⟩ := hv
  have hx := B.exec
  have hb := B.bytes
  have hr := B.returns
  have hts := atoms_spec (ws := vs_n_stepNamed) B.pre
  have hown : s.vm.findClass RX12 = some m.cls := findClass_of_methodNamed B.named
  have hlocks := B.notSynchronized
  subst hsz
  have hD := hD0.self (sz := s.heap.size)
  generalize hAe : va_A (mW h ad cl σ) s.heap.size = A at hD ⊢
  have hA : ∀ q : Nat, s.heap.size ≤ q → A q := fun q h => by rw [← hAe]; exact Or.inr h
  have hl := lv_entry ([.ref h]) (n := 2) (Nat.le_of_ble_eq_true rfl)
  rw [lg_entry_eq]
  generalize (lg_sl ([.ref h]) ++ List.replicate (2 - (lg_sl ([.ref h])).length) Slot.unset).toArray = ls at hl ⊢
  have hl : lv_has ls 2 [(0, .ref h)] := hl
  have ho := fun w (h : w ∈ ow_n_stepNamed) => hts w (List.mem_cons_of_mem _ (List.mem_append_left _ h))
  have hin12 : ∀ w ∈ u_ws RX12 TX12 59, w ∈ vs_n_stepNamed := fun w h => (List.mem_cons_of_mem _ (List.mem_append_right _ h))
  refine zQ (fun Q hQ => ?_)
  have pt_2 : ∀ (n : Nat) (τ : MS) (kv : Int32) (H : Heap) (locs : List Loc) (ls : Array Slot), (12 - kv.toInt).toNat < n → (Inv τ) → (τ = σ) → (0 ≤ kv.toInt) → va_P (dC, dI) vwCl (mW h ad cl τ) H → va_D A (mW h ad cl τ) → va_S A s.heap H locs → lv_has ls 2 [(0, .ref h), (1, .int kv)] → W p l e (headSpec vs_n_stepNamed rm_n_stepNamed).room s m #[Value.ref h] below meth c H locs 0 0 Q (F0 m 2 ls []) := by
    intro n
    induction n with
    | zero => intro τ kv H locs ls hn hIτ hxτ hk0 hP hD hS hl; exact absurd hn (Nat.not_lt_zero _)
    | succ n ih =>
      intro τ kv H locs ls hn hIτ hxτ hk0 hP hD hS hl
      have bτ_30 : 0 ≤ (τ.1 30).toInt ∧ (τ.1 30).toInt ≤ 1 := hIτ.1 30
      refine lv_iload_n hx hb dX12_stepNamed_2 rfl (lv_at hl 1 rfl) ?_
      refine lv_aload_n hx hb dX12_stepNamed_3 rfl (lv_at hl 0 rfl) ?_
      refine va_get (D := (dC, dI)) (ci := 12) (v := .ref (ad 12)) (C := RX12) (T := TX12) (N := 59) hx hb hts hin12 hown hK hP 0 rfl rfl 12 (by decide) (ho (.fieldLink RX12 24 "NearEnoughModel" "stepMany" "[I") (List.mem_of_getElem? (i := 0) rfl)) (fun _ h9 => h9) rfl dX12_stepNamed_4 ?_
      refine lv_aload_n hx hb dX12_stepNamed_7 rfl (lv_at hl 0 rfl) ?_
      refine va_get (D := (dC, dI)) (ci := 12) (v := .int (τ.1 30)) (C := RX12) (T := TX12) (N := 59) hx hb hts hin12 hown hK hP 0 rfl rfl 30 (by decide) (ho (.fieldLink RX12 243 "NearEnoughModel" "rb" "I") (List.mem_of_getElem? (i := 1) rfl)) (fun _ h9 => h9) rfl dX12_stepNamed_8 ?_
      have bτ_30 : 0 ≤ (τ.1 30).toInt ∧ (τ.1 30).toInt ≤ 1 := hIτ.1 30
      refine va_iald hx hb hK hP 4 3 rfl rfl (ti_in rfl (by omega) (by omega)) dX12_stepNamed_11 ?_
      refine lv_topi (fun z1 ez1 => ?_)
      have bz1 : 0 ≤ z1.toInt ∧ z1.toInt ≤ 12 := by rw [ez1]; exact hIτ.2 12 _ (by have := ti_cl (x := (τ.1 30)) rfl (by omega); show _ < 2; omega)
      refine lv_icmp_ge (tgt := 53) hx hb dX12_stepNamed_12 (by decide) (fun c2 => ?_) (fun c2 => ?_)
      · have tc2 := (show z1.toInt ≤ kv.toInt from ti_le rfl rfl c2)
        refine lv_iconst (v := (-1)) hx hb dX12_stepNamed_53 (by decide) ?_
        rw [hQ]
        exact W.iret (v := (-1)) hx hb hr (fun t ht hW => ⟨⟨(-1), τ, rfl, ⟨hxτ, (by have k9 : ((-1) : Int32).toInt = (-1) := by decide
           omega), (by have k9 : ((-1) : Int32).toInt = (-1) := by decide
           omega)⟩, wEn_of hP (hK.sub [] rfl) hD ht hW⟩, hS.F ht⟩) hS.2.2 dX12_stepNamed_54
      · have tc2 := (show kv.toInt < z1.toInt from ti_nle rfl rfl c2)
        refine lv_aload_n hx hb dX12_stepNamed_15 rfl (lv_at hl 0 rfl) ?_
        refine va_get (D := (dC, dI)) (ci := 12) (v := .int (τ.1 8)) (C := RX12) (T := TX12) (N := 59) hx hb hts hin12 hown hK hP 0 rfl rfl 8 (by decide) (ho (.fieldLink RX12 199 "NearEnoughModel" "token" "I") (List.mem_of_getElem? (i := 2) rfl)) (fun _ h9 => h9) rfl dX12_stepNamed_16 ?_
        have bτ_8 : 0 ≤ (τ.1 8).toInt ∧ (τ.1 8).toInt ≤ 5 := hIτ.1 8
        refine lv_iconst (v := 2) hx hb dX12_stepNamed_19 (by decide) ?_
        refine lv_icmp_ne (tgt := 47) hx hb dX12_stepNamed_20 (by decide) (fun c3 => ?_) (fun c3 => ?_)
        · have tc3 := (show (τ.1 8).toInt ≠ 2 from ti_ne rfl (by decide) c3)
          obtain ⟨z4, ez4⟩ : ∃ y : Int32, y = kv + 1 := ⟨_, rfl⟩
          have tz4 := ti_add ez4 rfl (show (1 : Int32).toInt = 1 by decide) (by omega) (by omega)
          refine lv_iinc (v := z4) (lv' := [(1, .int z4), (0, .ref h)]) hx hb dX12_stepNamed_47 hl (k := 1) rfl (by rw [ez4]; rfl) (by decide) rfl (fun ls hl => ?_)
          refine lv_goto (tgt := 2) hx hb dX12_stepNamed_50 (by decide) ?_
          exact ih τ z4 _ _ _ (show (12 - z4.toInt).toNat < n by omega) hIτ hxτ (show 0 ≤ z4.toInt by omega) hP hD hS (lv_sub hl [1, 0] rfl)
        · have tc3 := (show (τ.1 8).toInt = 2 from ti_eq rfl (by decide) c3)
          refine lv_aload_n hx hb dX12_stepNamed_23 rfl (lv_at hl 0 rfl) ?_
          refine va_get (D := (dC, dI)) (ci := 12) (v := .ref (ad 26)) (C := RX12) (T := TX12) (N := 59) hx hb hts hin12 hown hK hP 0 rfl rfl 26 (by decide) (ho (.fieldLink RX12 67 "NearEnoughModel" "sName" "[J") (List.mem_of_getElem? (i := 3) rfl)) (fun _ h9 => h9) rfl dX12_stepNamed_24 ?_
          refine lv_bipush (v := 12) hx hb dX12_stepNamed_27 (by decide) ?_
          refine lv_aload_n hx hb dX12_stepNamed_29 rfl (lv_at hl 0 rfl) ?_
          refine va_get (D := (dC, dI)) (ci := 12) (v := .int (τ.1 30)) (C := RX12) (T := TX12) (N := 59) hx hb hts hin12 hown hK hP 0 rfl rfl 30 (by decide) (ho (.fieldLink RX12 243 "NearEnoughModel" "rb" "I") (List.mem_of_getElem? (i := 1) rfl)) (fun _ h9 => h9) rfl dX12_stepNamed_30 ?_
          have bτ_30 : 0 ≤ (τ.1 30).toInt ∧ (τ.1 30).toInt ≤ 1 := hIτ.1 30
          refine lv_imul hx hb dX12_stepNamed_33 ?_
          refine lv_topi (fun z5 ez5 => ?_)
          have tz5 : z5.toInt = 12 * (τ.1 30).toInt := ti_mul ez5 (by decide) rfl (by omega) (by omega)
          refine lv_iload_n hx hb dX12_stepNamed_34 rfl (lv_at hl 1 rfl) ?_
          refine lv_iadd hx hb dX12_stepNamed_35 ?_
          refine lv_topi (fun z6 ez6 => ?_)
          have tz6 : z6.toInt = z5.toInt + kv.toInt := ti_add ez6 rfl rfl (by omega) (by omega)
          refine va_lald hx hb hK hP 18 17 rfl rfl (ti_in rfl (by omega) (by omega)) dX12_stepNamed_36 ?_
          refine lv_topl (fun y7 ey7 => ?_)
          refine lv_aload_n hx hb dX12_stepNamed_37 rfl (lv_at hl 0 rfl) ?_
          refine va_get (D := (dC, dI)) (ci := 12) (v := .long (τ.2.2.2 10)) (C := RX12) (T := TX12) (N := 59) hx hb hts hin12 hown hK hP 0 rfl rfl 10 (by decide) (ho (.fieldLink RX12 206 "NearEnoughModel" "name" "J") (List.mem_of_getElem? (i := 4) rfl)) (fun _ h9 => h9) rfl dX12_stepNamed_38 ?_
          refine W.lcmp hx hb dX12_stepNamed_41 ?_
          refine lv_topi (fun z8 ez8 => ?_)
          refine lv_if_ne (tgt := 47) hx hb dX12_stepNamed_42 (by decide) (fun c9 => ?_) (fun c9 => ?_)
          · have tc9 := (show z8.toInt ≠ 0 from ti_ne rfl (by decide) c9)
            obtain ⟨z10, ez10⟩ : ∃ y : Int32, y = kv + 1 := ⟨_, rfl⟩
            have tz10 := ti_add ez10 rfl (show (1 : Int32).toInt = 1 by decide) (by omega) (by omega)
            refine lv_iinc (v := z10) (lv' := [(1, .int z10), (0, .ref h)]) hx hb dX12_stepNamed_47 hl (k := 1) rfl (by rw [ez10]; rfl) (by decide) rfl (fun ls hl => ?_)
            refine lv_goto (tgt := 2) hx hb dX12_stepNamed_50 (by decide) ?_
            exact ih τ z10 _ _ _ (show (12 - z10.toInt).toNat < n by omega) hIτ hxτ (show 0 ≤ z10.toInt by omega) hP hD hS (lv_sub hl [1, 0] rfl)
          · have tc9 := (show z8.toInt = 0 from ti_eq rfl (by decide) c9)
            refine lv_iload_n hx hb dX12_stepNamed_45 rfl (lv_at hl 1 rfl) ?_
            rw [hQ]
            exact W.iret (v := kv) hx hb hr (fun t ht hW => ⟨⟨kv, τ, rfl, ⟨hxτ, (by omega), (by omega)⟩, wEn_of hP (hK.sub [] rfl) hD ht hW⟩, hS.F ht⟩) hS.2.2 dX12_stepNamed_46
  refine zH (A := A) (ws := mW h ad cl σ) (fun H hP hS => ?_) hP
  have bσ_30 : 0 ≤ (σ.1 30).toInt ∧ (σ.1 30).toInt ≤ 1 := hI.1 30
  refine lv_iconst (v := 0) hx hb dX12_stepNamed_0 (by decide) ?_
  refine lv_istore_n (lv' := [(1, .int 0), (0, .ref h)]) hx hb dX12_stepNamed_1 rfl hl (by decide) rfl (fun ls hl => ?_)
  exact rb _ σ 0 _ _ _ (Nat.lt_succ_self _) hI rfl (show 0 ≤ (0 : Int32).toInt by omega) hP hD hS (lv_sub hl [1, 0] rfl)
def ow_n_fresh : List Cond := [.fieldLink RX12 192 "NearEnoughModel" "at" "I"]
def vs_n_fresh : List Cond := .code yX12_fresh cX12_fresh 1 none :: (ow_n_fresh ++ (([.methodLink RX12 282 yX12_rowNamed, .instanceMethod yX12_rowNamed, .selects RX12 yX12_rowNamed yX12_rowNamed, .initialized RX12] : List Cond) ++ (vs_n_rowNamed ++ (([.methodLink RX12 220 yX12_fails, .instanceMethod yX12_fails, .selects RX12 yX12_fails yX12_fails, .initialized RX12] : List Cond) ++ (vs_n_fails ++ (([.methodLink RX12 285 yX12_stepNamed, .instanceMethod yX12_stepNamed, .selects RX12 yX12_stepNamed yX12_stepNamed, .initialized RX12] : List Cond) ++ (vs_n_stepNamed ++ (wsX120))))))))
theorem vg_n_fresh : vs_n_fresh.all goodWord = true := by decide +kernel
def rm_n_fresh : Room := { frames := 1, cells := 0, slots := 0, locals := 22 }
theorem gd_n_fresh_282_n_rowNamed : GoodIn vs_n_fresh (wsV RX12 282 RX12 yX12_rowNamed vs_n_rowNamed) := goodIn_app (goodIn_sub (fun w h => (List.mem_cons_of_mem _ (List.mem_append_right _ (List.mem_append_left _ h)))) (by decide +kernel)) (goodIn_sub (fun w h => (List.mem_cons_of_mem _ (List.mem_append_right _ (List.mem_append_right _ (List.mem_append_left _ h))))) vg_n_rowNamed)
theorem gd_n_fresh_220_n_fails : GoodIn vs_n_fresh (wsV RX12 220 RX12 yX12_fails vs_n_fails) := goodIn_app (goodIn_sub (fun w h => (List.mem_cons_of_mem _ (List.mem_append_right _ (List.mem_append_right _ (List.mem_append_right _ (List.mem_append_left _ h)))))) (by decide +kernel)) (goodIn_sub (fun w h => (List.mem_cons_of_mem _ (List.mem_append_right _ (List.mem_append_right _ (List.mem_append_right _ (List.mem_append_right _ (List.mem_append_left _ h))))))) vg_n_fails)
theorem gd_n_fresh_285_n_stepNamed : GoodIn vs_n_fresh (wsV RX12 285 RX12 yX12_stepNamed vs_n_stepNamed) := goodIn_app (goodIn_sub (fun w h => (List.mem_cons_of_mem _ (List.mem_append_right _ (List.mem_append_right _ (List.mem_append_right _ (List.mem_append_right _ (List.mem_append_right _ (List.mem_append_left _ h)))))))) (by decide +kernel)) (goodIn_sub (fun w h => (List.mem_cons_of_mem _ (List.mem_append_right _ (List.mem_append_right _ (List.mem_append_right _ (List.mem_append_right _ (List.mem_append_right _ (List.mem_append_right _ (List.mem_append_left _ h))))))))) vg_n_stepNamed)
set_option maxHeartbeats 4000000 in
set_option maxRecDepth 100000 in
theorem n_fresh (l : Launch) (dC : Nat → ClassId) (dI : Nat → Nat → Nat) (h : Nat) (ad : Nat → Nat) (cl : Nat → ClassId) (sz : Nat) (σ : MS)  (hI : Inv σ) : Met l yX12_fresh vs_n_fresh rm_n_fresh (va_Pc [.ref h] (wSt dC dI (mW h ad cl σ) (mT cl) sz)) (va_Qv (fun (τ : MS) => Inv τ ∧ eqx [4, 5] τ σ) (fun (τ : MS) => wEn dC dI (va_A (mW h ad cl σ) sz) (mW h ad cl τ) []) (va_A (mW h ad cl σ) sz)) 0 0 (va_A (mW h ad cl σ) sz) := by
  refine Met.ofW (cc := cX12_fresh) (maxL := 1) (ret := none) (by decide) rfl ?_
  intro p e s m args below meth c s₁ B hml hv
  obtain ⟨rfl, hsz, hP, hK, hD0, hE⟩ := hv
  have hx := B.exec
  have hb := B.bytes
  have hr := B.returns
  have hts := atoms_spec (ws := vs_n_fresh) B.pre
  have hown : s.vm.findClass RX12 = some m.cls := findClass_of_methodNamed B.named
  have hlocks := B.notSynchronized
  subst hsz
  have hD := hD0.self (sz := s.heap.size)
  generalize hAe : va_A (mW h ad cl σ) s.heap.size = A at hD ⊢
  have hA : ∀ q : Nat, s.heap.size ≤ q → A q := fun q h => by rw [← hAe]; exact Or.inr h
  have hl := lv_entry ([.ref h]) (n := 1) (Nat.le_of_ble_eq_true rfl)
  rw [lg_entry_eq]
  generalize (lg_sl ([.ref h]) ++ List.replicate (1 - (lg_sl ([.ref h])).length) Slot.unset).toArray = ls at hl ⊢
  have hl : lv_has ls 1 [(0, .ref h)] := hl
  have ho := fun w (h : w ∈ ow_n_fresh) => hts w (List.mem_cons_of_mem _ (List.mem_append_left _ h))
  have hin12 : ∀ w ∈ u_ws RX12 TX12 59, w ∈ vs_n_fresh := fun w h => (List.mem_cons_of_mem _ (List.mem_append_right _ (List.mem_append_right _ (List.mem_append_right _ (List.mem_append_right _ (List.mem_append_right _ (List.mem_append_right _ (List.mem_append_right _ h))))))))
  refine zQ (fun Q hQ => ?_)
  refine zH (A := A) (ws := mW h ad cl σ) (fun H hP hS => ?_) hP
  refine lv_aload_n hx hb dX12_fresh_0 rfl (lv_at hl 0 rfl) ?_
  refine zy_i (va_runV (As := []) (rest := []) ⟨hx, hb, hml, hown, hts⟩ (n_rowNamed l dC dI h ad cl H.size σ  hI) (cwV 0 hts gd_n_fresh_282_n_rowNamed rfl rfl rfl (by decide +kernel) ⟨Nat.le_of_ble_eq_true rfl, Nat.le_of_ble_eq_true rfl⟩) (preV hP hK hD hE (ci := 12) (q0 := 0) rfl rfl) rfl rfl hl.1 rfl (lv_room (Nat.le_of_ble_eq_true rfl)) dX12_fresh_1 ⟨Nat.le_of_ble_eq_true rfl, Nat.le_of_ble_eq_true rfl⟩) hD hS hA (fun z2 τ1 H locs hq hP hD hS => ?_)
  obtain ⟨rfl, f3, f4⟩ := hq
  refine W.widen (k := 0) (n := 0) (Nat.le_of_ble_eq_true rfl) (Nat.le_of_ble_eq_true rfl) ?_
  refine lv_if_ge (tgt := 14) hx hb dX12_fresh_4 (by decide) (fun c5 => ?_) (fun c5 => ?_)
  · have tc5 := (show 0 ≤ z2.toInt from ti_le (by decide) rfl c5)
    refine lv_aload_n hx hb dX12_fresh_14 rfl (lv_at hl 0 rfl) ?_
    refine lv_iconst (v := 3) hx hb dX12_fresh_15 (by decide) ?_
    refine lv_aload_n hx hb dX12_fresh_16 rfl (lv_at hl 0 rfl) ?_
    refine va_get (D := (dC, dI)) (ci := 12) (v := .int (σ.1 6)) (C := RX12) (T := TX12) (N := 59) hx hb hts hin12 hown hK hP 0 rfl rfl 6 (by decide) (ho (.fieldLink RX12 192 "NearEnoughModel" "at" "I") (List.mem_of_getElem? (i := 0) rfl)) (fun _ h9 => h9) rfl dX12_fresh_17 ?_
    have bσ_6 : 0 ≤ (σ.1 6).toInt ∧ (σ.1 6).toInt ≤ 1000 := hI.1 6
    have kk6 : (3 : Int32).toInt = 3 := by decide
    refine zy_v (va_runV (As := [.int 3, .int (σ.1 6)]) (rest := []) ⟨hx, hb, hml, hown, hts⟩ (n_fails l dC dI h ad cl H.size σ 3 (σ.1 6) hI (by omega)) (cwV 2 hts gd_n_fresh_220_n_fails rfl rfl rfl (by decide +kernel) ⟨Nat.le_of_ble_eq_true rfl, Nat.le_of_ble_eq_true rfl⟩) (preV hP hK hD hE (ci := 12) (q0 := 0) rfl rfl) rfl rfl hl.1 rfl (lv_room (Nat.le_of_ble_eq_true rfl)) dX12_fresh_20 ⟨Nat.le_of_ble_eq_true rfl, Nat.le_of_ble_eq_true rfl⟩) hD hS hA (fun τ7 H locs hq hP hD hS => ?_)
    obtain ⟨hI9, hx10, f11⟩ := hq
    refine W.widen (k := 0) (n := 0) (Nat.le_of_ble_eq_true rfl) (Nat.le_of_ble_eq_true rfl) ?_
    rw [hQ]
    exact W.vret hx hb hr (fun t ht hW => ⟨⟨τ7, rfl, ⟨hI9, (eqx.tr hx10 eqx.rf (by decide))⟩, wEn_of hP (hK.sub [] rfl) hD ht hW⟩, hS.F ht⟩) hS.2.2 dX12_fresh_23
  · have tc5 := (show z2.toInt < 0 from ti_nle (by decide) rfl c5)
    refine lv_aload_n hx hb dX12_fresh_7 rfl (lv_at hl 0 rfl) ?_
    refine zy_i (va_runV (As := []) (rest := []) ⟨hx, hb, hml, hown, hts⟩ (n_stepNamed l dC dI h ad cl H.size σ  hI) (cwV 0 hts gd_n_fresh_285_n_stepNamed rfl rfl rfl (by decide +kernel) ⟨Nat.le_of_ble_eq_true rfl, Nat.le_of_ble_eq_true rfl⟩) (preV hP hK hD hE (ci := 12) (q0 := 0) rfl rfl) rfl rfl hl.1 rfl (lv_room (Nat.le_of_ble_eq_true rfl)) dX12_fresh_8 ⟨Nat.le_of_ble_eq_true rfl, Nat.le_of_ble_eq_true rfl⟩) hD hS hA (fun z13 τ12 H locs hq hP hD hS => ?_)
    obtain ⟨rfl, f14, f15⟩ := hq
    refine W.widen (k := 0) (n := 0) (Nat.le_of_ble_eq_true rfl) (Nat.le_of_ble_eq_true rfl) ?_
    refine lv_if_lt (tgt := 23) hx hb dX12_fresh_11 (by decide) (fun c16 => ?_) (fun c16 => ?_)
    · have tc16 := (show z13.toInt < 0 from ti_lt rfl (by decide) c16)
      rw [hQ]
      exact W.vret hx hb hr (fun t ht hW => ⟨⟨σ, rfl, ⟨hI, eqx.rf⟩, wEn_of hP (hK.sub [] rfl) hD ht hW⟩, hS.F ht⟩) hS.2.2 dX12_fresh_23
    · have tc16 := (show 0 ≤ z13.toInt from ti_nlt rfl (by decide) c16)
      refine lv_aload_n hx hb dX12_fresh_14 rfl (lv_at hl 0 rfl) ?_
      refine lv_iconst (v := 3) hx hb dX12_fresh_15 (by decide) ?_
      refine lv_aload_n hx hb dX12_fresh_16 rfl (lv_at hl 0 rfl) ?_
      refine va_get (D := (dC, dI)) (ci := 12) (v := .int (σ.1 6)) (C := RX12) (T := TX12) (N := 59) hx hb hts hin12 hown hK hP 0 rfl rfl 6 (by decide) (ho (.fieldLink RX12 192 "NearEnoughModel" "at" "I") (List.mem_of_getElem? (i := 0) rfl)) (fun _ h9 => h9) rfl dX12_fresh_17 ?_
      have bσ_6 : 0 ≤ (σ.1 6).toInt ∧ (σ.1 6).toInt ≤ 1000 := hI.1 6
      have kk17 : (3 : Int32).toInt = 3 := by decide
      refine zy_v (va_runV (As := [.int 3, .int (σ.1 6)]) (rest := []) ⟨hx, hb, hml, hown, hts⟩ (n_fails l dC dI h ad cl H.size σ 3 (σ.1 6) hI (by omega)) (cwV 2 hts gd_n_fresh_220_n_fails rfl rfl rfl (by decide +kernel) ⟨Nat.le_of_ble_eq_true rfl, Nat.le_of_ble_eq_true rfl⟩) (preV hP hK hD hE (ci := 12) (q0 := 0) rfl rfl) rfl rfl hl.1 rfl (lv_room (Nat.le_of_ble_eq_true rfl)) dX12_fresh_20 ⟨Nat.le_of_ble_eq_true rfl, Nat.le_of_ble_eq_true rfl⟩) hD hS hA (fun τ18 H locs hq hP hD hS => ?_)
      obtain ⟨hI20, hx21, f22⟩ := hq
      refine W.widen (k := 0) (n := 0) (Nat.le_of_ble_eq_true rfl) (Nat.le_of_ble_eq_true rfl) ?_
      rw [hQ]
      exact W.vret hx hb hr (fun t ht hW => ⟨⟨τ18, rfl, ⟨hI20, (eqx.tr hx21 eqx.rf (by decide))⟩, wEn_of hP (hK.sub [] rfl) hD ht hW⟩, hS.F ht⟩) hS.2.2 dX12_fresh_23
