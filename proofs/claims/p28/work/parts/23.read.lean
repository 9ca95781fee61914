theorem dX12_must_0 : decode cX12_must 0 = .ok (.aload_n 0, 1) := by decide +kernel
theorem dX12_must_1 : decode cX12_must 1 = .ok (.invokevirtual 224, 3) := by decide +kernel
theorem dX12_must_4 : decode cX12_must 4 = .ok (.ifCond .ne 4, 3) := by decide +kernel
theorem dX12_must_8 : decode cX12_must 8 = .ok (.iload_n 1, 1) := by decide +kernel
theorem dX12_must_9 : decode cX12_must 9 = .ok (.ifCond .eq 10, 3) := by decide +kernel
theorem dX12_must_19 : decode cX12_must 19 = .ok (.aload_n 0, 1) := by decide +kernel
theorem dX12_must_20 : decode cX12_must 20 = .ok (.invokevirtual 231, 3) := by decide +kernel
theorem dX12_must_23 : decode cX12_must 23 = .ok (.return_, 1) := by decide +kernel
theorem dX12_must_12 : decode cX12_must 12 = .ok (.aload_n 0, 1) := by decide +kernel
theorem dX12_must_13 : decode cX12_must 13 = .ok (.invokevirtual 228, 3) := by decide +kernel
theorem dX12_must_16 : decode cX12_must 16 = .ok (.goto 7, 3) := by decide +kernel
theorem dX12_must_7 : decode cX12_must 7 = .ok (.return_, 1) := by decide +kernel
theorem dX12_numeral_69 : decode cX12_numeral 69 = .ok (.aload_n 0, 1) := by decide +kernel
theorem dX12_numeral_70 : decode cX12_numeral 70 = .ok (.invokevirtual 224, 3) := by decide +kernel
theorem dX12_numeral_73 : decode cX12_numeral 73 = .ok (.ifCond .eq 7, 3) := by decide +kernel
theorem dX12_numeral_80 : decode cX12_numeral 80 = .ok (.iload_n 1, 1) := by decide +kernel
theorem dX12_numeral_81 : decode cX12_numeral 81 = .ok (.ireturn, 1) := by decide +kernel
theorem dX12_numeral_76 : decode cX12_numeral 76 = .ok (.iload_n 3, 1) := by decide +kernel
theorem dX12_numeral_77 : decode cX12_numeral 77 = .ok (.goto 4, 3) := by decide +kernel
theorem dX12_numeral_58 : decode cX12_numeral 58 = .ok (.aload_n 0, 1) := by decide +kernel
theorem dX12_numeral_59 : decode cX12_numeral 59 = .ok (.invokevirtual 224, 3) := by decide +kernel
theorem dX12_numeral_62 : decode cX12_numeral 62 = .ok (.ifCond .eq 7, 3) := by decide +kernel
theorem dX12_numeral_65 : decode cX12_numeral 65 = .ok (.aload_n 0, 1) := by decide +kernel
theorem dX12_numeral_66 : decode cX12_numeral 66 = .ok (.invokevirtual 228, 3) := by decide +kernel
theorem dX12_numeral_21 : decode cX12_numeral 21 = .ok (.aload_n 0, 1) := by decide +kernel
theorem dX12_numeral_22 : decode cX12_numeral 22 = .ok (.invokevirtual 224, 3) := by decide +kernel
theorem dX12_numeral_25 : decode cX12_numeral 25 = .ok (.ifCond .eq 28, 3) := by decide +kernel
theorem dX12_numeral_53 : decode cX12_numeral 53 = .ok (.aload_n 0, 1) := by decide +kernel
theorem dX12_numeral_54 : decode cX12_numeral 54 = .ok (.getfield 217, 3) := by decide +kernel
theorem dX12_numeral_57 : decode cX12_numeral 57 = .ok (.istore_n 3, 1) := by decide +kernel
theorem dX12_numeral_28 : decode cX12_numeral 28 = .ok (.aload_n 0, 1) := by decide +kernel
theorem dX12_numeral_29 : decode cX12_numeral 29 = .ok (.getfield 217, 3) := by decide +kernel
theorem dX12_numeral_32 : decode cX12_numeral 32 = .ok (.iload_n 1, 1) := by decide +kernel
theorem dX12_numeral_33 : decode cX12_numeral 33 = .ok (.if_icmp .lt 11, 3) := by decide +kernel
theorem dX12_numeral_44 : decode cX12_numeral 44 = .ok (.aload_n 0, 1) := by decide +kernel
theorem dX12_numeral_45 : decode cX12_numeral 45 = .ok (.iconst 4, 1) := by decide +kernel
theorem dX12_numeral_46 : decode cX12_numeral 46 = .ok (.aload_n 0, 1) := by decide +kernel
theorem dX12_numeral_47 : decode cX12_numeral 47 = .ok (.getfield 192, 3) := by decide +kernel
theorem dX12_numeral_50 : decode cX12_numeral 50 = .ok (.invokevirtual 220, 3) := by decide +kernel
theorem dX12_numeral_36 : decode cX12_numeral 36 = .ok (.aload_n 0, 1) := by decide +kernel
theorem dX12_numeral_37 : decode cX12_numeral 37 = .ok (.getfield 217, 3) := by decide +kernel
theorem dX12_numeral_40 : decode cX12_numeral 40 = .ok (.iload_n 2, 1) := by decide +kernel
theorem dX12_numeral_41 : decode cX12_numeral 41 = .ok (.if_icmp .le 12, 3) := by decide +kernel
theorem dX12_numeral_0 : decode cX12_numeral 0 = .ok (.aload_n 0, 1) := by decide +kernel
theorem dX12_numeral_1 : decode cX12_numeral 1 = .ok (.invokevirtual 224, 3) := by decide +kernel
theorem dX12_numeral_4 : decode cX12_numeral 4 = .ok (.ifCond .ne 5, 3) := by decide +kernel
theorem dX12_numeral_9 : decode cX12_numeral 9 = .ok (.aload_n 0, 1) := by decide +kernel
theorem dX12_numeral_10 : decode cX12_numeral 10 = .ok (.getfield 199, 3) := by decide +kernel
theorem dX12_numeral_13 : decode cX12_numeral 13 = .ok (.iconst 4, 1) := by decide +kernel
theorem dX12_numeral_14 : decode cX12_numeral 14 = .ok (.if_icmp .eq 7, 3) := by decide +kernel
theorem dX12_numeral_17 : decode cX12_numeral 17 = .ok (.aload_n 0, 1) := by decide +kernel
theorem dX12_numeral_18 : decode cX12_numeral 18 = .ok (.invokevirtual 231, 3) := by decide +kernel
theorem dX12_numeral_7 : decode cX12_numeral 7 = .ok (.iload_n 1, 1) := by decide +kernel
theorem dX12_numeral_8 : decode cX12_numeral 8 = .ok (.ireturn, 1) := by decide +kernel
theorem dX12_signed_98 : decode cX12_signed 98 = .ok (.aload_n 0, 1) := by decide +kernel
theorem dX12_signed_99 : decode cX12_signed 99 = .ok (.invokevirtual 224, 3) := by decide +kernel
theorem dX12_signed_102 : decode cX12_signed 102 = .ok (.ifCond .eq 8, 3) := by decide +kernel
theorem dX12_signed_110 : decode cX12_signed 110 = .ok (.iload_n 1, 1) := by decide +kernel
theorem dX12_signed_111 : decode cX12_signed 111 = .ok (.ireturn, 1) := by decide +kernel
theorem dX12_signed_105 : decode cX12_signed 105 = .ok (.iload 5, 2) := by decide +kernel
theorem dX12_signed_107 : decode cX12_signed 107 = .ok (.goto 4, 3) := by decide +kernel
theorem dX12_signed_87 : decode cX12_signed 87 = .ok (.aload_n 0, 1) := by decide +kernel
theorem dX12_signed_88 : decode cX12_signed 88 = .ok (.invokevirtual 224, 3) := by decide +kernel
theorem dX12_signed_91 : decode cX12_signed 91 = .ok (.ifCond .eq 7, 3) := by decide +kernel
theorem dX12_signed_94 : decode cX12_signed 94 = .ok (.aload_n 0, 1) := by decide +kernel
theorem dX12_signed_95 : decode cX12_signed 95 = .ok (.invokevirtual 228, 3) := by decide +kernel
theorem dX12_signed_62 : decode cX12_signed 62 = .ok (.aload_n 0, 1) := by decide +kernel
theorem dX12_signed_63 : decode cX12_signed 63 = .ok (.invokevirtual 224, 3) := by decide +kernel
theorem dX12_signed_66 : decode cX12_signed 66 = .ok (.ifCond .eq 21, 3) := by decide +kernel
theorem dX12_signed_69 : decode cX12_signed 69 = .ok (.iload 5, 2) := by decide +kernel
theorem dX12_signed_71 : decode cX12_signed 71 = .ok (.iload_n 1, 1) := by decide +kernel
theorem dX12_signed_72 : decode cX12_signed 72 = .ok (.if_icmp .lt 9, 3) := by decide +kernel
theorem dX12_signed_81 : decode cX12_signed 81 = .ok (.aload_n 0, 1) := by decide +kernel
theorem dX12_signed_82 : decode cX12_signed 82 = .ok (.iconst 4, 1) := by decide +kernel
theorem dX12_signed_83 : decode cX12_signed 83 = .ok (.iload_n 3, 1) := by decide +kernel
theorem dX12_signed_84 : decode cX12_signed 84 = .ok (.invokevirtual 220, 3) := by decide +kernel
theorem dX12_signed_75 : decode cX12_signed 75 = .ok (.iload 5, 2) := by decide +kernel
theorem dX12_signed_77 : decode cX12_signed 77 = .ok (.iload_n 2, 1) := by decide +kernel
theorem dX12_signed_78 : decode cX12_signed 78 = .ok (.if_icmp .le 9, 3) := by decide +kernel
theorem dX12_signed_43 : decode cX12_signed 43 = .ok (.iload 4, 2) := by decide +kernel
theorem dX12_signed_45 : decode cX12_signed 45 = .ok (.ifCond .eq 11, 3) := by decide +kernel
theorem dX12_signed_56 : decode cX12_signed 56 = .ok (.aload_n 0, 1) := by decide +kernel
theorem dX12_signed_57 : decode cX12_signed 57 = .ok (.getfield 217, 3) := by decide +kernel
theorem dX12_signed_60 : decode cX12_signed 60 = .ok (.istore 5, 2) := by decide +kernel
theorem dX12_signed_48 : decode cX12_signed 48 = .ok (.aload_n 0, 1) := by decide +kernel
theorem dX12_signed_49 : decode cX12_signed 49 = .ok (.getfield 217, 3) := by decide +kernel
theorem dX12_signed_52 : decode cX12_signed 52 = .ok (.ineg, 1) := by decide +kernel
theorem dX12_signed_53 : decode cX12_signed 53 = .ok (.goto 7, 3) := by decide +kernel
theorem dX12_signed_31 : decode cX12_signed 31 = .ok (.aload_n 0, 1) := by decide +kernel
theorem dX12_signed_32 : decode cX12_signed 32 = .ok (.getfield 199, 3) := by decide +kernel
theorem dX12_signed_35 : decode cX12_signed 35 = .ok (.iconst 4, 1) := by decide +kernel
theorem dX12_signed_36 : decode cX12_signed 36 = .ok (.if_icmp .eq 7, 3) := by decide +kernel
theorem dX12_signed_39 : decode cX12_signed 39 = .ok (.aload_n 0, 1) := by decide +kernel
theorem dX12_signed_40 : decode cX12_signed 40 = .ok (.invokevirtual 231, 3) := by decide +kernel
theorem dX12_signed_0 : decode cX12_signed 0 = .ok (.aload_n 0, 1) := by decide +kernel
theorem dX12_signed_1 : decode cX12_signed 1 = .ok (.invokevirtual 224, 3) := by decide +kernel
theorem dX12_signed_4 : decode cX12_signed 4 = .ok (.ifCond .ne 5, 3) := by decide +kernel
theorem dX12_signed_9 : decode cX12_signed 9 = .ok (.aload_n 0, 1) := by decide +kernel
theorem dX12_signed_10 : decode cX12_signed 10 = .ok (.getfield 192, 3) := by decide +kernel
theorem dX12_signed_13 : decode cX12_signed 13 = .ok (.istore_n 3, 1) := by decide +kernel
theorem dX12_signed_14 : decode cX12_signed 14 = .ok (.aload_n 0, 1) := by decide +kernel
theorem dX12_signed_15 : decode cX12_signed 15 = .ok (.bipush 45, 2) := by decide +kernel
theorem dX12_signed_17 : decode cX12_signed 17 = .ok (.invokevirtual 234, 3) := by decide +kernel
theorem dX12_signed_20 : decode cX12_signed 20 = .ok (.istore 4, 2) := by decide +kernel
theorem dX12_signed_22 : decode cX12_signed 22 = .ok (.iload 4, 2) := by decide +kernel
theorem dX12_signed_24 : decode cX12_signed 24 = .ok (.ifCond .eq 7, 3) := by decide +kernel
theorem dX12_signed_27 : decode cX12_signed 27 = .ok (.aload_n 0, 1) := by decide +kernel
theorem dX12_signed_28 : decode cX12_signed 28 = .ok (.invokevirtual 228, 3) := by decide +kernel
theorem dX12_signed_7 : decode cX12_signed 7 = .ok (.iload_n 1, 1) := by decide +kernel
theorem dX12_signed_8 : decode cX12_signed 8 = .ok (.ireturn, 1) := by decide +kernel
theorem dX12_kindHere_0 : decode cX12_kindHere 0 = .ok (.aload_n 0, 1) := by decide +kernel
theorem dX12_kindHere_1 : decode cX12_kindHere 1 = .ok (.ldc2_w 151, 3) := by decide +kernel
theorem dX12_kindHere_4 : decode cX12_kindHere 4 = .ok (.invokevirtual 261, 3) := by decide +kernel
theorem dX12_kindHere_7 : decode cX12_kindHere 7 = .ok (.ifCond .eq 5, 3) := by decide +kernel
theorem dX12_kindHere_12 : decode cX12_kindHere 12 = .ok (.aload_n 0, 1) := by decide +kernel
theorem dX12_kindHere_13 : decode cX12_kindHere 13 = .ok (.ldc2_w 155, 3) := by decide +kernel
theorem dX12_kindHere_16 : decode cX12_kindHere 16 = .ok (.invokevirtual 261, 3) := by decide +kernel
theorem dX12_kindHere_19 : decode cX12_kindHere 19 = .ok (.ifCond .eq 5, 3) := by decide +kernel
theorem dX12_kindHere_24 : decode cX12_kindHere 24 = .ok (.aload_n 0, 1) := by decide +kernel
theorem dX12_kindHere_25 : decode cX12_kindHere 25 = .ok (.ldc2_w 157, 3) := by decide +kernel
theorem dX12_kindHere_28 : decode cX12_kindHere 28 = .ok (.invokevirtual 261, 3) := by decide +kernel
theorem dX12_kindHere_31 : decode cX12_kindHere 31 = .ok (.ifCond .eq 5, 3) := by decide +kernel
theorem dX12_kindHere_36 : decode cX12_kindHere 36 = .ok (.aload_n 0, 1) := by decide +kernel
theorem dX12_kindHere_37 : decode cX12_kindHere 37 = .ok (.ldc2_w 159, 3) := by decide +kernel
theorem dX12_kindHere_40 : decode cX12_kindHere 40 = .ok (.invokevirtual 261, 3) := by decide +kernel
theorem dX12_kindHere_43 : decode cX12_kindHere 43 = .ok (.ifCond .eq 5, 3) := by decide +kernel
theorem dX12_kindHere_48 : decode cX12_kindHere 48 = .ok (.aload_n 0, 1) := by decide +kernel
theorem dX12_kindHere_49 : decode cX12_kindHere 49 = .ok (.ldc2_w 161, 3) := by decide +kernel
theorem dX12_kindHere_52 : decode cX12_kindHere 52 = .ok (.invokevirtual 261, 3) := by decide +kernel
theorem dX12_kindHere_55 : decode cX12_kindHere 55 = .ok (.ifCond .eq 5, 3) := by decide +kernel
theorem dX12_kindHere_60 : decode cX12_kindHere 60 = .ok (.aload_n 0, 1) := by decide +kernel
theorem dX12_kindHere_61 : decode cX12_kindHere 61 = .ok (.ldc2_w 163, 3) := by decide +kernel
theorem dX12_kindHere_64 : decode cX12_kindHere 64 = .ok (.invokevirtual 261, 3) := by decide +kernel
theorem dX12_kindHere_67 : decode cX12_kindHere 67 = .ok (.ifCond .eq 5, 3) := by decide +kernel
theorem dX12_kindHere_72 : decode cX12_kindHere 72 = .ok (.aload_n 0, 1) := by decide +kernel
theorem dX12_kindHere_73 : decode cX12_kindHere 73 = .ok (.ldc2_w 169, 3) := by decide +kernel
theorem dX12_kindHere_76 : decode cX12_kindHere 76 = .ok (.invokevirtual 261, 3) := by decide +kernel
theorem dX12_kindHere_79 : decode cX12_kindHere 79 = .ok (.ifCond .eq 6, 3) := by decide +kernel
theorem dX12_kindHere_85 : decode cX12_kindHere 85 = .ok (.aload_n 0, 1) := by decide +kernel
theorem dX12_kindHere_86 : decode cX12_kindHere 86 = .ok (.ldc2_w 173, 3) := by decide +kernel
theorem dX12_kindHere_89 : decode cX12_kindHere 89 = .ok (.invokevirtual 261, 3) := by decide +kernel
theorem dX12_kindHere_92 : decode cX12_kindHere 92 = .ok (.ifCond .eq 8, 3) := by decide +kernel
theorem dX12_kindHere_100 : decode cX12_kindHere 100 = .ok (.iconst (-1), 1) := by decide +kernel
theorem dX12_kindHere_101 : decode cX12_kindHere 101 = .ok (.ireturn, 1) := by decide +kernel
theorem dX12_kindHere_95 : decode cX12_kindHere 95 = .ok (.bipush 7, 2) := by decide +kernel
theorem dX12_kindHere_97 : decode cX12_kindHere 97 = .ok (.goto 4, 3) := by decide +kernel
theorem dX12_kindHere_82 : decode cX12_kindHere 82 = .ok (.bipush 6, 2) := by decide +kernel
theorem dX12_kindHere_84 : decode cX12_kindHere 84 = .ok (.ireturn, 1) := by decide +kernel
theorem dX12_kindHere_70 : decode cX12_kindHere 70 = .ok (.iconst 5, 1) := by decide +kernel
theorem dX12_kindHere_71 : decode cX12_kindHere 71 = .ok (.ireturn, 1) := by decide +kernel
theorem dX12_kindHere_58 : decode cX12_kindHere 58 = .ok (.iconst 4, 1) := by decide +kernel
theorem dX12_kindHere_59 : decode cX12_kindHere 59 = .ok (.ireturn, 1) := by decide +kernel
theorem dX12_kindHere_46 : decode cX12_kindHere 46 = .ok (.iconst 3, 1) := by decide +kernel
theorem dX12_kindHere_47 : decode cX12_kindHere 47 = .ok (.ireturn, 1) := by decide +kernel
theorem dX12_kindHere_34 : decode cX12_kindHere 34 = .ok (.iconst 2, 1) := by decide +kernel
theorem dX12_kindHere_35 : decode cX12_kindHere 35 = .ok (.ireturn, 1) := by decide +kernel
theorem dX12_kindHere_22 : decode cX12_kindHere 22 = .ok (.iconst 1, 1) := by decide +kernel
theorem dX12_kindHere_23 : decode cX12_kindHere 23 = .ok (.ireturn, 1) := by decide +kernel
theorem dX12_kindHere_10 : decode cX12_kindHere 10 = .ok (.iconst 0, 1) := by decide +kernel
theorem dX12_kindHere_11 : decode cX12_kindHere 11 = .ok (.ireturn, 1) := by decide +kernel
theorem dX12_rowNamed_2 : decode cX12_rowNamed 2 = .ok (.iload_n 1, 1) := by decide +kernel
theorem dX12_rowNamed_3 : decode cX12_rowNamed 3 = .ok (.aload_n 0, 1) := by decide +kernel
theorem dX12_rowNamed_4 : decode cX12_rowNamed 4 = .ok (.getfield 20, 3) := by decide +kernel
theorem dX12_rowNamed_7 : decode cX12_rowNamed 7 = .ok (.aload_n 0, 1) := by decide +kernel
theorem dX12_rowNamed_8 : decode cX12_rowNamed 8 = .ok (.getfield 243, 3) := by decide +kernel
theorem dX12_rowNamed_11 : decode cX12_rowNamed 11 = .ok (.iaload, 1) := by decide +kernel
theorem dX12_rowNamed_12 : decode cX12_rowNamed 12 = .ok (.if_icmp .ge 40, 3) := by decide +kernel
theorem dX12_rowNamed_52 : decode cX12_rowNamed 52 = .ok (.iconst (-1), 1) := by decide +kernel
theorem dX12_rowNamed_53 : decode cX12_rowNamed 53 = .ok (.ireturn, 1) := by decide +kernel
theorem dX12_rowNamed_15 : decode cX12_rowNamed 15 = .ok (.aload_n 0, 1) := by decide +kernel
theorem dX12_rowNamed_16 : decode cX12_rowNamed 16 = .ok (.getfield 199, 3) := by decide +kernel
theorem dX12_rowNamed_19 : decode cX12_rowNamed 19 = .ok (.iconst 2, 1) := by decide +kernel
theorem dX12_rowNamed_20 : decode cX12_rowNamed 20 = .ok (.if_icmp .ne 26, 3) := by decide +kernel
theorem dX12_rowNamed_46 : decode cX12_rowNamed 46 = .ok (.iinc 1 1, 3) := by decide +kernel
theorem dX12_rowNamed_49 : decode cX12_rowNamed 49 = .ok (.goto (-47), 3) := by decide +kernel
theorem dX12_rowNamed_23 : decode cX12_rowNamed 23 = .ok (.aload_n 0, 1) := by decide +kernel
theorem dX12_rowNamed_24 : decode cX12_rowNamed 24 = .ok (.getfield 63, 3) := by decide +kernel
theorem dX12_rowNamed_27 : decode cX12_rowNamed 27 = .ok (.iconst 2, 1) := by decide +kernel
theorem dX12_rowNamed_28 : decode cX12_rowNamed 28 = .ok (.aload_n 0, 1) := by decide +kernel
theorem dX12_rowNamed_29 : decode cX12_rowNamed 29 = .ok (.getfield 243, 3) := by decide +kernel
theorem dX12_rowNamed_32 : decode cX12_rowNamed 32 = .ok (.imul, 1) := by decide +kernel
theorem dX12_rowNamed_33 : decode cX12_rowNamed 33 = .ok (.iload_n 1, 1) := by decide +kernel
theorem dX12_rowNamed_34 : decode cX12_rowNamed 34 = .ok (.iadd, 1) := by decide +kernel
theorem dX12_rowNamed_35 : decode cX12_rowNamed 35 = .ok (.laload, 1) := by decide +kernel
theorem dX12_rowNamed_36 : decode cX12_rowNamed 36 = .ok (.aload_n 0, 1) := by decide +kernel
theorem dX12_rowNamed_37 : decode cX12_rowNamed 37 = .ok (.getfield 206, 3) := by decide +kernel
theorem dX12_rowNamed_40 : decode cX12_rowNamed 40 = .ok (.lcmp, 1) := by decide +kernel
theorem dX12_rowNamed_41 : decode cX12_rowNamed 41 = .ok (.ifCond .ne 5, 3) := by decide +kernel
theorem dX12_rowNamed_44 : decode cX12_rowNamed 44 = .ok (.iload_n 1, 1) := by decide +kernel
theorem dX12_rowNamed_45 : decode cX12_rowNamed 45 = .ok (.ireturn, 1) := by decide +kernel
theorem dX12_rowNamed_0 : decode cX12_rowNamed 0 = .ok (.iconst 0, 1) := by decide +kernel
theorem dX12_rowNamed_1 : decode cX12_rowNamed 1 = .ok (.istore_n 1, 1) := by decide +kernel
theorem dX12_stepNamed_2 : decode cX12_stepNamed 2 = .ok (.iload_n 1, 1) := by decide +kernel
theorem dX12_stepNamed_3 : decode cX12_stepNamed 3 = .ok (.aload_n 0, 1) := by decide +kernel
theorem dX12_stepNamed_4 : decode cX12_stepNamed 4 = .ok (.getfield 24, 3) := by decide +kernel
theorem dX12_stepNamed_7 : decode cX12_stepNamed 7 = .ok (.aload_n 0, 1) := by decide +kernel
theorem dX12_stepNamed_8 : decode cX12_stepNamed 8 = .ok (.getfield 243, 3) := by decide +kernel
theorem dX12_stepNamed_11 : decode cX12_stepNamed 11 = .ok (.iaload, 1) := by decide +kernel
theorem dX12_stepNamed_12 : decode cX12_stepNamed 12 = .ok (.if_icmp .ge 41, 3) := by decide +kernel
theorem dX12_stepNamed_53 : decode cX12_stepNamed 53 = .ok (.iconst (-1), 1) := by decide +kernel
theorem dX12_stepNamed_54 : decode cX12_stepNamed 54 = .ok (.ireturn, 1) := by decide +kernel
theorem dX12_stepNamed_15 : decode cX12_stepNamed 15 = .ok (.aload_n 0, 1) := by decide +kernel
theorem dX12_stepNamed_16 : decode cX12_stepNamed 16 = .ok (.getfield 199, 3) := by decide +kernel
theorem dX12_stepNamed_19 : decode cX12_stepNamed 19 = .ok (.iconst 2, 1) := by decide +kernel
theorem dX12_stepNamed_20 : decode cX12_stepNamed 20 = .ok (.if_icmp .ne 27, 3) := by decide +kernel
theorem dX12_stepNamed_47 : decode cX12_stepNamed 47 = .ok (.iinc 1 1, 3) := by decide +kernel
theorem dX12_stepNamed_50 : decode cX12_stepNamed 50 = .ok (.goto (-48), 3) := by decide +kernel
theorem dX12_stepNamed_23 : decode cX12_stepNamed 23 = .ok (.aload_n 0, 1) := by decide +kernel
theorem dX12_stepNamed_24 : decode cX12_stepNamed 24 = .ok (.getfield 67, 3) := by decide +kernel
theorem dX12_stepNamed_27 : decode cX12_stepNamed 27 = .ok (.bipush 12, 2) := by decide +kernel
theorem dX12_stepNamed_29 : decode cX12_stepNamed 29 = .ok (.aload_n 0, 1) := by decide +kernel
theorem dX12_stepNamed_30 : decode cX12_stepNamed 30 = .ok (.getfield 243, 3) := by decide +kernel
theorem dX12_stepNamed_33 : decode cX12_stepNamed 33 = .ok (.imul, 1) := by decide +kernel
theorem dX12_stepNamed_34 : decode cX12_stepNamed 34 = .ok (.iload_n 1, 1) := by decide +kernel
theorem dX12_stepNamed_35 : decode cX12_stepNamed 35 = .ok (.iadd, 1) := by decide +kernel
theorem dX12_stepNamed_36 : decode cX12_stepNamed 36 = .ok (.laload, 1) := by decide +kernel
theorem dX12_stepNamed_37 : decode cX12_stepNamed 37 = .ok (.aload_n 0, 1) := by decide +kernel
theorem dX12_stepNamed_38 : decode cX12_stepNamed 38 = .ok (.getfield 206, 3) := by decide +kernel
theorem dX12_stepNamed_41 : decode cX12_stepNamed 41 = .ok (.lcmp, 1) := by decide +kernel
theorem dX12_stepNamed_42 : decode cX12_stepNamed 42 = .ok (.ifCond .ne 5, 3) := by decide +kernel
theorem dX12_stepNamed_45 : decode cX12_stepNamed 45 = .ok (.iload_n 1, 1) := by decide +kernel
theorem dX12_stepNamed_46 : decode cX12_stepNamed 46 = .ok (.ireturn, 1) := by decide +kernel
theorem dX12_stepNamed_0 : decode cX12_stepNamed 0 = .ok (.iconst 0, 1) := by decide +kernel
theorem dX12_stepNamed_1 : decode cX12_stepNamed 1 = .ok (.istore_n 1, 1) := by decide +kernel
theorem dX12_fresh_0 : decode cX12_fresh 0 = .ok (.aload_n 0, 1) := by decide +kernel
theorem dX12_fresh_1 : decode cX12_fresh 1 = .ok (.invokevirtual 282, 3) := by decide +kernel
theorem dX12_fresh_4 : decode cX12_fresh 4 = .ok (.ifCond .ge 10, 3) := by decide +kernel
theorem dX12_fresh_14 : decode cX12_fresh 14 = .ok (.aload_n 0, 1) := by decide +kernel
theorem dX12_fresh_15 : decode cX12_fresh 15 = .ok (.iconst 3, 1) := by decide +kernel
theorem dX12_fresh_16 : decode cX12_fresh 16 = .ok (.aload_n 0, 1) := by decide +kernel
theorem dX12_fresh_17 : decode cX12_fresh 17 = .ok (.getfield 192, 3) := by decide +kernel
theorem dX12_fresh_20 : decode cX12_fresh 20 = .ok (.invokevirtual 220, 3) := by decide +kernel
theorem dX12_fresh_23 : decode cX12_fresh 23 = .ok (.return_, 1) := by decide +kernel
theorem dX12_fresh_7 : decode cX12_fresh 7 = .ok (.aload_n 0, 1) := by decide +kernel
theorem dX12_fresh_8 : decode cX12_fresh 8 = .ok (.invokevirtual 285, 3) := by decide +kernel
theorem dX12_fresh_11 : decode cX12_fresh 11 = .ok (.ifCond .lt 12, 3) := by decide +kernel
theorem rg_46 : ∀ q, q ∈ [4, 5] → q ∈ [6, 7, 8, 9, 10, 4, 5] := by decide
theorem rg_47 : 3 ∉ [4, 5] := by decide
theorem rg_48 : 7 ∉ [4, 5] := by decide
theorem rg_49 : 8 ∉ [4, 5] := by decide
theorem rg_50 : ∀ q, q ∈ [6, 7, 8, 9, 10] → q ∈ [6, 7, 8, 9, 10, 4, 5] := by decide
theorem rg_51 : 4 ∉ [6, 7, 8, 9, 10] := by decide
theorem rg_52 : 9 ∉ [4, 5] := by decide
theorem rg_53 : Int32.ofInt (-1) = (-1) := by decide
theorem rg_54 : Int32.ofInt 7 = 7 := by decide
theorem rg_55 : Int32.ofInt 6 = 6 := by decide
theorem rg_56 : 0 ≤ (0 : Int32).toInt := by decide
theorem rg_57 : Int32.ofInt 12 = 12 := by decide
theorem rg_58 : (12 : Int32).toInt = 12 := by decide
def ow_n_must : List Cond := []
def vs_n_must : List Cond := .code yX12_must cX12_must 2 none :: (ow_n_must ++ (([.methodLink RX12 224 yX12_isGood, .instanceMethod yX12_isGood, .selects RX12 yX12_isGood yX12_isGood, .initialized RX12] : List Cond) ++ (vs_n_isGood ++ (([.methodLink RX12 231 yX12_wrong, .instanceMethod yX12_wrong, .selects RX12 yX12_wrong yX12_wrong, .initialized RX12] : List Cond) ++ (vs_n_wrong ++ (([.methodLink RX12 228 yX12_next, .instanceMethod yX12_next, .selects RX12 yX12_next yX12_next, .initialized RX12] : List Cond) ++ (vs_n_next)))))))
theorem vg_n_must : vs_n_must.all goodWord = true := by decide +kernel
theorem dd_n_must : yX12_must.cls = RX12 ∧ yX12_must.cls ≠ "java/lang/invoke/MethodHandle" ∧ yX12_must.cls ≠ "java/lang/invoke/VarHandle" ∧ (parseMethodDescriptor yX12_must.desc).map (fun d => d.parameters.length) = some 1 := by decide +kernel
def rm_n_must : Room := { frames := 2, cells := 0, slots := 0, locals := 44 }
theorem gd_n_must_224_n_isGood : GoodIn vs_n_must (wsV RX12 224 RX12 yX12_isGood vs_n_isGood) := goodIn_app (goodIn_sub (fun w h => (List.mem_cons_of_mem _ (List.mem_append_right _ (List.mem_append_left _ h)))) (by decide +kernel)) (goodIn_sub (fun w h => (List.mem_cons_of_mem _ (List.mem_append_right _ (List.mem_append_right _ (List.mem_append_left _ h))))) vg_n_isGood)
theorem gd_n_must_231_n_wrong : GoodIn vs_n_must (wsV RX12 231 RX12 yX12_wrong vs_n_wrong) := goodIn_app (goodIn_sub (fun w h => (List.mem_cons_of_mem _ (List.mem_append_right _ (List.mem_append_right _ (List.mem_append_right _ (List.mem_append_left _ h)))))) (by decide +kernel)) (goodIn_sub (fun w h => (List.mem_cons_of_mem _ (List.mem_append_right _ (List.mem_append_right _ (List.mem_append_right _ (List.mem_append_right _ (List.mem_append_left _ h))))))) vg_n_wrong)
theorem gd_n_must_228_n_next : GoodIn vs_n_must (wsV RX12 228 RX12 yX12_next vs_n_next) := goodIn_app (goodIn_sub (fun w h => (List.mem_cons_of_mem _ (List.mem_append_right _ (List.mem_append_right _ (List.mem_append_right _ (List.mem_append_right _ (List.mem_append_right _ (List.mem_append_left _ h)))))))) (by decide +kernel)) (goodIn_sub (fun w h => (List.mem_cons_of_mem _ (List.mem_append_right _ (List.mem_append_right _ (List.mem_append_right _ (List.mem_append_right _ (List.mem_append_right _ (List.mem_append_right _ h)))))))) vg_n_next)
set_option maxHeartbeats 4000000 in
set_option maxRecDepth 100000 in
/-- must(x) -/
theorem n_must (l : Launch) (dC : Nat → ClassId) (dI : Nat → Nat → Nat) (h : Nat) (ad : Nat → Nat) (cl : Nat → ClassId) (sz : Nat) (σ : MS) (x : Int32) (hI : Inv σ) (hes : Es σ) : Met l yX12_must vs_n_must rm_n_must (va_Pc [.ref h, .int x] (wSt dC dI (mW h ad cl σ) (mT cl) sz)) (va_Qv (fun (τ : MS) => Inv τ ∧ eqx [6, 7, 8, 9, 10, 4, 5] τ σ ∧ Mo τ σ ∧ Lx τ σ) (fun (τ : MS) => wEn dC dI (va_A (mW h ad cl σ) sz) (mW h ad cl τ) []) (va_A (mW h ad cl σ) sz)) 0 0 (va_A (mW h ad cl σ) sz) := by
  refine Met.ofW (cc := cX12_must) (maxL := 2) (ret := none) (by decide) rfl ?_
  intro p e s m args below meth c s₁ B hml hv
  obtain ⟨rfl, hsz, hP, hK, hD0, hE⟩ := hv
  have hx := B.exec
  have hb := B.bytes
  have hr := B.returns
  have hts := atoms_spec (ws := vs_n_must) B.pre
  have hown : s.vm.findClass RX12 = some m.cls := findClass_of_methodNamed B.named
  have hlocks := B.notSynchronized
  subst hsz
  have hD := hD0.self (sz := s.heap.size)
  generalize hAe : va_A (mW h ad cl σ) s.heap.size = A at hD ⊢
  have hA : ∀ q : Nat, s.heap.size ≤ q → A q := fun q h => by rw [← hAe]; exact Or.inr h
  have hl := lv_entry ([.ref h, .int x]) (n := 2) (Nat.le_of_ble_eq_true rfl)
  rw [lg_entry_eq]
  generalize (lg_sl ([.ref h, .int x]) ++ List.replicate (2 - (lg_sl ([.ref h, .int x])).length) Slot.unset).toArray = ls at hl ⊢
  have hl : lv_has ls 2 [(0, .ref h), (1, .int x)] := hl
  have ho := fun w (h : w ∈ ow_n_must) => hts w (List.mem_cons_of_mem _ (List.mem_append_left _ h))
  refine zQ (fun Q hQ => ?_)
  refine zH (A := A) (ws := mW h ad cl σ) (fun H hP hS => ?_) hP
  refine lv_aload_n hx hb dX12_must_0 rfl (lv_at hl 0 rfl) ?_
  refine zy_i (va_runV (As := []) (rest := []) ⟨hx, hb, hml, hown, hts⟩ (n_isGood l dC dI h ad cl H.size σ  hI) (cwV 0 hts gd_n_must_224_n_isGood rfl rfl rfl dd_n_isGood ⟨Nat.le_of_ble_eq_true rfl, Nat.le_of_ble_eq_true rfl⟩) (preV hP hK hD hE (ci := 12) (q0 := 0) rfl rfl) rfl rfl hl.1 rfl (lv_room (Nat.le_of_ble_eq_true rfl)) dX12_must_1 ⟨Nat.le_of_ble_eq_true rfl, Nat.le_of_ble_eq_true rfl⟩) hD hS hA (fun z2 τ1 H locs hq hP hD hS => ?_)
  obtain ⟨rfl, f3⟩ := hq
  refine W.widen (k := 0) (n := 0) (Nat.le_of_ble_eq_true rfl) (Nat.le_of_ble_eq_true rfl) ?_
  refine lv_if_ne (tgt := 8) hx hb dX12_must_4 rfl (fun c4 => ?_) (fun c4 => ?_)
  · have tc4 := (show z2.toInt ≠ 0 from ti_ne rfl rg_11 c4)
    refine lv_iload_n hx hb dX12_must_8 rfl (lv_at hl 1 rfl) ?_
    refine lv_if_eq (tgt := 19) hx hb dX12_must_9 rfl (fun c5 => ?_) (fun c5 => ?_)
    · have tc5 := (show x.toInt = 0 from ti_eq rfl rg_11 c5)
      refine lv_aload_n hx hb dX12_must_19 rfl (lv_at hl 0 rfl) ?_
      refine zy_v (va_runV (As := []) (rest := []) ⟨hx, hb, hml, hown, hts⟩ (n_wrong l dC dI h ad cl H.size σ  hI) (cwV 0 hts gd_n_must_231_n_wrong rfl rfl rfl dd_n_wrong ⟨Nat.le_of_ble_eq_true rfl, Nat.le_of_ble_eq_true rfl⟩) (preV hP hK hD hE (ci := 12) (q0 := 0) rfl rfl) rfl rfl hl.1 rfl (lv_room (Nat.le_of_ble_eq_true rfl)) dX12_must_20 ⟨Nat.le_of_ble_eq_true rfl, Nat.le_of_ble_eq_true rfl⟩) hD hS hA (fun τ6 H locs hq hP hD hS => ?_)
      obtain ⟨hI8, hx9, f10, mo11⟩ := hq
      have Xτ6 : eqx [6, 7, 8, 9, 10, 4, 5] τ6 σ := eqx.tr hx9 eqx.rf rg_46
      have Mτ6 : Mo τ6 σ := Mo.tr mo11 (fun h9 => Mo.rf h9)
      have Lτ6 : Lx τ6 σ := Lx.tr (Lx.of hx9 (Lx.es (Lx.rf hes)) rg_47 rg_48 rg_49) (Lx.rf hes)
      refine W.widen (k := 0) (n := 0) (Nat.le_of_ble_eq_true rfl) (Nat.le_of_ble_eq_true rfl) ?_
      rw [hQ]
      exact W.vret hx hb hr (fun t ht hW => ⟨⟨τ6, rfl, ⟨hI8, Xτ6, Mτ6, Lτ6⟩, wEn_of hP (hK.sub [] rfl) hD ht hW⟩, hS.F ht⟩) hS.2.2 dX12_must_23
    · have tc5 := (show x.toInt ≠ 0 from ti_ne rfl rg_11 c5)
      refine lv_aload_n hx hb dX12_must_12 rfl (lv_at hl 0 rfl) ?_
      refine zy_v (va_runV (As := []) (rest := []) ⟨hx, hb, hml, hown, hts⟩ (n_next l dC dI h ad cl H.size σ  hI (Lx.es (Lx.rf hes))) (cwV 0 hts gd_n_must_228_n_next rfl rfl rfl dd_n_next ⟨Nat.le_of_ble_eq_true rfl, Nat.le_of_ble_eq_true rfl⟩) (preV hP hK hD hE (ci := 12) (q0 := 0) rfl rfl) rfl rfl hl.1 rfl (lv_room (Nat.le_of_ble_eq_true rfl)) dX12_must_13 ⟨Nat.le_of_ble_eq_true rfl, Nat.le_of_ble_eq_true rfl⟩) hD hS hA (fun τ12 H locs hq hP hD hS => ?_)
      obtain ⟨hI14, hx15, f16, lx17⟩ := hq
      have Xτ12 : eqx [6, 7, 8, 9, 10, 4, 5] τ12 σ := eqx.tr hx15 eqx.rf rg_50
      have Mτ12 : Mo τ12 σ := Mo.tr (Mo.of hx15 rg_51) (fun h9 => Mo.rf h9)
      have Lτ12 : Lx τ12 σ := Lx.tr lx17 (Lx.rf hes)
      refine W.widen (k := 0) (n := 0) (Nat.le_of_ble_eq_true rfl) (Nat.le_of_ble_eq_true rfl) ?_
      refine lv_goto (tgt := 23) hx hb dX12_must_16 rfl ?_
      rw [hQ]
      exact W.vret hx hb hr (fun t ht hW => ⟨⟨τ12, rfl, ⟨hI14, Xτ12, Mτ12, Lτ12⟩, wEn_of hP (hK.sub [] rfl) hD ht hW⟩, hS.F ht⟩) hS.2.2 dX12_must_23
  · have tc4 := (show z2.toInt = 0 from ti_eq rfl rg_11 c4)
    rw [hQ]
    exact W.vret hx hb hr (fun t ht hW => ⟨⟨σ, rfl, ⟨hI, eqx.rf, Mo.rf, (Lx.rf hes)⟩, wEn_of hP (hK.sub [] rfl) hD ht hW⟩, hS.F ht⟩) hS.2.2 dX12_must_7
def ow_n_numeral : List Cond := [.fieldLink RX12 217 "NearEnoughModel" "number" "I", .fieldLink RX12 192 "NearEnoughModel" "at" "I", .fieldLink RX12 199 "NearEnoughModel" "token" "I"]
def vs_n_numeral : List Cond := .code yX12_numeral cX12_numeral 4 (some .int) :: (ow_n_numeral ++ (([.methodLink RX12 224 yX12_isGood, .instanceMethod yX12_isGood, .selects RX12 yX12_isGood yX12_isGood, .initialized RX12] : List Cond) ++ (vs_n_isGood ++ (([.methodLink RX12 228 yX12_next, .instanceMethod yX12_next, .selects RX12 yX12_next yX12_next, .initialized RX12] : List Cond) ++ (vs_n_next ++ (([.methodLink RX12 220 yX12_fails, .instanceMethod yX12_fails, .selects RX12 yX12_fails yX12_fails, .initialized RX12] : List Cond) ++ (vs_n_fails ++ (([.methodLink RX12 231 yX12_wrong, .instanceMethod yX12_wrong, .selects RX12 yX12_wrong yX12_wrong, .initialized RX12] : List Cond) ++ (vs_n_wrong ++ (wsX120))))))))))
theorem vg_n_numeral : vs_n_numeral.all goodWord = true := by decide +kernel
theorem dd_n_numeral : yX12_numeral.cls = RX12 ∧ yX12_numeral.cls ≠ "java/lang/invoke/MethodHandle" ∧ yX12_numeral.cls ≠ "java/lang/invoke/VarHandle" ∧ (parseMethodDescriptor yX12_numeral.desc).map (fun d => d.parameters.length) = some 2 := by decide +kernel
def rm_n_numeral : Room := { frames := 2, cells := 0, slots := 0, locals := 44 }
theorem gd_n_numeral_224_n_isGood : GoodIn vs_n_numeral (wsV RX12 224 RX12 yX12_isGood vs_n_isGood) := goodIn_app (goodIn_sub (fun w h => (List.mem_cons_of_mem _ (List.mem_append_right _ (List.mem_append_left _ h)))) (by decide +kernel)) (goodIn_sub (fun w h => (List.mem_cons_of_mem _ (List.mem_append_right _ (List.mem_append_right _ (List.mem_append_left _ h))))) vg_n_isGood)
theorem gd_n_numeral_228_n_next : GoodIn vs_n_numeral (wsV RX12 228 RX12 yX12_next vs_n_next) := goodIn_app (goodIn_sub (fun w h => (List.mem_cons_of_mem _ (List.mem_append_right _ (List.mem_append_right _ (List.mem_append_right _ (List.mem_append_left _ h)))))) (by decide +kernel)) (goodIn_sub (fun w h => (List.mem_cons_of_mem _ (List.mem_append_right _ (List.mem_append_right _ (List.mem_append_right _ (List.mem_append_right _ (List.mem_append_left _ h))))))) vg_n_next)
theorem gd_n_numeral_220_n_fails : GoodIn vs_n_numeral (wsV RX12 220 RX12 yX12_fails vs_n_fails) := goodIn_app (goodIn_sub (fun w h => (List.mem_cons_of_mem _ (List.mem_append_right _ (List.mem_append_right _ (List.mem_append_right _ (List.mem_append_right _ (List.mem_append_right _ (List.mem_append_left _ h)))))))) (by decide +kernel)) (goodIn_sub (fun w h => (List.mem_cons_of_mem _ (List.mem_append_right _ (List.mem_append_right _ (List.mem_append_right _ (List.mem_append_right _ (List.mem_append_right _ (List.mem_append_right _ (List.mem_append_left _ h))))))))) vg_n_fails)
theorem gd_n_numeral_231_n_wrong : GoodIn vs_n_numeral (wsV RX12 231 RX12 yX12_wrong vs_n_wrong) := goodIn_app (goodIn_sub (fun w h => (List.mem_cons_of_mem _ (List.mem_append_right _ (List.mem_append_right _ (List.mem_append_right _ (List.mem_append_right _ (List.mem_append_right _ (List.mem_append_right _ (List.mem_append_right _ (List.mem_append_left _ h)))))))))) (by decide +kernel)) (goodIn_sub (fun w h => (List.mem_cons_of_mem _ (List.mem_append_right _ (List.mem_append_right _ (List.mem_append_right _ (List.mem_append_right _ (List.mem_append_right _ (List.mem_append_right _ (List.mem_append_right _ (List.mem_append_right _ (List.mem_append_left _ h))))))))))) vg_n_wrong)
set_option maxHeartbeats 4000000 in
set_option maxRecDepth 100000 in
theorem n_numeral (l : Launch) (dC : Nat → ClassId) (dI : Nat → Nat → Nat) (h : Nat) (ad : Nat → Nat) (cl : Nat → ClassId) (sz : Nat) (σ : MS) (a : Int32) (b : Int32) (hI : Inv σ) (hab : a.toInt ≤ b.toInt) (hes : Es σ) : Met l yX12_numeral vs_n_numeral rm_n_numeral (va_Pc [.ref h, .int a, .int b] (wSt dC dI (mW h ad cl σ) (mT cl) sz)) (va_Qi (fun (r : Int32) (τ : MS) => Inv τ ∧ eqx [6, 7, 8, 9, 10, 4, 5] τ σ ∧ a.toInt ≤ r.toInt ∧ r.toInt ≤ b.toInt ∧ Mo τ σ ∧ Lx τ σ) (fun (τ : MS) => wEn dC dI (va_A (mW h ad cl σ) sz) (mW h ad cl τ) []) (va_A (mW h ad cl σ) sz)) 0 0 (va_A (mW h ad cl σ) sz) := by
  refine Met.ofW (cc := cX12_numeral) (maxL := 4) (ret := (some .int)) (by decide) rfl ?_
  intro p e s m args below meth c s₁ B hml hv
  obtain ⟨rfl, hsz, hP, hK, hD0, hE⟩ := hv
  have hx := B.exec
  have hb := B.bytes
  have hr := B.returns
  have hts := atoms_spec (ws := vs_n_numeral) B.pre
  have hown : s.vm.findClass RX12 = some m.cls := findClass_of_methodNamed B.named
  have hlocks := B.notSynchronized
  subst hsz
  have hD := hD0.self (sz := s.heap.size)
  generalize hAe : va_A (mW h ad cl σ) s.heap.size = A at hD ⊢
  have hA : ∀ q : Nat, s.heap.size ≤ q → A q := fun q h => by rw [← hAe]; exact Or.inr h
  have hl := lv_entry ([.ref h, .int a, .int b]) (n := 4) (Nat.le_of_ble_eq_true rfl)
  rw [lg_entry_eq]
  generalize (lg_sl ([.ref h, .int a, .int b]) ++ List.replicate (4 - (lg_sl ([.ref h, .int a, .int b])).length) Slot.unset).toArray = ls at hl ⊢
  have hl : lv_has ls 4 [(0, .ref h), (1, .int a), (2, .int b)] := hl
  have ho := fun w (h : w ∈ ow_n_numeral) => hts w (List.mem_cons_of_mem _ (List.mem_append_left _ h))
  have hin12 : ∀ w ∈ u_ws RX12 TX12 59, w ∈ vs_n_numeral := fun w h => (List.mem_cons_of_mem _ (List.mem_append_right _ (List.mem_append_right _ (List.mem_append_right _ (List.mem_append_right _ (List.mem_append_right _ (List.mem_append_right _ (List.mem_append_right _ (List.mem_append_right _ (List.mem_append_right _ h))))))))))
  refine zQ (fun Q hQ => ?_)
  have pt_69 : ∀ (τ : MS) (vv : Int32) (H : Heap) (locs : List Loc) (ls : Array Slot), (Inv τ) → (eqx [6, 7, 8, 9, 10, 4, 5] τ σ) → (Mo τ σ) → (Lx τ σ) → ((τ.1 4).toInt = 0 → a.toInt ≤ vv.toInt ∧ vv.toInt ≤ b.toInt) → va_P (dC, dI) vwCl (mW h ad cl τ) H → va_D A (mW h ad cl τ) → va_S A s.heap H locs → lv_has ls 4 [(0, .ref h), (1, .int a), (2, .int b), (3, .int vv)] → W p l e (headSpec vs_n_numeral rm_n_numeral).room s m #[Value.ref h, Value.int a, Value.int b] below meth c H locs 0 0 Q (F0 m 69 ls []) := by
    intro τ vv H locs ls hIτ hxτ hmτ hgτ hv hP hD hS hl
    have bτ_4 : 0 ≤ (τ.1 4).toInt ∧ (τ.1 4).toInt ≤ 7 := hIτ.1 4
    refine lv_aload_n hx hb dX12_numeral_69 rfl (lv_at hl 0 rfl) ?_
    refine zy_i (va_runV (As := []) (rest := []) ⟨hx, hb, hml, hown, hts⟩ (n_isGood l dC dI h ad cl H.size τ  hIτ) (cwV 0 hts gd_n_numeral_224_n_isGood rfl rfl rfl dd_n_isGood ⟨Nat.le_of_ble_eq_true rfl, Nat.le_of_ble_eq_true rfl⟩) (preV hP hK hD hE (ci := 12) (q0 := 0) rfl rfl) rfl rfl hl.1 rfl (lv_room (Nat.le_of_ble_eq_true rfl)) dX12_numeral_70 ⟨Nat.le_of_ble_eq_true rfl, Nat.le_of_ble_eq_true rfl⟩) hD hS hA (fun z2 τ1 H locs hq hP hD hS => ?_)
    obtain ⟨rfl, f3⟩ := hq
    refine W.widen (k := 0) (n := 0) (Nat.le_of_ble_eq_true rfl) (Nat.le_of_ble_eq_true rfl) ?_
    refine lv_if_eq (tgt := 80) hx hb dX12_numeral_73 rfl (fun c4 => ?_) (fun c4 => ?_)
    · have tc4 := (show z2.toInt = 0 from ti_eq rfl rg_11 c4)
      refine lv_iload_n hx hb dX12_numeral_80 rfl (lv_at hl 1 rfl) ?_
      rw [hQ]
      exact W.iret (v := a) hx hb hr (fun t ht hW => ⟨⟨a, τ, rfl, ⟨hIτ, hxτ, (by omega), (by omega), hmτ, hgτ⟩, wEn_of hP (hK.sub [] rfl) hD ht hW⟩, hS.F ht⟩) hS.2.2 dX12_numeral_81
    · have tc4 := (show z2.toInt ≠ 0 from ti_ne rfl rg_11 c4)
      refine lv_iload_n hx hb dX12_numeral_76 rfl (lv_at hl 3 rfl) ?_
      refine lv_goto (tgt := 81) hx hb dX12_numeral_77 rfl ?_
      rw [hQ]
      exact W.iret (v := vv) hx hb hr (fun t ht hW => ⟨⟨vv, τ, rfl, ⟨hIτ, hxτ, (by omega), (by omega), hmτ, hgτ⟩, wEn_of hP (hK.sub [] rfl) hD ht hW⟩, hS.F ht⟩) hS.2.2 dX12_numeral_81
  have pt_58 : ∀ (τ : MS) (vv : Int32) (H : Heap) (locs : List Loc) (ls : Array Slot), (Inv τ) → (eqx [6, 7, 8, 9, 10, 4, 5] τ σ) → (Mo τ σ) → (Lx τ σ) → ((τ.1 4).toInt = 0 → a.toInt ≤ vv.toInt ∧ vv.toInt ≤ b.toInt) → va_P (dC, dI) vwCl (mW h ad cl τ) H → va_D A (mW h ad cl τ) → va_S A s.heap H locs → lv_has ls 4 [(0, .ref h), (1, .int a), (2, .int b), (3, .int vv)] → W p l e (headSpec vs_n_numeral rm_n_numeral).room s m #[Value.ref h, Value.int a, Value.int b] below meth c H locs 0 0 Q (F0 m 58 ls []) := by
    intro τ vv H locs ls hIτ hxτ hmτ hgτ hv hP hD hS hl
    have bτ_4 : 0 ≤ (τ.1 4).toInt ∧ (τ.1 4).toInt ≤ 7 := hIτ.1 4
    refine lv_aload_n hx hb dX12_numeral_58 rfl (lv_at hl 0 rfl) ?_
    refine zy_i (va_runV (As := []) (rest := []) ⟨hx, hb, hml, hown, hts⟩ (n_isGood l dC dI h ad cl H.size τ  hIτ) (cwV 0 hts gd_n_numeral_224_n_isGood rfl rfl rfl dd_n_isGood ⟨Nat.le_of_ble_eq_true rfl, Nat.le_of_ble_eq_true rfl⟩) (preV hP hK hD hE (ci := 12) (q0 := 0) rfl rfl) rfl rfl hl.1 rfl (lv_room (Nat.le_of_ble_eq_true rfl)) dX12_numeral_59 ⟨Nat.le_of_ble_eq_true rfl, Nat.le_of_ble_eq_true rfl⟩) hD hS hA (fun z6 τ5 H locs hq hP hD hS => ?_)
    obtain ⟨rfl, f7⟩ := hq
    refine W.widen (k := 0) (n := 0) (Nat.le_of_ble_eq_true rfl) (Nat.le_of_ble_eq_true rfl) ?_
    refine lv_if_eq (tgt := 69) hx hb dX12_numeral_62 rfl (fun c8 => ?_) (fun c8 => ?_)
    · have tc8 := (show z6.toInt = 0 from ti_eq rfl rg_11 c8)
      exact pt_69 τ vv _ _ _ hIτ hxτ hmτ hgτ (fun h9 => by have h8 : (τ.1 4).toInt = 0 := h9; omega) hP hD hS (lv_sub hl [0, 1, 2, 3] rfl)
    · have tc8 := (show z6.toInt ≠ 0 from ti_ne rfl rg_11 c8)
      refine lv_aload_n hx hb dX12_numeral_65 rfl (lv_at hl 0 rfl) ?_
      refine zy_v (va_runV (As := []) (rest := []) ⟨hx, hb, hml, hown, hts⟩ (n_next l dC dI h ad cl H.size τ  hIτ (Lx.es hgτ)) (cwV 0 hts gd_n_numeral_228_n_next rfl rfl rfl dd_n_next ⟨Nat.le_of_ble_eq_true rfl, Nat.le_of_ble_eq_true rfl⟩) (preV hP hK hD hE (ci := 12) (q0 := 0) rfl rfl) rfl rfl hl.1 rfl (lv_room (Nat.le_of_ble_eq_true rfl)) dX12_numeral_66 ⟨Nat.le_of_ble_eq_true rfl, Nat.le_of_ble_eq_true rfl⟩) hD hS hA (fun τ9 H locs hq hP hD hS => ?_)
      obtain ⟨hI11, hx12, f13, lx14⟩ := hq
      have Xτ9 : eqx [6, 7, 8, 9, 10, 4, 5] τ9 σ := eqx.tr hx12 hxτ rg_50
      have Mτ9 : Mo τ9 σ := Mo.tr (Mo.of hx12 rg_51) (fun h9 => hmτ h9)
      have Lτ9 : Lx τ9 σ := Lx.tr lx14 hgτ
      have qq15 : (τ9.1 4).toInt = ((τ.1 4) : Int32).toInt := congrArg Int32.toInt ((show τ9.1 4 = (τ.1 4) from ((hx12 4 rg_51).1).trans rfl))
      refine W.widen (k := 0) (n := 0) (Nat.le_of_ble_eq_true rfl) (Nat.le_of_ble_eq_true rfl) ?_
      have qq16 : (τ9.1 4).toInt = ((τ.1 4) : Int32).toInt := congrArg Int32.toInt ((show τ9.1 4 = (τ.1 4) from ((hx12 4 rg_51).1).trans rfl))
      exact pt_69 τ9 vv _ _ _ hI11 Xτ9 Mτ9 Lτ9 (fun h9 => by have h8 : (τ9.1 4).toInt = 0 := h9; omega) hP hD hS (lv_sub hl [0, 1, 2, 3] rfl)
  have pt_21 : ∀ (τ : MS) (H : Heap) (locs : List Loc) (ls : Array Slot), (Inv τ) → (eqx [6, 7, 8, 9, 10, 4, 5] τ σ) → (Mo τ σ) → (Lx τ σ) → va_P (dC, dI) vwCl (mW h ad cl τ) H → va_D A (mW h ad cl τ) → va_S A s.heap H locs → lv_has ls 4 [(0, .ref h), (1, .int a), (2, .int b)] → W p l e (headSpec vs_n_numeral rm_n_numeral).room s m #[Value.ref h, Value.int a, Value.int b] below meth c H locs 0 0 Q (F0 m 21 ls []) := by
    intro τ H locs ls hIτ hxτ hmτ hgτ hP hD hS hl
    have bτ_4 : 0 ≤ (τ.1 4).toInt ∧ (τ.1 4).toInt ≤ 7 := hIτ.1 4
    refine lv_aload_n hx hb dX12_numeral_21 rfl (lv_at hl 0 rfl) ?_
    refine zy_i (va_runV (As := []) (rest := []) ⟨hx, hb, hml, hown, hts⟩ (n_isGood l dC dI h ad cl H.size τ  hIτ) (cwV 0 hts gd_n_numeral_224_n_isGood rfl rfl rfl dd_n_isGood ⟨Nat.le_of_ble_eq_true rfl, Nat.le_of_ble_eq_true rfl⟩) (preV hP hK hD hE (ci := 12) (q0 := 0) rfl rfl) rfl rfl hl.1 rfl (lv_room (Nat.le_of_ble_eq_true rfl)) dX12_numeral_22 ⟨Nat.le_of_ble_eq_true rfl, Nat.le_of_ble_eq_true rfl⟩) hD hS hA (fun z18 τ17 H locs hq hP hD hS => ?_)
    obtain ⟨rfl, f19⟩ := hq
    refine W.widen (k := 0) (n := 0) (Nat.le_of_ble_eq_true rfl) (Nat.le_of_ble_eq_true rfl) ?_
    refine lv_if_eq (tgt := 53) hx hb dX12_numeral_25 rfl (fun c20 => ?_) (fun c20 => ?_)
    · have tc20 := (show z18.toInt = 0 from ti_eq rfl rg_11 c20)
      refine lv_aload_n hx hb dX12_numeral_53 rfl (lv_at hl 0 rfl) ?_
      refine va_get (D := (dC, dI)) (ci := 12) (v := .int (τ.1 9)) (C := RX12) (T := TX12) (N := 59) hx hb hts hin12 hown hK hP 0 rfl rfl 9 (Nat.le_of_ble_eq_true rfl) (ho (.fieldLink RX12 217 "NearEnoughModel" "number" "I") (List.mem_of_getElem? (i := 0) rfl)) (fun _ h9 => h9) rfl dX12_numeral_54 ?_
      refine lv_istore_n (lv' := [(3, .int (τ.1 9)), (0, .ref h), (1, .int a), (2, .int b)]) hx hb dX12_numeral_57 rfl hl (Nat.le_of_ble_eq_true rfl) rfl (fun ls hl => ?_)
      exact pt_58 τ (τ.1 9) _ _ _ hIτ hxτ hmτ hgτ (fun h9 => by have h8 : (τ.1 4).toInt = 0 := h9; omega) hP hD hS (lv_sub hl [1, 2, 3, 0] rfl)
    · have tc20 := (show z18.toInt ≠ 0 from ti_ne rfl rg_11 c20)
      refine lv_aload_n hx hb dX12_numeral_28 rfl (lv_at hl 0 rfl) ?_
      refine va_get (D := (dC, dI)) (ci := 12) (v := .int (τ.1 9)) (C := RX12) (T := TX12) (N := 59) hx hb hts hin12 hown hK hP 0 rfl rfl 9 (Nat.le_of_ble_eq_true rfl) (ho (.fieldLink RX12 217 "NearEnoughModel" "number" "I") (List.mem_of_getElem? (i := 0) rfl)) (fun _ h9 => h9) rfl dX12_numeral_29 ?_
      refine lv_iload_n hx hb dX12_numeral_32 rfl (lv_at hl 1 rfl) ?_
      refine lv_icmp_lt (tgt := 44) hx hb dX12_numeral_33 rfl (fun c21 => ?_) (fun c21 => ?_)
      · have tc21 := (show (τ.1 9).toInt < a.toInt from ti_lt rfl rfl c21)
        refine lv_aload_n hx hb dX12_numeral_44 rfl (lv_at hl 0 rfl) ?_
        refine lv_iconst (v := 4) hx hb dX12_numeral_45 rg_31 ?_
        refine lv_aload_n hx hb dX12_numeral_46 rfl (lv_at hl 0 rfl) ?_
        refine va_get (D := (dC, dI)) (ci := 12) (v := .int (τ.1 6)) (C := RX12) (T := TX12) (N := 59) hx hb hts hin12 hown hK hP 0 rfl rfl 6 (Nat.le_of_ble_eq_true rfl) (ho (.fieldLink RX12 192 "NearEnoughModel" "at" "I") (List.mem_of_getElem? (i := 1) rfl)) (fun _ h9 => h9) rfl dX12_numeral_47 ?_
        have bτ_6 : 0 ≤ (τ.1 6).toInt ∧ (τ.1 6).toInt ≤ 1000 := hIτ.1 6
        have kk22 : (4 : Int32).toInt = 4 := rg_32
        have o1 : 0 ≤ (4 : Int32).toInt := by omega
        have o2 : (4 : Int32).toInt ≤ 7 := by omega
        refine zy_v (va_runV (As := [.int 4, .int (τ.1 6)]) (rest := []) ⟨hx, hb, hml, hown, hts⟩ (n_fails l dC dI h ad cl H.size τ 4 (τ.1 6) hIτ ⟨o1, o2⟩) (cwV 2 hts gd_n_numeral_220_n_fails rfl rfl rfl dd_n_fails ⟨Nat.le_of_ble_eq_true rfl, Nat.le_of_ble_eq_true rfl⟩) (preV hP hK hD hE (ci := 12) (q0 := 0) rfl rfl) rfl rfl hl.1 rfl (lv_room (Nat.le_of_ble_eq_true rfl)) dX12_numeral_50 ⟨Nat.le_of_ble_eq_true rfl, Nat.le_of_ble_eq_true rfl⟩) hD hS hA (fun τ23 H locs hq hP hD hS => ?_)
        obtain ⟨hI25, hx26, f27, mo28⟩ := hq
        have Xτ23 : eqx [6, 7, 8, 9, 10, 4, 5] τ23 σ := eqx.tr hx26 hxτ rg_46
        have Mτ23 : Mo τ23 σ := Mo.tr mo28 (fun h9 => hmτ h9)
        have Lτ23 : Lx τ23 σ := Lx.tr (Lx.of hx26 (Lx.es hgτ) rg_47 rg_48 rg_49) hgτ
        refine W.widen (k := 0) (n := 0) (Nat.le_of_ble_eq_true rfl) (Nat.le_of_ble_eq_true rfl) ?_
        refine lv_aload_n hx hb dX12_numeral_53 rfl (lv_at hl 0 rfl) ?_
        refine va_get (D := (dC, dI)) (ci := 12) (v := .int (τ23.1 9)) (C := RX12) (T := TX12) (N := 59) hx hb hts hin12 hown hK hP 0 rfl rfl 9 (Nat.le_of_ble_eq_true rfl) (ho (.fieldLink RX12 217 "NearEnoughModel" "number" "I") (List.mem_of_getElem? (i := 0) rfl)) (fun _ h9 => h9) rfl dX12_numeral_54 ?_
        refine zi (v := (τ.1 9)) (show τ23.1 9 = (τ.1 9) from ((hx26 9 rg_52).1).trans rfl) ?_
        refine lv_istore_n (lv' := [(3, .int (τ.1 9)), (0, .ref h), (1, .int a), (2, .int b)]) hx hb dX12_numeral_57 rfl hl (Nat.le_of_ble_eq_true rfl) rfl (fun ls hl => ?_)
        exact pt_58 τ23 (τ.1 9) _ _ _ hI25 Xτ23 Mτ23 Lτ23 (fun h9 => by have h8 : (τ23.1 4).toInt = 0 := h9; omega) hP hD hS (lv_sub hl [1, 2, 3, 0] rfl)
      · have tc21 := (show a.toInt ≤ (τ.1 9).toInt from ti_nlt rfl rfl c21)
        refine lv_aload_n hx hb dX12_numeral_36 rfl (lv_at hl 0 rfl) ?_
        refine va_get (D := (dC, dI)) (ci := 12) (v := .int (τ.1 9)) (C := RX12) (T := TX12) (N := 59) hx hb hts hin12 hown hK hP 0 rfl rfl 9 (Nat.le_of_ble_eq_true rfl) (ho (.fieldLink RX12 217 "NearEnoughModel" "number" "I") (List.mem_of_getElem? (i := 0) rfl)) (fun _ h9 => h9) rfl dX12_numeral_37 ?_
        refine lv_iload_n hx hb dX12_numeral_40 rfl (lv_at hl 2 rfl) ?_
        refine lv_icmp_le (tgt := 53) hx hb dX12_numeral_41 rfl (fun c29 => ?_) (fun c29 => ?_)
        · have tc29 := (show (τ.1 9).toInt ≤ b.toInt from ti_le rfl rfl c29)
          refine lv_aload_n hx hb dX12_numeral_53 rfl (lv_at hl 0 rfl) ?_
          refine va_get (D := (dC, dI)) (ci := 12) (v := .int (τ.1 9)) (C := RX12) (T := TX12) (N := 59) hx hb hts hin12 hown hK hP 0 rfl rfl 9 (Nat.le_of_ble_eq_true rfl) (ho (.fieldLink RX12 217 "NearEnoughModel" "number" "I") (List.mem_of_getElem? (i := 0) rfl)) (fun _ h9 => h9) rfl dX12_numeral_54 ?_
          refine lv_istore_n (lv' := [(3, .int (τ.1 9)), (0, .ref h), (1, .int a), (2, .int b)]) hx hb dX12_numeral_57 rfl hl (Nat.le_of_ble_eq_true rfl) rfl (fun ls hl => ?_)
          exact pt_58 τ (τ.1 9) _ _ _ hIτ hxτ hmτ hgτ (fun h9 => by have h8 : (τ.1 4).toInt = 0 := h9; omega) hP hD hS (lv_sub hl [1, 2, 3, 0] rfl)
        · have tc29 := (show b.toInt < (τ.1 9).toInt from ti_nle rfl rfl c29)
          refine lv_aload_n hx hb dX12_numeral_44 rfl (lv_at hl 0 rfl) ?_
          refine lv_iconst (v := 4) hx hb dX12_numeral_45 rg_31 ?_
          refine lv_aload_n hx hb dX12_numeral_46 rfl (lv_at hl 0 rfl) ?_
          refine va_get (D := (dC, dI)) (ci := 12) (v := .int (τ.1 6)) (C := RX12) (T := TX12) (N := 59) hx hb hts hin12 hown hK hP 0 rfl rfl 6 (Nat.le_of_ble_eq_true rfl) (ho (.fieldLink RX12 192 "NearEnoughModel" "at" "I") (List.mem_of_getElem? (i := 1) rfl)) (fun _ h9 => h9) rfl dX12_numeral_47 ?_
          have bτ_6 : 0 ≤ (τ.1 6).toInt ∧ (τ.1 6).toInt ≤ 1000 := hIτ.1 6
          have kk30 : (4 : Int32).toInt = 4 := rg_32
          have o3 : 0 ≤ (4 : Int32).toInt := by omega
          have o4 : (4 : Int32).toInt ≤ 7 := by omega
          refine zy_v (va_runV (As := [.int 4, .int (τ.1 6)]) (rest := []) ⟨hx, hb, hml, hown, hts⟩ (n_fails l dC dI h ad cl H.size τ 4 (τ.1 6) hIτ ⟨o3, o4⟩) (cwV 2 hts gd_n_numeral_220_n_fails rfl rfl rfl dd_n_fails ⟨Nat.le_of_ble_eq_true rfl, Nat.le_of_ble_eq_true rfl⟩) (preV hP hK hD hE (ci := 12) (q0 := 0) rfl rfl) rfl rfl hl.1 rfl (lv_room (Nat.le_of_ble_eq_true rfl)) dX12_numeral_50 ⟨Nat.le_of_ble_eq_true rfl, Nat.le_of_ble_eq_true rfl⟩) hD hS hA (fun τ31 H locs hq hP hD hS => ?_)
          obtain ⟨hI33, hx34, f35, mo36⟩ := hq
          have Xτ31 : eqx [6, 7, 8, 9, 10, 4, 5] τ31 σ := eqx.tr hx34 hxτ rg_46
          have Mτ31 : Mo τ31 σ := Mo.tr mo36 (fun h9 => hmτ h9)
          have Lτ31 : Lx τ31 σ := Lx.tr (Lx.of hx34 (Lx.es hgτ) rg_47 rg_48 rg_49) hgτ
          refine W.widen (k := 0) (n := 0) (Nat.le_of_ble_eq_true rfl) (Nat.le_of_ble_eq_true rfl) ?_
          refine lv_aload_n hx hb dX12_numeral_53 rfl (lv_at hl 0 rfl) ?_
          refine va_get (D := (dC, dI)) (ci := 12) (v := .int (τ31.1 9)) (C := RX12) (T := TX12) (N := 59) hx hb hts hin12 hown hK hP 0 rfl rfl 9 (Nat.le_of_ble_eq_true rfl) (ho (.fieldLink RX12 217 "NearEnoughModel" "number" "I") (List.mem_of_getElem? (i := 0) rfl)) (fun _ h9 => h9) rfl dX12_numeral_54 ?_
          refine zi (v := (τ.1 9)) (show τ31.1 9 = (τ.1 9) from ((hx34 9 rg_52).1).trans rfl) ?_
          refine lv_istore_n (lv' := [(3, .int (τ.1 9)), (0, .ref h), (1, .int a), (2, .int b)]) hx hb dX12_numeral_57 rfl hl (Nat.le_of_ble_eq_true rfl) rfl (fun ls hl => ?_)
          exact pt_58 τ31 (τ.1 9) _ _ _ hI33 Xτ31 Mτ31 Lτ31 (fun h9 => by have h8 : (τ31.1 4).toInt = 0 := h9; omega) hP hD hS (lv_sub hl [1, 2, 3, 0] rfl)
  refine zH (A := A) (ws := mW h ad cl σ) (fun H hP hS => ?_) hP
  have bσ_4 : 0 ≤ (σ.1 4).toInt ∧ (σ.1 4).toInt ≤ 7 := hI.1 4
  refine lv_aload_n hx hb dX12_numeral_0 rfl (lv_at hl 0 rfl) ?_
  refine zy_i (va_runV (As := []) (rest := []) ⟨hx, hb, hml, hown, hts⟩ (n_isGood l dC dI h ad cl H.size σ  hI) (cwV 0 hts gd_n_numeral_224_n_isGood rfl rfl rfl dd_n_isGood ⟨Nat.le_of_ble_eq_true rfl, Nat.le_of_ble_eq_true rfl⟩) (preV hP hK hD hE (ci := 12) (q0 := 0) rfl rfl) rfl rfl hl.1 rfl (lv_room (Nat.le_of_ble_eq_true rfl)) dX12_numeral_1 ⟨Nat.le_of_ble_eq_true rfl, Nat.le_of_ble_eq_true rfl⟩) hD hS hA (fun z38 τ37 H locs hq hP hD hS => ?_)
  obtain ⟨rfl, f39⟩ := hq
  refine W.widen (k := 0) (n := 0) (Nat.le_of_ble_eq_true rfl) (Nat.le_of_ble_eq_true rfl) ?_
  refine lv_if_ne (tgt := 9) hx hb dX12_numeral_4 rfl (fun c40 => ?_) (fun c40 => ?_)
  · have tc40 := (show z38.toInt ≠ 0 from ti_ne rfl rg_11 c40)
    refine lv_aload_n hx hb dX12_numeral_9 rfl (lv_at hl 0 rfl) ?_
    refine va_get (D := (dC, dI)) (ci := 12) (v := .int (σ.1 8)) (C := RX12) (T := TX12) (N := 59) hx hb hts hin12 hown hK hP 0 rfl rfl 8 (Nat.le_of_ble_eq_true rfl) (ho (.fieldLink RX12 199 "NearEnoughModel" "token" "I") (List.mem_of_getElem? (i := 2) rfl)) (fun _ h9 => h9) rfl dX12_numeral_10 ?_
    have bσ_8 : 0 ≤ (σ.1 8).toInt ∧ (σ.1 8).toInt ≤ 5 := hI.1 8
    refine lv_iconst (v := 4) hx hb dX12_numeral_13 rg_31 ?_
    refine lv_icmp_eq (tgt := 21) hx hb dX12_numeral_14 rfl (fun c41 => ?_) (fun c41 => ?_)
    · have tc41 := (show (σ.1 8).toInt = 4 from ti_eq rfl rg_32 c41)
      exact pt_21 σ  _ _ _ hI eqx.rf Mo.rf (Lx.rf hes) hP hD hS (lv_sub hl [0, 1, 2] rfl)
    · have tc41 := (show (σ.1 8).toInt ≠ 4 from ti_ne rfl rg_32 c41)
      refine lv_aload_n hx hb dX12_numeral_17 rfl (lv_at hl 0 rfl) ?_
      refine zy_v (va_runV (As := []) (rest := []) ⟨hx, hb, hml, hown, hts⟩ (n_wrong l dC dI h ad cl H.size σ  hI) (cwV 0 hts gd_n_numeral_231_n_wrong rfl rfl rfl dd_n_wrong ⟨Nat.le_of_ble_eq_true rfl, Nat.le_of_ble_eq_true rfl⟩) (preV hP hK hD hE (ci := 12) (q0 := 0) rfl rfl) rfl rfl hl.1 rfl (lv_room (Nat.le_of_ble_eq_true rfl)) dX12_numeral_18 ⟨Nat.le_of_ble_eq_true rfl, Nat.le_of_ble_eq_true rfl⟩) hD hS hA (fun τ42 H locs hq hP hD hS => ?_)
      obtain ⟨hI44, hx45, f46, mo47⟩ := hq
      have Xτ42 : eqx [6, 7, 8, 9, 10, 4, 5] τ42 σ := eqx.tr hx45 eqx.rf rg_46
      have Mτ42 : Mo τ42 σ := Mo.tr mo47 (fun h9 => Mo.rf h9)
      have Lτ42 : Lx τ42 σ := Lx.tr (Lx.of hx45 (Lx.es (Lx.rf hes)) rg_47 rg_48 rg_49) (Lx.rf hes)
      refine W.widen (k := 0) (n := 0) (Nat.le_of_ble_eq_true rfl) (Nat.le_of_ble_eq_true rfl) ?_
      exact pt_21 τ42  _ _ _ hI44 Xτ42 Mτ42 Lτ42 hP hD hS (lv_sub hl [0, 1, 2] rfl)
  · have tc40 := (show z38.toInt = 0 from ti_eq rfl rg_11 c40)
    refine lv_iload_n hx hb dX12_numeral_7 rfl (lv_at hl 1 rfl) ?_
    rw [hQ]
    exact W.iret (v := a) hx hb hr (fun t ht hW => ⟨⟨a, σ, rfl, ⟨hI, eqx.rf, (by omega), (by omega), Mo.rf, (Lx.rf hes)⟩, wEn_of hP (hK.sub [] rfl) hD ht hW⟩, hS.F ht⟩) hS.2.2 dX12_numeral_8
def ow_n_signed : List Cond := [.fieldLink RX12 217 "NearEnoughModel" "number" "I", .fieldLink RX12 199 "NearEnoughModel" "token" "I", .fieldLink RX12 192 "NearEnoughModel" "at" "I"]
def vs_n_signed : List Cond := .code yX12_signed cX12_signed 6 (some .int) :: (ow_n_signed ++ (([.methodLink RX12 224 yX12_isGood, .instanceMethod yX12_isGood, .selects RX12 yX12_isGood yX12_isGood, .initialized RX12] : List Cond) ++ (vs_n_isGood ++ (([.methodLink RX12 228 yX12_next, .instanceMethod yX12_next, .selects RX12 yX12_next yX12_next, .initialized RX12] : List Cond) ++ (vs_n_next ++ (([.methodLink RX12 220 yX12_fails, .instanceMethod yX12_fails, .selects RX12 yX12_fails yX12_fails, .initialized RX12] : List Cond) ++ (vs_n_fails ++ (([.methodLink RX12 231 yX12_wrong, .instanceMethod yX12_wrong, .selects RX12 yX12_wrong yX12_wrong, .initialized RX12] : List Cond) ++ (vs_n_wrong ++ (([.methodLink RX12 234 yX12_is, .instanceMethod yX12_is, .selects RX12 yX12_is yX12_is, .initialized RX12] : List Cond) ++ (vs_n_is ++ (wsX120))))))))))))
theorem vg_n_signed : vs_n_signed.all goodWord = true := by decide +kernel
theorem dd_n_signed : yX12_signed.cls = RX12 ∧ yX12_signed.cls ≠ "java/lang/invoke/MethodHandle" ∧ yX12_signed.cls ≠ "java/lang/invoke/VarHandle" ∧ (parseMethodDescriptor yX12_signed.desc).map (fun d => d.parameters.length) = some 2 := by decide +kernel
def rm_n_signed : Room := { frames := 2, cells := 0, slots := 0, locals := 44 }
theorem gd_n_signed_224_n_isGood : GoodIn vs_n_signed (wsV RX12 224 RX12 yX12_isGood vs_n_isGood) := goodIn_app (goodIn_sub (fun w h => (List.mem_cons_of_mem _ (List.mem_append_right _ (List.mem_append_left _ h)))) (by decide +kernel)) (goodIn_sub (fun w h => (List.mem_cons_of_mem _ (List.mem_append_right _ (List.mem_append_right _ (List.mem_append_left _ h))))) vg_n_isGood)
theorem gd_n_signed_228_n_next : GoodIn vs_n_signed (wsV RX12 228 RX12 yX12_next vs_n_next) := goodIn_app (goodIn_sub (fun w h => (List.mem_cons_of_mem _ (List.mem_append_right _ (List.mem_append_right _ (List.mem_append_right _ (List.mem_append_left _ h)))))) (by decide +kernel)) (goodIn_sub (fun w h => (List.mem_cons_of_mem _ (List.mem_append_right _ (List.mem_append_right _ (List.mem_append_right _ (List.mem_append_right _ (List.mem_append_left _ h))))))) vg_n_next)
theorem gd_n_signed_220_n_fails : GoodIn vs_n_signed (wsV RX12 220 RX12 yX12_fails vs_n_fails) := goodIn_app (goodIn_sub (fun w h => (List.mem_cons_of_mem _ (List.mem_append_right _ (List.mem_append_right _ (List.mem_append_right _ (List.mem_append_right _ (List.mem_append_right _ (List.mem_append_left _ h)))))))) (by decide +kernel)) (goodIn_sub (fun w h => (List.mem_cons_of_mem _ (List.mem_append_right _ (List.mem_append_right _ (List.mem_append_right _ (List.mem_append_right _ (List.mem_append_right _ (List.mem_append_right _ (List.mem_append_left _ h))))))))) vg_n_fails)
theorem gd_n_signed_231_n_wrong : GoodIn vs_n_signed (wsV RX12 231 RX12 yX12_wrong vs_n_wrong) := goodIn_app (goodIn_sub (fun w h => (List.mem_cons_of_mem _ (List.mem_append_right _ (List.mem_append_right _ (List.mem_append_right _ (List.mem_append_right _ (List.mem_append_right _ (List.mem_append_right _ (List.mem_append_right _ (List.mem_append_left _ h)))))))))) (by decide +kernel)) (goodIn_sub (fun w h => (List.mem_cons_of_mem _ (List.mem_append_right _ (List.mem_append_right _ (List.mem_append_right _ (List.mem_append_right _ (List.mem_append_right _ (List.mem_append_right _ (List.mem_append_right _ (List.mem_append_right _ (List.mem_append_left _ h))))))))))) vg_n_wrong)
theorem gd_n_signed_234_n_is : GoodIn vs_n_signed (wsV RX12 234 RX12 yX12_is vs_n_is) := goodIn_app (goodIn_sub (fun w h => (List.mem_cons_of_mem _ (List.mem_append_right _ (List.mem_append_right _ (List.mem_append_right _ (List.mem_append_right _ (List.mem_append_right _ (List.mem_append_right _ (List.mem_append_right _ (List.mem_append_right _ (List.mem_append_right _ (List.mem_append_left _ h)))))))))))) (by decide +kernel)) (goodIn_sub (fun w h => (List.mem_cons_of_mem _ (List.mem_append_right _ (List.mem_append_right _ (List.mem_append_right _ (List.mem_append_right _ (List.mem_append_right _ (List.mem_append_right _ (List.mem_append_right _ (List.mem_append_right _ (List.mem_append_right _ (List.mem_append_right _ (List.mem_append_left _ h))))))))))))) vg_n_is)
set_option maxHeartbeats 4000000 in
set_option maxRecDepth 100000 in
theorem n_signed (l : Launch) (dC : Nat → ClassId) (dI : Nat → Nat → Nat) (h : Nat) (ad : Nat → Nat) (cl : Nat → ClassId) (sz : Nat) (σ : MS) (a : Int32) (b : Int32) (hI : Inv σ) (hab : a.toInt ≤ b.toInt) (hes : Es σ) : Met l yX12_signed vs_n_signed rm_n_signed (va_Pc [.ref h, .int a, .int b] (wSt dC dI (mW h ad cl σ) (mT cl) sz)) (va_Qi (fun (r : Int32) (τ : MS) => Inv τ ∧ eqx [6, 7, 8, 9, 10, 4, 5] τ σ ∧ a.toInt ≤ r.toInt ∧ r.toInt ≤ b.toInt ∧ Mo τ σ ∧ Lx τ σ) (fun (τ : MS) => wEn dC dI (va_A (mW h ad cl σ) sz) (mW h ad cl τ) []) (va_A (mW h ad cl σ) sz)) 0 0 (va_A (mW h ad cl σ) sz) := by
  refine Met.ofW (cc := cX12_signed) (maxL := 6) (ret := (some .int)) (by decide) rfl ?_
  intro p e s m args below meth c s₁ B hml hv
  obtain ⟨rfl, hsz, hP, hK, hD0, hE⟩ := hv
  have hx := B.exec
  have hb := B.bytes
  have hr := B.returns
  have hts := atoms_spec (ws := vs_n_signed) B.pre
  have hown : s.vm.findClass RX12 = some m.cls := findClass_of_methodNamed B.named
  have hlocks := B.notSynchronized
  subst hsz
  have hD := hD0.self (sz := s.heap.size)
  generalize hAe : va_A (mW h ad cl σ) s.heap.size = A at hD ⊢
  have hA : ∀ q : Nat, s.heap.size ≤ q → A q := fun q h => by rw [← hAe]; exact Or.inr h
  have hl := lv_entry ([.ref h, .int a, .int b]) (n := 6) (Nat.le_of_ble_eq_true rfl)
  rw [lg_entry_eq]
  generalize (lg_sl ([.ref h, .int a, .int b]) ++ List.replicate (6 - (lg_sl ([.ref h, .int a, .int b])).length) Slot.unset).toArray = ls at hl ⊢
  have hl : lv_has ls 6 [(0, .ref h), (1, .int a), (2, .int b)] := hl
  have ho := fun w (h : w ∈ ow_n_signed) => hts w (List.mem_cons_of_mem _ (List.mem_append_left _ h))
  have hin12 : ∀ w ∈ u_ws RX12 TX12 59, w ∈ vs_n_signed := fun w h => (List.mem_cons_of_mem _ (List.mem_append_right _ (List.mem_append_right _ (List.mem_append_right _ (List.mem_append_right _ (List.mem_append_right _ (List.mem_append_right _ (List.mem_append_right _ (List.mem_append_right _ (List.mem_append_right _ (List.mem_append_right _ (List.mem_append_right _ h))))))))))))
  refine zQ (fun Q hQ => ?_)
  have pt_98 : ∀ (τ : MS) (pl : Int32) (mi : Int32) (vv : Int32) (H : Heap) (locs : List Loc) (ls : Array Slot), (Inv τ) → (eqx [6, 7, 8, 9, 10, 4, 5] τ σ) → (Mo τ σ) → (Lx τ σ) → ((τ.1 4).toInt = 0 → a.toInt ≤ vv.toInt ∧ vv.toInt ≤ b.toInt) → va_P (dC, dI) vwCl (mW h ad cl τ) H → va_D A (mW h ad cl τ) → va_S A s.heap H locs → lv_has ls 6 [(0, .ref h), (1, .int a), (2, .int b), (3, .int pl), (4, .int mi), (5, .int vv)] → W p l e (headSpec vs_n_signed rm_n_signed).room s m #[Value.ref h, Value.int a, Value.int b] below meth c H locs 0 0 Q (F0 m 98 ls []) := by
    intro τ pl mi vv H locs ls hIτ hxτ hmτ hgτ hv hP hD hS hl
    have bτ_4 : 0 ≤ (τ.1 4).toInt ∧ (τ.1 4).toInt ≤ 7 := hIτ.1 4
    refine lv_aload_n hx hb dX12_signed_98 rfl (lv_at hl 0 rfl) ?_
    refine zy_i (va_runV (As := []) (rest := []) ⟨hx, hb, hml, hown, hts⟩ (n_isGood l dC dI h ad cl H.size τ  hIτ) (cwV 0 hts gd_n_signed_224_n_isGood rfl rfl rfl dd_n_isGood ⟨Nat.le_of_ble_eq_true rfl, Nat.le_of_ble_eq_true rfl⟩) (preV hP hK hD hE (ci := 12) (q0 := 0) rfl rfl) rfl rfl hl.1 rfl (lv_room (Nat.le_of_ble_eq_true rfl)) dX12_signed_99 ⟨Nat.le_of_ble_eq_true rfl, Nat.le_of_ble_eq_true rfl⟩) hD hS hA (fun z2 τ1 H locs hq hP hD hS => ?_)
    obtain ⟨rfl, f3⟩ := hq
    refine W.widen (k := 0) (n := 0) (Nat.le_of_ble_eq_true rfl) (Nat.le_of_ble_eq_true rfl) ?_
    refine lv_if_eq (tgt := 110) hx hb dX12_signed_102 rfl (fun c4 => ?_) (fun c4 => ?_)
    · have tc4 := (show z2.toInt = 0 from ti_eq rfl rg_11 c4)
      refine lv_iload_n hx hb dX12_signed_110 rfl (lv_at hl 1 rfl) ?_
      rw [hQ]
      exact W.iret (v := a) hx hb hr (fun t ht hW => ⟨⟨a, τ, rfl, ⟨hIτ, hxτ, (by omega), (by omega), hmτ, hgτ⟩, wEn_of hP (hK.sub [] rfl) hD ht hW⟩, hS.F ht⟩) hS.2.2 dX12_signed_111
    · have tc4 := (show z2.toInt ≠ 0 from ti_ne rfl rg_11 c4)
      refine lv_iload hx hb dX12_signed_105 (lv_at hl 5 rfl) ?_
      refine lv_goto (tgt := 111) hx hb dX12_signed_107 rfl ?_
      rw [hQ]
      exact W.iret (v := vv) hx hb hr (fun t ht hW => ⟨⟨vv, τ, rfl, ⟨hIτ, hxτ, (by omega), (by omega), hmτ, hgτ⟩, wEn_of hP (hK.sub [] rfl) hD ht hW⟩, hS.F ht⟩) hS.2.2 dX12_signed_111
  have pt_87 : ∀ (τ : MS) (pl : Int32) (mi : Int32) (vv : Int32) (H : Heap) (locs : List Loc) (ls : Array Slot), (Inv τ) → (eqx [6, 7, 8, 9, 10, 4, 5] τ σ) → (Mo τ σ) → (Lx τ σ) → ((τ.1 4).toInt = 0 → a.toInt ≤ vv.toInt ∧ vv.toInt ≤ b.toInt) → va_P (dC, dI) vwCl (mW h ad cl τ) H → va_D A (mW h ad cl τ) → va_S A s.heap H locs → lv_has ls 6 [(0, .ref h), (1, .int a), (2, .int b), (3, .int pl), (4, .int mi), (5, .int vv)] → W p l e (headSpec vs_n_signed rm_n_signed).room s m #[Value.ref h, Value.int a, Value.int b] below meth c H locs 0 0 Q (F0 m 87 ls []) := by
    intro τ pl mi vv H locs ls hIτ hxτ hmτ hgτ hv hP hD hS hl
    have bτ_4 : 0 ≤ (τ.1 4).toInt ∧ (τ.1 4).toInt ≤ 7 := hIτ.1 4
    refine lv_aload_n hx hb dX12_signed_87 rfl (lv_at hl 0 rfl) ?_
    refine zy_i (va_runV (As := []) (rest := []) ⟨hx, hb, hml, hown, hts⟩ (n_isGood l dC dI h ad cl H.size τ  hIτ) (cwV 0 hts gd_n_signed_224_n_isGood rfl rfl rfl dd_n_isGood ⟨Nat.le_of_ble_eq_true rfl, Nat.le_of_ble_eq_true rfl⟩) (preV hP hK hD hE (ci := 12) (q0 := 0) rfl rfl) rfl rfl hl.1 rfl (lv_room (Nat.le_of_ble_eq_true rfl)) dX12_signed_88 ⟨Nat.le_of_ble_eq_true rfl, Nat.le_of_ble_eq_true rfl⟩) hD hS hA (fun z6 τ5 H locs hq hP hD hS => ?_)
    obtain ⟨rfl, f7⟩ := hq
    refine W.widen (k := 0) (n := 0) (Nat.le_of_ble_eq_true rfl) (Nat.le_of_ble_eq_true rfl) ?_
    refine lv_if_eq (tgt := 98) hx hb dX12_signed_91 rfl (fun c8 => ?_) (fun c8 => ?_)
    · have tc8 := (show z6.toInt = 0 from ti_eq rfl rg_11 c8)
      exact pt_98 τ pl mi vv _ _ _ hIτ hxτ hmτ hgτ (fun h9 => by have h8 : (τ.1 4).toInt = 0 := h9; omega) hP hD hS (lv_sub hl [0, 1, 2, 3, 4, 5] rfl)
    · have tc8 := (show z6.toInt ≠ 0 from ti_ne rfl rg_11 c8)
      refine lv_aload_n hx hb dX12_signed_94 rfl (lv_at hl 0 rfl) ?_
      refine zy_v (va_runV (As := []) (rest := []) ⟨hx, hb, hml, hown, hts⟩ (n_next l dC dI h ad cl H.size τ  hIτ (Lx.es hgτ)) (cwV 0 hts gd_n_signed_228_n_next rfl rfl rfl dd_n_next ⟨Nat.le_of_ble_eq_true rfl, Nat.le_of_ble_eq_true rfl⟩) (preV hP hK hD hE (ci := 12) (q0 := 0) rfl rfl) rfl rfl hl.1 rfl (lv_room (Nat.le_of_ble_eq_true rfl)) dX12_signed_95 ⟨Nat.le_of_ble_eq_true rfl, Nat.le_of_ble_eq_true rfl⟩) hD hS hA (fun τ9 H locs hq hP hD hS => ?_)
      obtain ⟨hI11, hx12, f13, lx14⟩ := hq
      have Xτ9 : eqx [6, 7, 8, 9, 10, 4, 5] τ9 σ := eqx.tr hx12 hxτ rg_50
      have Mτ9 : Mo τ9 σ := Mo.tr (Mo.of hx12 rg_51) (fun h9 => hmτ h9)
      have Lτ9 : Lx τ9 σ := Lx.tr lx14 hgτ
      have qq15 : (τ9.1 4).toInt = ((τ.1 4) : Int32).toInt := congrArg Int32.toInt ((show τ9.1 4 = (τ.1 4) from ((hx12 4 rg_51).1).trans rfl))
      refine W.widen (k := 0) (n := 0) (Nat.le_of_ble_eq_true rfl) (Nat.le_of_ble_eq_true rfl) ?_
      have qq16 : (τ9.1 4).toInt = ((τ.1 4) : Int32).toInt := congrArg Int32.toInt ((show τ9.1 4 = (τ.1 4) from ((hx12 4 rg_51).1).trans rfl))
      exact pt_98 τ9 pl mi vv _ _ _ hI11 Xτ9 Mτ9 Lτ9 (fun h9 => by have h8 : (τ9.1 4).toInt = 0 := h9; omega) hP hD hS (lv_sub hl [0, 1, 2, 3, 4, 5] rfl)
  have pt_62 : ∀ (τ : MS) (pl : Int32) (mi : Int32) (vv : Int32) (H : Heap) (locs : List Loc) (ls : Array Slot), (Inv τ) → (eqx [6, 7, 8, 9, 10, 4, 5] τ σ) → (Mo τ σ) → (Lx τ σ) → va_P (dC, dI) vwCl (mW h ad cl τ) H → va_D A (mW h ad cl τ) → va_S A s.heap H locs → lv_has ls 6 [(0, .ref h), (1, .int a), (2, .int b), (3, .int pl), (4, .int mi), (5, .int vv)] → W p l e (headSpec vs_n_signed rm_n_signed).room s m #[Value.ref h, Value.int a, Value.int b] below meth c H locs 0 0 Q (F0 m 62 ls []) := by
    intro τ pl mi vv H locs ls hIτ hxτ hmτ hgτ hP hD hS hl
    have bτ_4 : 0 ≤ (τ.1 4).toInt ∧ (τ.1 4).toInt ≤ 7 := hIτ.1 4
    refine lv_aload_n hx hb dX12_signed_62 rfl (lv_at hl 0 rfl) ?_
    refine zy_i (va_runV (As := []) (rest := []) ⟨hx, hb, hml, hown, hts⟩ (n_isGood l dC dI h ad cl H.size τ  hIτ) (cwV 0 hts gd_n_signed_224_n_isGood rfl rfl rfl dd_n_isGood ⟨Nat.le_of_ble_eq_true rfl, Nat.le_of_ble_eq_true rfl⟩) (preV hP hK hD hE (ci := 12) (q0 := 0) rfl rfl) rfl rfl hl.1 rfl (lv_room (Nat.le_of_ble_eq_true rfl)) dX12_signed_63 ⟨Nat.le_of_ble_eq_true rfl, Nat.le_of_ble_eq_true rfl⟩) hD hS hA (fun z18 τ17 H locs hq hP hD hS => ?_)
    obtain ⟨rfl, f19⟩ := hq
    refine W.widen (k := 0) (n := 0) (Nat.le_of_ble_eq_true rfl) (Nat.le_of_ble_eq_true rfl) ?_
    refine lv_if_eq (tgt := 87) hx hb dX12_signed_66 rfl (fun c20 => ?_) (fun c20 => ?_)
    · have tc20 := (show z18.toInt = 0 from ti_eq rfl rg_11 c20)
      exact pt_87 τ pl mi vv _ _ _ hIτ hxτ hmτ hgτ (fun h9 => by have h8 : (τ.1 4).toInt = 0 := h9; omega) hP hD hS (lv_sub hl [0, 1, 2, 3, 4, 5] rfl)
    · have tc20 := (show z18.toInt ≠ 0 from ti_ne rfl rg_11 c20)
      refine lv_iload hx hb dX12_signed_69 (lv_at hl 5 rfl) ?_
      refine lv_iload_n hx hb dX12_signed_71 rfl (lv_at hl 1 rfl) ?_
      refine lv_icmp_lt (tgt := 81) hx hb dX12_signed_72 rfl (fun c21 => ?_) (fun c21 => ?_)
      · have tc21 := (show vv.toInt < a.toInt from ti_lt rfl rfl c21)
        refine lv_aload_n hx hb dX12_signed_81 rfl (lv_at hl 0 rfl) ?_
        refine lv_iconst (v := 4) hx hb dX12_signed_82 rg_31 ?_
        refine lv_iload_n hx hb dX12_signed_83 rfl (lv_at hl 3 rfl) ?_
        have kk22 : (4 : Int32).toInt = 4 := rg_32
        have o1 : 0 ≤ (4 : Int32).toInt := by omega
        have o2 : (4 : Int32).toInt ≤ 7 := by omega
        refine zy_v (va_runV (As := [.int 4, .int pl]) (rest := []) ⟨hx, hb, hml, hown, hts⟩ (n_fails l dC dI h ad cl H.size τ 4 pl hIτ ⟨o1, o2⟩) (cwV 2 hts gd_n_signed_220_n_fails rfl rfl rfl dd_n_fails ⟨Nat.le_of_ble_eq_true rfl, Nat.le_of_ble_eq_true rfl⟩) (preV hP hK hD hE (ci := 12) (q0 := 0) rfl rfl) rfl rfl hl.1 rfl (lv_room (Nat.le_of_ble_eq_true rfl)) dX12_signed_84 ⟨Nat.le_of_ble_eq_true rfl, Nat.le_of_ble_eq_true rfl⟩) hD hS hA (fun τ23 H locs hq hP hD hS => ?_)
        obtain ⟨hI25, hx26, f27, mo28⟩ := hq
        have Xτ23 : eqx [6, 7, 8, 9, 10, 4, 5] τ23 σ := eqx.tr hx26 hxτ rg_46
        have Mτ23 : Mo τ23 σ := Mo.tr mo28 (fun h9 => hmτ h9)
        have Lτ23 : Lx τ23 σ := Lx.tr (Lx.of hx26 (Lx.es hgτ) rg_47 rg_48 rg_49) hgτ
        refine W.widen (k := 0) (n := 0) (Nat.le_of_ble_eq_true rfl) (Nat.le_of_ble_eq_true rfl) ?_
        exact pt_87 τ23 pl mi vv _ _ _ hI25 Xτ23 Mτ23 Lτ23 (fun h9 => by have h8 : (τ23.1 4).toInt = 0 := h9; omega) hP hD hS (lv_sub hl [0, 1, 2, 3, 4, 5] rfl)
      · have tc21 := (show a.toInt ≤ vv.toInt from ti_nlt rfl rfl c21)
        refine lv_iload hx hb dX12_signed_75 (lv_at hl 5 rfl) ?_
        refine lv_iload_n hx hb dX12_signed_77 rfl (lv_at hl 2 rfl) ?_
        refine lv_icmp_le (tgt := 87) hx hb dX12_signed_78 rfl (fun c29 => ?_) (fun c29 => ?_)
        · have tc29 := (show vv.toInt ≤ b.toInt from ti_le rfl rfl c29)
          exact pt_87 τ pl mi vv _ _ _ hIτ hxτ hmτ hgτ (fun h9 => by have h8 : (τ.1 4).toInt = 0 := h9; omega) hP hD hS (lv_sub hl [0, 1, 2, 3, 4, 5] rfl)
        · have tc29 := (show b.toInt < vv.toInt from ti_nle rfl rfl c29)
          refine lv_aload_n hx hb dX12_signed_81 rfl (lv_at hl 0 rfl) ?_
          refine lv_iconst (v := 4) hx hb dX12_signed_82 rg_31 ?_
          refine lv_iload_n hx hb dX12_signed_83 rfl (lv_at hl 3 rfl) ?_
          have kk30 : (4 : Int32).toInt = 4 := rg_32
          have o3 : 0 ≤ (4 : Int32).toInt := by omega
          have o4 : (4 : Int32).toInt ≤ 7 := by omega
          refine zy_v (va_runV (As := [.int 4, .int pl]) (rest := []) ⟨hx, hb, hml, hown, hts⟩ (n_fails l dC dI h ad cl H.size τ 4 pl hIτ ⟨o3, o4⟩) (cwV 2 hts gd_n_signed_220_n_fails rfl rfl rfl dd_n_fails ⟨Nat.le_of_ble_eq_true rfl, Nat.le_of_ble_eq_true rfl⟩) (preV hP hK hD hE (ci := 12) (q0 := 0) rfl rfl) rfl rfl hl.1 rfl (lv_room (Nat.le_of_ble_eq_true rfl)) dX12_signed_84 ⟨Nat.le_of_ble_eq_true rfl, Nat.le_of_ble_eq_true rfl⟩) hD hS hA (fun τ31 H locs hq hP hD hS => ?_)
          obtain ⟨hI33, hx34, f35, mo36⟩ := hq
          have Xτ31 : eqx [6, 7, 8, 9, 10, 4, 5] τ31 σ := eqx.tr hx34 hxτ rg_46
          have Mτ31 : Mo τ31 σ := Mo.tr mo36 (fun h9 => hmτ h9)
          have Lτ31 : Lx τ31 σ := Lx.tr (Lx.of hx34 (Lx.es hgτ) rg_47 rg_48 rg_49) hgτ
          refine W.widen (k := 0) (n := 0) (Nat.le_of_ble_eq_true rfl) (Nat.le_of_ble_eq_true rfl) ?_
          exact pt_87 τ31 pl mi vv _ _ _ hI33 Xτ31 Mτ31 Lτ31 (fun h9 => by have h8 : (τ31.1 4).toInt = 0 := h9; omega) hP hD hS (lv_sub hl [0, 1, 2, 3, 4, 5] rfl)
  have pt_43 : ∀ (τ : MS) (pl : Int32) (mi : Int32) (H : Heap) (locs : List Loc) (ls : Array Slot), (Inv τ) → (eqx [6, 7, 8, 9, 10, 4, 5] τ σ) → (Mo τ σ) → (Lx τ σ) → va_P (dC, dI) vwCl (mW h ad cl τ) H → va_D A (mW h ad cl τ) → va_S A s.heap H locs → lv_has ls 6 [(0, .ref h), (1, .int a), (2, .int b), (3, .int pl), (4, .int mi)] → W p l e (headSpec vs_n_signed rm_n_signed).room s m #[Value.ref h, Value.int a, Value.int b] below meth c H locs 0 0 Q (F0 m 43 ls []) := by
    intro τ pl mi H locs ls hIτ hxτ hmτ hgτ hP hD hS hl
    have bτ_4 : 0 ≤ (τ.1 4).toInt ∧ (τ.1 4).toInt ≤ 7 := hIτ.1 4
    refine lv_iload hx hb dX12_signed_43 (lv_at hl 4 rfl) ?_
    refine lv_if_eq (tgt := 56) hx hb dX12_signed_45 rfl (fun c37 => ?_) (fun c37 => ?_)
    · have tc37 := (show mi.toInt = 0 from ti_eq rfl rg_11 c37)
      refine lv_aload_n hx hb dX12_signed_56 rfl (lv_at hl 0 rfl) ?_
      refine va_get (D := (dC, dI)) (ci := 12) (v := .int (τ.1 9)) (C := RX12) (T := TX12) (N := 59) hx hb hts hin12 hown hK hP 0 rfl rfl 9 (Nat.le_of_ble_eq_true rfl) (ho (.fieldLink RX12 217 "NearEnoughModel" "number" "I") (List.mem_of_getElem? (i := 0) rfl)) (fun _ h9 => h9) rfl dX12_signed_57 ?_
      refine lv_istore (lv' := [(5, .int (τ.1 9)), (0, .ref h), (1, .int a), (2, .int b), (3, .int pl), (4, .int mi)]) hx hb dX12_signed_60 hl (Nat.le_of_ble_eq_true rfl) rfl (fun ls hl => ?_)
      exact pt_62 τ pl mi (τ.1 9) _ _ _ hIτ hxτ hmτ hgτ hP hD hS (lv_sub hl [1, 2, 3, 4, 5, 0] rfl)
    · have tc37 := (show mi.toInt ≠ 0 from ti_ne rfl rg_11 c37)
      refine lv_aload_n hx hb dX12_signed_48 rfl (lv_at hl 0 rfl) ?_
      refine va_get (D := (dC, dI)) (ci := 12) (v := .int (τ.1 9)) (C := RX12) (T := TX12) (N := 59) hx hb hts hin12 hown hK hP 0 rfl rfl 9 (Nat.le_of_ble_eq_true rfl) (ho (.fieldLink RX12 217 "NearEnoughModel" "number" "I") (List.mem_of_getElem? (i := 0) rfl)) (fun _ h9 => h9) rfl dX12_signed_49 ?_
      refine lv_ineg hx hb dX12_signed_52 ?_
      refine lv_topi (fun z38 ez38 => ?_)
      refine lv_goto (tgt := 60) hx hb dX12_signed_53 rfl ?_
      refine lv_istore (lv' := [(5, .int z38), (0, .ref h), (1, .int a), (2, .int b), (3, .int pl), (4, .int mi)]) hx hb dX12_signed_60 hl (Nat.le_of_ble_eq_true rfl) rfl (fun ls hl => ?_)
      exact pt_62 τ pl mi z38 _ _ _ hIτ hxτ hmτ hgτ hP hD hS (lv_sub hl [1, 2, 3, 4, 5, 0] rfl)
  have pt_31 : ∀ (τ : MS) (pl : Int32) (mi : Int32) (H : Heap) (locs : List Loc) (ls : Array Slot), (Inv τ) → (eqx [6, 7, 8, 9, 10, 4, 5] τ σ) → (Mo τ σ) → (Lx τ σ) → va_P (dC, dI) vwCl (mW h ad cl τ) H → va_D A (mW h ad cl τ) → va_S A s.heap H locs → lv_has ls 6 [(0, .ref h), (1, .int a), (2, .int b), (3, .int pl), (4, .int mi)] → W p l e (headSpec vs_n_signed rm_n_signed).room s m #[Value.ref h, Value.int a, Value.int b] below meth c H locs 0 0 Q (F0 m 31 ls []) := by
    intro τ pl mi H locs ls hIτ hxτ hmτ hgτ hP hD hS hl
    have bτ_4 : 0 ≤ (τ.1 4).toInt ∧ (τ.1 4).toInt ≤ 7 := hIτ.1 4
    refine lv_aload_n hx hb dX12_signed_31 rfl (lv_at hl 0 rfl) ?_
    refine va_get (D := (dC, dI)) (ci := 12) (v := .int (τ.1 8)) (C := RX12) (T := TX12) (N := 59) hx hb hts hin12 hown hK hP 0 rfl rfl 8 (Nat.le_of_ble_eq_true rfl) (ho (.fieldLink RX12 199 "NearEnoughModel" "token" "I") (List.mem_of_getElem? (i := 1) rfl)) (fun _ h9 => h9) rfl dX12_signed_32 ?_
    have bτ_8 : 0 ≤ (τ.1 8).toInt ∧ (τ.1 8).toInt ≤ 5 := hIτ.1 8
    refine lv_iconst (v := 4) hx hb dX12_signed_35 rg_31 ?_
    refine lv_icmp_eq (tgt := 43) hx hb dX12_signed_36 rfl (fun c39 => ?_) (fun c39 => ?_)
    · have tc39 := (show (τ.1 8).toInt = 4 from ti_eq rfl rg_32 c39)
      exact pt_43 τ pl mi _ _ _ hIτ hxτ hmτ hgτ hP hD hS (lv_sub hl [0, 1, 2, 3, 4] rfl)
    · have tc39 := (show (τ.1 8).toInt ≠ 4 from ti_ne rfl rg_32 c39)
      refine lv_aload_n hx hb dX12_signed_39 rfl (lv_at hl 0 rfl) ?_
      refine zy_v (va_runV (As := []) (rest := []) ⟨hx, hb, hml, hown, hts⟩ (n_wrong l dC dI h ad cl H.size τ  hIτ) (cwV 0 hts gd_n_signed_231_n_wrong rfl rfl rfl dd_n_wrong ⟨Nat.le_of_ble_eq_true rfl, Nat.le_of_ble_eq_true rfl⟩) (preV hP hK hD hE (ci := 12) (q0 := 0) rfl rfl) rfl rfl hl.1 rfl (lv_room (Nat.le_of_ble_eq_true rfl)) dX12_signed_40 ⟨Nat.le_of_ble_eq_true rfl, Nat.le_of_ble_eq_true rfl⟩) hD hS hA (fun τ40 H locs hq hP hD hS => ?_)
      obtain ⟨hI42, hx43, f44, mo45⟩ := hq
      have Xτ40 : eqx [6, 7, 8, 9, 10, 4, 5] τ40 σ := eqx.tr hx43 hxτ rg_46
      have Mτ40 : Mo τ40 σ := Mo.tr mo45 (fun h9 => hmτ h9)
      have Lτ40 : Lx τ40 σ := Lx.tr (Lx.of hx43 (Lx.es hgτ) rg_47 rg_48 rg_49) hgτ
      refine W.widen (k := 0) (n := 0) (Nat.le_of_ble_eq_true rfl) (Nat.le_of_ble_eq_true rfl) ?_
      exact pt_43 τ40 pl mi _ _ _ hI42 Xτ40 Mτ40 Lτ40 hP hD hS (lv_sub hl [0, 1, 2, 3, 4] rfl)
  refine zH (A := A) (ws := mW h ad cl σ) (fun H hP hS => ?_) hP
  have bσ_4 : 0 ≤ (σ.1 4).toInt ∧ (σ.1 4).toInt ≤ 7 := hI.1 4
  refine lv_aload_n hx hb dX12_signed_0 rfl (lv_at hl 0 rfl) ?_
  refine zy_i (va_runV (As := []) (rest := []) ⟨hx, hb, hml, hown, hts⟩ (n_isGood l dC dI h ad cl H.size σ  hI) (cwV 0 hts gd_n_signed_224_n_isGood rfl rfl rfl dd_n_isGood ⟨Nat.le_of_ble_eq_true rfl, Nat.le_of_ble_eq_true rfl⟩) (preV hP hK hD hE (ci := 12) (q0 := 0) rfl rfl) rfl rfl hl.1 rfl (lv_room (Nat.le_of_ble_eq_true rfl)) dX12_signed_1 ⟨Nat.le_of_ble_eq_true rfl, Nat.le_of_ble_eq_true rfl⟩) hD hS hA (fun z47 τ46 H locs hq hP hD hS => ?_)
  obtain ⟨rfl, f48⟩ := hq
  refine W.widen (k := 0) (n := 0) (Nat.le_of_ble_eq_true rfl) (Nat.le_of_ble_eq_true rfl) ?_
  refine lv_if_ne (tgt := 9) hx hb dX12_signed_4 rfl (fun c49 => ?_) (fun c49 => ?_)
  · have tc49 := (show z47.toInt ≠ 0 from ti_ne rfl rg_11 c49)
    refine lv_aload_n hx hb dX12_signed_9 rfl (lv_at hl 0 rfl) ?_
    refine va_get (D := (dC, dI)) (ci := 12) (v := .int (σ.1 6)) (C := RX12) (T := TX12) (N := 59) hx hb hts hin12 hown hK hP 0 rfl rfl 6 (Nat.le_of_ble_eq_true rfl) (ho (.fieldLink RX12 192 "NearEnoughModel" "at" "I") (List.mem_of_getElem? (i := 2) rfl)) (fun _ h9 => h9) rfl dX12_signed_10 ?_
    have bσ_6 : 0 ≤ (σ.1 6).toInt ∧ (σ.1 6).toInt ≤ 1000 := hI.1 6
    refine lv_istore_n (lv' := [(3, .int (σ.1 6)), (0, .ref h), (1, .int a), (2, .int b)]) hx hb dX12_signed_13 rfl hl (Nat.le_of_ble_eq_true rfl) rfl (fun ls hl => ?_)
    refine lv_aload_n hx hb dX12_signed_14 rfl (lv_at hl 1 rfl) ?_
    refine lv_bipush (v := 45) hx hb dX12_signed_15 rg_39 ?_
    have kk50 : (45 : Int32).toInt = 45 := rg_40
    refine zy_i (va_runV (As := [.int 45]) (rest := []) ⟨hx, hb, hml, hown, hts⟩ (n_is l dC dI h ad cl H.size σ 45 hI) (cwV 1 hts gd_n_signed_234_n_is rfl rfl rfl dd_n_is ⟨Nat.le_of_ble_eq_true rfl, Nat.le_of_ble_eq_true rfl⟩) (preV hP hK hD hE (ci := 12) (q0 := 0) rfl rfl) rfl rfl hl.1 rfl (lv_room (Nat.le_of_ble_eq_true rfl)) dX12_signed_17 ⟨Nat.le_of_ble_eq_true rfl, Nat.le_of_ble_eq_true rfl⟩) hD hS hA (fun z52 τ51 H locs hq hP hD hS => ?_)
    obtain ⟨rfl, f53⟩ := hq
    refine W.widen (k := 0) (n := 0) (Nat.le_of_ble_eq_true rfl) (Nat.le_of_ble_eq_true rfl) ?_
    refine lv_istore (lv' := [(4, .int z52), (3, .int (σ.1 6)), (0, .ref h), (1, .int a), (2, .int b)]) hx hb dX12_signed_20 hl (Nat.le_of_ble_eq_true rfl) rfl (fun ls hl => ?_)
    refine lv_iload hx hb dX12_signed_22 (lv_at hl 0 rfl) ?_
    refine lv_if_eq (tgt := 31) hx hb dX12_signed_24 rfl (fun c54 => ?_) (fun c54 => ?_)
    · have tc54 := (show z52.toInt = 0 from ti_eq rfl rg_11 c54)
      exact pt_31 σ (σ.1 6) z52 _ _ _ hI eqx.rf Mo.rf (Lx.rf hes) hP hD hS (lv_sub hl [2, 3, 4, 1, 0] rfl)
    · have tc54 := (show z52.toInt ≠ 0 from ti_ne rfl rg_11 c54)
      refine lv_aload_n hx hb dX12_signed_27 rfl (lv_at hl 2 rfl) ?_
      refine zy_v (va_runV (As := []) (rest := []) ⟨hx, hb, hml, hown, hts⟩ (n_next l dC dI h ad cl H.size σ  hI (Lx.es (Lx.rf hes))) (cwV 0 hts gd_n_signed_228_n_next rfl rfl rfl dd_n_next ⟨Nat.le_of_ble_eq_true rfl, Nat.le_of_ble_eq_true rfl⟩) (preV hP hK hD hE (ci := 12) (q0 := 0) rfl rfl) rfl rfl hl.1 rfl (lv_room (Nat.le_of_ble_eq_true rfl)) dX12_signed_28 ⟨Nat.le_of_ble_eq_true rfl, Nat.le_of_ble_eq_true rfl⟩) hD hS hA (fun τ55 H locs hq hP hD hS => ?_)
      obtain ⟨hI57, hx58, f59, lx60⟩ := hq
      have Xτ55 : eqx [6, 7, 8, 9, 10, 4, 5] τ55 σ := eqx.tr hx58 eqx.rf rg_50
      have Mτ55 : Mo τ55 σ := Mo.tr (Mo.of hx58 rg_51) (fun h9 => Mo.rf h9)
      have Lτ55 : Lx τ55 σ := Lx.tr lx60 (Lx.rf hes)
      have qq61 : (τ55.1 4).toInt = ((σ.1 4) : Int32).toInt := congrArg Int32.toInt ((show τ55.1 4 = (σ.1 4) from ((hx58 4 rg_51).1).trans rfl))
      refine W.widen (k := 0) (n := 0) (Nat.le_of_ble_eq_true rfl) (Nat.le_of_ble_eq_true rfl) ?_
      exact pt_31 τ55 (σ.1 6) z52 _ _ _ hI57 Xτ55 Mτ55 Lτ55 hP hD hS (lv_sub hl [2, 3, 4, 1, 0] rfl)
  · have tc49 := (show z47.toInt = 0 from ti_eq rfl rg_11 c49)
    refine lv_iload_n hx hb dX12_signed_7 rfl (lv_at hl 1 rfl) ?_
    rw [hQ]
    exact W.iret (v := a) hx hb hr (fun t ht hW => ⟨⟨a, σ, rfl, ⟨hI, eqx.rf, (by omega), (by omega), Mo.rf, (Lx.rf hes)⟩, wEn_of hP (hK.sub [] rfl) hD ht hW⟩, hS.F ht⟩) hS.2.2 dX12_signed_8
def ow_n_kindHere : List Cond := [.constantLong RX12 151 (7566701), .constantLong RX12 155 (1836020596), .constantLong RX12 157 (6382692), .constantLong RX12 159 (1818588019), .constantLong RX12 161 (499984983411), .constantLong RX12 163 (495588568165), .constantLong RX12 169 (24948), .constantLong RX12 173 (1885954923)]
def vs_n_kindHere : List Cond := .code yX12_kindHere cX12_kindHere 1 (some .int) :: (ow_n_kindHere ++ (([.methodLink RX12 261 yX12_isWord, .instanceMethod yX12_isWord, .selects RX12 yX12_isWord yX12_isWord, .initialized RX12] : List Cond) ++ (vs_n_isWord)))
theorem vg_n_kindHere : vs_n_kindHere.all goodWord = true := by decide +kernel
theorem dd_n_kindHere : yX12_kindHere.cls = RX12 ∧ yX12_kindHere.cls ≠ "java/lang/invoke/MethodHandle" ∧ yX12_kindHere.cls ≠ "java/lang/invoke/VarHandle" ∧ (parseMethodDescriptor yX12_kindHere.desc).map (fun d => d.parameters.length) = some 0 := by decide +kernel
def rm_n_kindHere : Room := { frames := 1, cells := 0, slots := 0, locals := 22 }
theorem gd_n_kindHere_261_n_isWord : GoodIn vs_n_kindHere (wsV RX12 261 RX12 yX12_isWord vs_n_isWord) := goodIn_app (goodIn_sub (fun w h => (List.mem_cons_of_mem _ (List.mem_append_right _ (List.mem_append_left _ h)))) (by decide +kernel)) (goodIn_sub (fun w h => (List.mem_cons_of_mem _ (List.mem_append_right _ (List.mem_append_right _ h)))) vg_n_isWord)
set_option maxHeartbeats 4000000 in
set_option maxRecDepth 100000 in
theorem n_kindHere (l : Launch) (dC : Nat → ClassId) (dI : Nat → Nat → Nat) (h : Nat) (ad : Nat → Nat) (cl : Nat → ClassId) (sz : Nat) (σ : MS)  (hI : Inv σ) : Met l yX12_kindHere vs_n_kindHere rm_n_kindHere (va_Pc [.ref h] (wSt dC dI (mW h ad cl σ) (mT cl) sz)) (va_Qi (fun (r : Int32) (τ : MS) => σ = τ ∧ -1 ≤ r.toInt ∧ r.toInt ≤ 7) (fun (τ : MS) => wEn dC dI (va_A (mW h ad cl σ) sz) (mW h ad cl τ) []) (va_A (mW h ad cl σ) sz)) 0 0 (va_A (mW h ad cl σ) sz) := by
  refine Met.ofW (cc := cX12_kindHere) (maxL := 1) (ret := (some .int)) (by decide) rfl ?_
  intro p e s m args below meth c s₁ B hml hv
  obtain ⟨rfl, hsz, hP, hK, hD0, hE⟩ := hv
  have hx := B.exec
  have hb := B.bytes
  have hr := B.returns
  have hts := atoms_spec (ws := vs_n_kindHere) B.pre
  have hown : s.vm.findClass RX12 = some m.cls := findClass_of_methodNamed B.named
  have hlocks := B.notSynchronized
  subst hsz
  have hD := hD0.self (sz := s.heap.size)
  generalize hAe : va_A (mW h ad cl σ) s.heap.size = A at hD ⊢
  have hA : ∀ q : Nat, s.heap.size ≤ q → A q := fun q h => by rw [← hAe]; exact Or.inr h
  have hl := lv_entry ([.ref h]) (n := 1) (Nat.le_of_ble_eq_true rfl)
  rw [lg_entry_eq]
  generalize (lg_sl ([.ref h]) ++ List.replicate (1 - (lg_sl ([.ref h])).length) Slot.unset).toArray = ls at hl ⊢
  have hl : lv_has ls 1 [(0, .ref h)] := hl
  have ho := fun w (h : w ∈ ow_n_kindHere) => hts w (List.mem_cons_of_mem _ (List.mem_append_left _ h))
  refine zQ (fun Q hQ => ?_)
  refine zH (A := A) (ws := mW h ad cl σ) (fun H hP hS => ?_) hP
  refine lv_aload_n hx hb dX12_kindHere_0 rfl (lv_at hl 0 rfl) ?_
  refine lv_ldc2 (v := (7566701)) hx hb hown (ho (.constantLong RX12 151 (7566701)) (List.mem_of_getElem? (i := 0) rfl)) dX12_kindHere_1 ?_
  refine zy_i (va_runV (As := [.long 7566701]) (rest := []) ⟨hx, hb, hml, hown, hts⟩ (n_isWord l dC dI h ad cl H.size σ 7566701 hI) (cwV 1 hts gd_n_kindHere_261_n_isWord rfl rfl rfl dd_n_isWord ⟨Nat.le_of_ble_eq_true rfl, Nat.le_of_ble_eq_true rfl⟩) (preV hP hK hD hE (ci := 12) (q0 := 0) rfl rfl) rfl rfl hl.1 rfl (lv_room (Nat.le_of_ble_eq_true rfl)) dX12_kindHere_4 ⟨Nat.le_of_ble_eq_true rfl, Nat.le_of_ble_eq_true rfl⟩) hD hS hA (fun z2 τ1 H locs hq hP hD hS => ?_)
  obtain ⟨rfl, f3⟩ := hq
  refine W.widen (k := 0) (n := 0) (Nat.le_of_ble_eq_true rfl) (Nat.le_of_ble_eq_true rfl) ?_
  refine lv_if_eq (tgt := 12) hx hb dX12_kindHere_7 rfl (fun c4 => ?_) (fun c4 => ?_)
  · have tc4 := (show z2.toInt = 0 from ti_eq rfl rg_11 c4)
    refine lv_aload_n hx hb dX12_kindHere_12 rfl (lv_at hl 0 rfl) ?_
    refine lv_ldc2 (v := (1836020596)) hx hb hown (ho (.constantLong RX12 155 (1836020596)) (List.mem_of_getElem? (i := 1) rfl)) dX12_kindHere_13 ?_
    refine zy_i (va_runV (As := [.long 1836020596]) (rest := []) ⟨hx, hb, hml, hown, hts⟩ (n_isWord l dC dI h ad cl H.size σ 1836020596 hI) (cwV 1 hts gd_n_kindHere_261_n_isWord rfl rfl rfl dd_n_isWord ⟨Nat.le_of_ble_eq_true rfl, Nat.le_of_ble_eq_true rfl⟩) (preV hP hK hD hE (ci := 12) (q0 := 0) rfl rfl) rfl rfl hl.1 rfl (lv_room (Nat.le_of_ble_eq_true rfl)) dX12_kindHere_16 ⟨Nat.le_of_ble_eq_true rfl, Nat.le_of_ble_eq_true rfl⟩) hD hS hA (fun z6 τ5 H locs hq hP hD hS => ?_)
    obtain ⟨rfl, f7⟩ := hq
    refine W.widen (k := 0) (n := 0) (Nat.le_of_ble_eq_true rfl) (Nat.le_of_ble_eq_true rfl) ?_
    refine lv_if_eq (tgt := 24) hx hb dX12_kindHere_19 rfl (fun c8 => ?_) (fun c8 => ?_)
    · have tc8 := (show z6.toInt = 0 from ti_eq rfl rg_11 c8)
      refine lv_aload_n hx hb dX12_kindHere_24 rfl (lv_at hl 0 rfl) ?_
      refine lv_ldc2 (v := (6382692)) hx hb hown (ho (.constantLong RX12 157 (6382692)) (List.mem_of_getElem? (i := 2) rfl)) dX12_kindHere_25 ?_
      refine zy_i (va_runV (As := [.long 6382692]) (rest := []) ⟨hx, hb, hml, hown, hts⟩ (n_isWord l dC dI h ad cl H.size σ 6382692 hI) (cwV 1 hts gd_n_kindHere_261_n_isWord rfl rfl rfl dd_n_isWord ⟨Nat.le_of_ble_eq_true rfl, Nat.le_of_ble_eq_true rfl⟩) (preV hP hK hD hE (ci := 12) (q0 := 0) rfl rfl) rfl rfl hl.1 rfl (lv_room (Nat.le_of_ble_eq_true rfl)) dX12_kindHere_28 ⟨Nat.le_of_ble_eq_true rfl, Nat.le_of_ble_eq_true rfl⟩) hD hS hA (fun z10 τ9 H locs hq hP hD hS => ?_)
      obtain ⟨rfl, f11⟩ := hq
      refine W.widen (k := 0) (n := 0) (Nat.le_of_ble_eq_true rfl) (Nat.le_of_ble_eq_true rfl) ?_
      refine lv_if_eq (tgt := 36) hx hb dX12_kindHere_31 rfl (fun c12 => ?_) (fun c12 => ?_)
      · have tc12 := (show z10.toInt = 0 from ti_eq rfl rg_11 c12)
        refine lv_aload_n hx hb dX12_kindHere_36 rfl (lv_at hl 0 rfl) ?_
        refine lv_ldc2 (v := (1818588019)) hx hb hown (ho (.constantLong RX12 159 (1818588019)) (List.mem_of_getElem? (i := 3) rfl)) dX12_kindHere_37 ?_
        refine zy_i (va_runV (As := [.long 1818588019]) (rest := []) ⟨hx, hb, hml, hown, hts⟩ (n_isWord l dC dI h ad cl H.size σ 1818588019 hI) (cwV 1 hts gd_n_kindHere_261_n_isWord rfl rfl rfl dd_n_isWord ⟨Nat.le_of_ble_eq_true rfl, Nat.le_of_ble_eq_true rfl⟩) (preV hP hK hD hE (ci := 12) (q0 := 0) rfl rfl) rfl rfl hl.1 rfl (lv_room (Nat.le_of_ble_eq_true rfl)) dX12_kindHere_40 ⟨Nat.le_of_ble_eq_true rfl, Nat.le_of_ble_eq_true rfl⟩) hD hS hA (fun z14 τ13 H locs hq hP hD hS => ?_)
        obtain ⟨rfl, f15⟩ := hq
        refine W.widen (k := 0) (n := 0) (Nat.le_of_ble_eq_true rfl) (Nat.le_of_ble_eq_true rfl) ?_
        refine lv_if_eq (tgt := 48) hx hb dX12_kindHere_43 rfl (fun c16 => ?_) (fun c16 => ?_)
        · have tc16 := (show z14.toInt = 0 from ti_eq rfl rg_11 c16)
          refine lv_aload_n hx hb dX12_kindHere_48 rfl (lv_at hl 0 rfl) ?_
          refine lv_ldc2 (v := (499984983411)) hx hb hown (ho (.constantLong RX12 161 (499984983411)) (List.mem_of_getElem? (i := 4) rfl)) dX12_kindHere_49 ?_
          refine zy_i (va_runV (As := [.long 499984983411]) (rest := []) ⟨hx, hb, hml, hown, hts⟩ (n_isWord l dC dI h ad cl H.size σ 499984983411 hI) (cwV 1 hts gd_n_kindHere_261_n_isWord rfl rfl rfl dd_n_isWord ⟨Nat.le_of_ble_eq_true rfl, Nat.le_of_ble_eq_true rfl⟩) (preV hP hK hD hE (ci := 12) (q0 := 0) rfl rfl) rfl rfl hl.1 rfl (lv_room (Nat.le_of_ble_eq_true rfl)) dX12_kindHere_52 ⟨Nat.le_of_ble_eq_true rfl, Nat.le_of_ble_eq_true rfl⟩) hD hS hA (fun z18 τ17 H locs hq hP hD hS => ?_)
          obtain ⟨rfl, f19⟩ := hq
          refine W.widen (k := 0) (n := 0) (Nat.le_of_ble_eq_true rfl) (Nat.le_of_ble_eq_true rfl) ?_
          refine lv_if_eq (tgt := 60) hx hb dX12_kindHere_55 rfl (fun c20 => ?_) (fun c20 => ?_)
          · have tc20 := (show z18.toInt = 0 from ti_eq rfl rg_11 c20)
            refine lv_aload_n hx hb dX12_kindHere_60 rfl (lv_at hl 0 rfl) ?_
            refine lv_ldc2 (v := (495588568165)) hx hb hown (ho (.constantLong RX12 163 (495588568165)) (List.mem_of_getElem? (i := 5) rfl)) dX12_kindHere_61 ?_
            refine zy_i (va_runV (As := [.long 495588568165]) (rest := []) ⟨hx, hb, hml, hown, hts⟩ (n_isWord l dC dI h ad cl H.size σ 495588568165 hI) (cwV 1 hts gd_n_kindHere_261_n_isWord rfl rfl rfl dd_n_isWord ⟨Nat.le_of_ble_eq_true rfl, Nat.le_of_ble_eq_true rfl⟩) (preV hP hK hD hE (ci := 12) (q0 := 0) rfl rfl) rfl rfl hl.1 rfl (lv_room (Nat.le_of_ble_eq_true rfl)) dX12_kindHere_64 ⟨Nat.le_of_ble_eq_true rfl, Nat.le_of_ble_eq_true rfl⟩) hD hS hA (fun z22 τ21 H locs hq hP hD hS => ?_)
            obtain ⟨rfl, f23⟩ := hq
            refine W.widen (k := 0) (n := 0) (Nat.le_of_ble_eq_true rfl) (Nat.le_of_ble_eq_true rfl) ?_
            refine lv_if_eq (tgt := 72) hx hb dX12_kindHere_67 rfl (fun c24 => ?_) (fun c24 => ?_)
            · have tc24 := (show z22.toInt = 0 from ti_eq rfl rg_11 c24)
              refine lv_aload_n hx hb dX12_kindHere_72 rfl (lv_at hl 0 rfl) ?_
              refine lv_ldc2 (v := (24948)) hx hb hown (ho (.constantLong RX12 169 (24948)) (List.mem_of_getElem? (i := 6) rfl)) dX12_kindHere_73 ?_
              refine zy_i (va_runV (As := [.long 24948]) (rest := []) ⟨hx, hb, hml, hown, hts⟩ (n_isWord l dC dI h ad cl H.size σ 24948 hI) (cwV 1 hts gd_n_kindHere_261_n_isWord rfl rfl rfl dd_n_isWord ⟨Nat.le_of_ble_eq_true rfl, Nat.le_of_ble_eq_true rfl⟩) (preV hP hK hD hE (ci := 12) (q0 := 0) rfl rfl) rfl rfl hl.1 rfl (lv_room (Nat.le_of_ble_eq_true rfl)) dX12_kindHere_76 ⟨Nat.le_of_ble_eq_true rfl, Nat.le_of_ble_eq_true rfl⟩) hD hS hA (fun z26 τ25 H locs hq hP hD hS => ?_)
              obtain ⟨rfl, f27⟩ := hq
              refine W.widen (k := 0) (n := 0) (Nat.le_of_ble_eq_true rfl) (Nat.le_of_ble_eq_true rfl) ?_
              refine lv_if_eq (tgt := 85) hx hb dX12_kindHere_79 rfl (fun c28 => ?_) (fun c28 => ?_)
              · have tc28 := (show z26.toInt = 0 from ti_eq rfl rg_11 c28)
                refine lv_aload_n hx hb dX12_kindHere_85 rfl (lv_at hl 0 rfl) ?_
                refine lv_ldc2 (v := (1885954923)) hx hb hown (ho (.constantLong RX12 173 (1885954923)) (List.mem_of_getElem? (i := 7) rfl)) dX12_kindHere_86 ?_
                refine zy_i (va_runV (As := [.long 1885954923]) (rest := []) ⟨hx, hb, hml, hown, hts⟩ (n_isWord l dC dI h ad cl H.size σ 1885954923 hI) (cwV 1 hts gd_n_kindHere_261_n_isWord rfl rfl rfl dd_n_isWord ⟨Nat.le_of_ble_eq_true rfl, Nat.le_of_ble_eq_true rfl⟩) (preV hP hK hD hE (ci := 12) (q0 := 0) rfl rfl) rfl rfl hl.1 rfl (lv_room (Nat.le_of_ble_eq_true rfl)) dX12_kindHere_89 ⟨Nat.le_of_ble_eq_true rfl, Nat.le_of_ble_eq_true rfl⟩) hD hS hA (fun z30 τ29 H locs hq hP hD hS => ?_)
                obtain ⟨rfl, f31⟩ := hq
                refine W.widen (k := 0) (n := 0) (Nat.le_of_ble_eq_true rfl) (Nat.le_of_ble_eq_true rfl) ?_
                refine lv_if_eq (tgt := 100) hx hb dX12_kindHere_92 rfl (fun c32 => ?_) (fun c32 => ?_)
                · have tc32 := (show z30.toInt = 0 from ti_eq rfl rg_11 c32)
                  refine lv_iconst (v := (-1)) hx hb dX12_kindHere_100 rg_53 ?_
                  rw [hQ]
                  exact W.iret (v := (-1)) hx hb hr (fun t ht hW => ⟨⟨(-1), σ, rfl, ⟨rfl, (by have k9 : ((-1) : Int32).toInt = (-1) := (by decide); omega), (by have k9 : ((-1) : Int32).toInt = (-1) := (by decide); omega)⟩, wEn_of hP (hK.sub [] rfl) hD ht hW⟩, hS.F ht⟩) hS.2.2 dX12_kindHere_101
                · have tc32 := (show z30.toInt ≠ 0 from ti_ne rfl rg_11 c32)
                  refine lv_bipush (v := 7) hx hb dX12_kindHere_95 rg_54 ?_
                  refine lv_goto (tgt := 101) hx hb dX12_kindHere_97 rfl ?_
                  rw [hQ]
                  exact W.iret (v := 7) hx hb hr (fun t ht hW => ⟨⟨7, σ, rfl, ⟨rfl, (by have k9 : (7 : Int32).toInt = 7 := (by decide); omega), (by have k9 : (7 : Int32).toInt = 7 := (by decide); omega)⟩, wEn_of hP (hK.sub [] rfl) hD ht hW⟩, hS.F ht⟩) hS.2.2 dX12_kindHere_101
              · have tc28 := (show z26.toInt ≠ 0 from ti_ne rfl rg_11 c28)
                refine lv_bipush (v := 6) hx hb dX12_kindHere_82 rg_55 ?_
                rw [hQ]
                exact W.iret (v := 6) hx hb hr (fun t ht hW => ⟨⟨6, σ, rfl, ⟨rfl, (by have k9 : (6 : Int32).toInt = 6 := (by decide); omega), (by have k9 : (6 : Int32).toInt = 6 := (by decide); omega)⟩, wEn_of hP (hK.sub [] rfl) hD ht hW⟩, hS.F ht⟩) hS.2.2 dX12_kindHere_84
            · have tc24 := (show z22.toInt ≠ 0 from ti_ne rfl rg_11 c24)
              refine lv_iconst (v := 5) hx hb dX12_kindHere_70 rg_14 ?_
              rw [hQ]
              exact W.iret (v := 5) hx hb hr (fun t ht hW => ⟨⟨5, σ, rfl, ⟨rfl, (by have k9 : (5 : Int32).toInt = 5 := (by decide); omega), (by have k9 : (5 : Int32).toInt = 5 := (by decide); omega)⟩, wEn_of hP (hK.sub [] rfl) hD ht hW⟩, hS.F ht⟩) hS.2.2 dX12_kindHere_71
          · have tc20 := (show z18.toInt ≠ 0 from ti_ne rfl rg_11 c20)
            refine lv_iconst (v := 4) hx hb dX12_kindHere_58 rg_31 ?_
            rw [hQ]
            exact W.iret (v := 4) hx hb hr (fun t ht hW => ⟨⟨4, σ, rfl, ⟨rfl, (by have k9 : (4 : Int32).toInt = 4 := (by decide); omega), (by have k9 : (4 : Int32).toInt = 4 := (by decide); omega)⟩, wEn_of hP (hK.sub [] rfl) hD ht hW⟩, hS.F ht⟩) hS.2.2 dX12_kindHere_59
        · have tc16 := (show z14.toInt ≠ 0 from ti_ne rfl rg_11 c16)
          refine lv_iconst (v := 3) hx hb dX12_kindHere_46 rg_16 ?_
          rw [hQ]
          exact W.iret (v := 3) hx hb hr (fun t ht hW => ⟨⟨3, σ, rfl, ⟨rfl, (by have k9 : (3 : Int32).toInt = 3 := (by decide); omega), (by have k9 : (3 : Int32).toInt = 3 := (by decide); omega)⟩, wEn_of hP (hK.sub [] rfl) hD ht hW⟩, hS.F ht⟩) hS.2.2 dX12_kindHere_47
      · have tc12 := (show z10.toInt ≠ 0 from ti_ne rfl rg_11 c12)
        refine lv_iconst (v := 2) hx hb dX12_kindHere_34 rg_19 ?_
        rw [hQ]
        exact W.iret (v := 2) hx hb hr (fun t ht hW => ⟨⟨2, σ, rfl, ⟨rfl, (by have k9 : (2 : Int32).toInt = 2 := (by decide); omega), (by have k9 : (2 : Int32).toInt = 2 := (by decide); omega)⟩, wEn_of hP (hK.sub [] rfl) hD ht hW⟩, hS.F ht⟩) hS.2.2 dX12_kindHere_35
    · have tc8 := (show z6.toInt ≠ 0 from ti_ne rfl rg_11 c8)
      refine lv_iconst (v := 1) hx hb dX12_kindHere_22 rg_6 ?_
      rw [hQ]
      exact W.iret (v := 1) hx hb hr (fun t ht hW => ⟨⟨1, σ, rfl, ⟨rfl, (by have k9 : (1 : Int32).toInt = 1 := (by decide); omega), (by have k9 : (1 : Int32).toInt = 1 := (by decide); omega)⟩, wEn_of hP (hK.sub [] rfl) hD ht hW⟩, hS.F ht⟩) hS.2.2 dX12_kindHere_23
  · have tc4 := (show z2.toInt ≠ 0 from ti_ne rfl rg_11 c4)
    refine lv_iconst (v := 0) hx hb dX12_kindHere_10 rg_0 ?_
    rw [hQ]
    exact W.iret (v := 0) hx hb hr (fun t ht hW => ⟨⟨0, σ, rfl, ⟨rfl, (by have k9 : (0 : Int32).toInt = 0 := (by decide); omega), (by have k9 : (0 : Int32).toInt = 0 := (by decide); omega)⟩, wEn_of hP (hK.sub [] rfl) hD ht hW⟩, hS.F ht⟩) hS.2.2 dX12_kindHere_11
def ow_n_rowNamed : List Cond := [.fieldLink RX12 20 "NearEnoughModel" "rowMany" "[I", .fieldLink RX12 243 "NearEnoughModel" "rb" "I", .fieldLink RX12 199 "NearEnoughModel" "token" "I", .fieldLink RX12 63 "NearEnoughModel" "rName" "[J", .fieldLink RX12 206 "NearEnoughModel" "name" "J"]
def vs_n_rowNamed : List Cond := .code yX12_rowNamed cX12_rowNamed 2 (some .int) :: (ow_n_rowNamed ++ (wsX120))
theorem vg_n_rowNamed : vs_n_rowNamed.all goodWord = true := by decide +kernel
theorem dd_n_rowNamed : yX12_rowNamed.cls = RX12 ∧ yX12_rowNamed.cls ≠ "java/lang/invoke/MethodHandle" ∧ yX12_rowNamed.cls ≠ "java/lang/invoke/VarHandle" ∧ (parseMethodDescriptor yX12_rowNamed.desc).map (fun d => d.parameters.length) = some 0 := by decide +kernel
def rm_n_rowNamed : Room := { frames := 0, cells := 0, slots := 0, locals := 0 }
set_option maxHeartbeats 4000000 in
set_option maxRecDepth 100000 in
theorem n_rowNamed (l : Launch) (dC : Nat → ClassId) (dI : Nat → Nat → Nat) (h : Nat) (ad : Nat → Nat) (cl : Nat → ClassId) (sz : Nat) (σ : MS)  (hI : Inv σ) : Met l yX12_rowNamed vs_n_rowNamed rm_n_rowNamed (va_Pc [.ref h] (wSt dC dI (mW h ad cl σ) (mT cl) sz)) (va_Qi (fun (r : Int32) (τ : MS) => σ = τ ∧ -1 ≤ r.toInt ∧ r.toInt ≤ 1 ∧ (0 ≤ r.toInt → r.toInt < (σ.2.1 11 (σ.1 30).toNatClampNeg).toInt)) (fun (τ : MS) => wEn dC dI (va_A (mW h ad cl σ) sz) (mW h ad cl τ) []) (va_A (mW h ad cl σ) sz)) 0 0 (va_A (mW h ad cl σ) sz) := by
  refine Met.ofW (cc := cX12_rowNamed) (maxL := 2) (ret := (some .int)) (by decide) rfl ?_
  intro p e s m args below meth c s₁ B hml hv
  obtain ⟨rfl, hsz, hP, hK, hD0, hE⟩ := hv
  have hx := B.exec
  have hb := B.bytes
  have hr := B.returns
  have hts := atoms_spec (ws := vs_n_rowNamed) B.pre
  have hown : s.vm.findClass RX12 = some m.cls := findClass_of_methodNamed B.named
  have hlocks := B.notSynchronized
  subst hsz
  have hD := hD0.self (sz := s.heap.size)
  generalize hAe : va_A (mW h ad cl σ) s.heap.size = A at hD ⊢
  have hA : ∀ q : Nat, s.heap.size ≤ q → A q := fun q h => by rw [← hAe]; exact Or.inr h
  have hl := lv_entry ([.ref h]) (n := 2) (Nat.le_of_ble_eq_true rfl)
  rw [lg_entry_eq]
  generalize (lg_sl ([.ref h]) ++ List.replicate (2 - (lg_sl ([.ref h])).length) Slot.unset).toArray = ls at hl ⊢
  have hl : lv_has ls 2 [(0, .ref h)] := hl
  have ho := fun w (h : w ∈ ow_n_rowNamed) => hts w (List.mem_cons_of_mem _ (List.mem_append_left _ h))
  have hin12 : ∀ w ∈ u_ws RX12 TX12 59, w ∈ vs_n_rowNamed := fun w h => (List.mem_cons_of_mem _ (List.mem_append_right _ h))
  refine zQ (fun Q hQ => ?_)
  have pt_2 : ∀ (n2 : Nat) (τ : MS) (kv : Int32) (H : Heap) (locs : List Loc) (ls : Array Slot), (2 - kv.toInt).toNat < n2 → (Inv τ) → (τ = σ) → (0 ≤ kv.toInt) → va_P (dC, dI) vwCl (mW h ad cl τ) H → va_D A (mW h ad cl τ) → va_S A s.heap H locs → lv_has ls 2 [(0, .ref h), (1, .int kv)] → W p l e (headSpec vs_n_rowNamed rm_n_rowNamed).room s m #[Value.ref h] below meth c H locs 0 0 Q (F0 m 2 ls []) := by
    intro n2
    induction n2 with
    | zero => intro τ kv H locs ls hn2 hIτ hxτ hk0 hP hD hS hl; exact absurd hn2 (Nat.not_lt_zero _)
    | succ n2 ih2 =>
      intro τ kv H locs ls hn2 hIτ hxτ hk0 hP hD hS hl
      have bτ_30 : 0 ≤ (τ.1 30).toInt ∧ (τ.1 30).toInt ≤ 1 := hIτ.1 30
      refine lv_iload_n hx hb dX12_rowNamed_2 rfl (lv_at hl 1 rfl) ?_
      refine lv_aload_n hx hb dX12_rowNamed_3 rfl (lv_at hl 0 rfl) ?_
      refine va_get (D := (dC, dI)) (ci := 12) (v := .ref (ad 11)) (C := RX12) (T := TX12) (N := 59) hx hb hts hin12 hown hK hP 0 rfl rfl 11 (Nat.le_of_ble_eq_true rfl) (ho (.fieldLink RX12 20 "NearEnoughModel" "rowMany" "[I") (List.mem_of_getElem? (i := 0) rfl)) (fun _ h9 => h9) rfl dX12_rowNamed_4 ?_
      refine lv_aload_n hx hb dX12_rowNamed_7 rfl (lv_at hl 0 rfl) ?_
      refine va_get (D := (dC, dI)) (ci := 12) (v := .int (τ.1 30)) (C := RX12) (T := TX12) (N := 59) hx hb hts hin12 hown hK hP 0 rfl rfl 30 (Nat.le_of_ble_eq_true rfl) (ho (.fieldLink RX12 243 "NearEnoughModel" "rb" "I") (List.mem_of_getElem? (i := 1) rfl)) (fun _ h9 => h9) rfl dX12_rowNamed_8 ?_
      have bτ_30 : 0 ≤ (τ.1 30).toInt ∧ (τ.1 30).toInt ≤ 1 := hIτ.1 30
      have o1 : 0 ≤ (τ.1 30).toInt := by omega
      have o2 : (τ.1 30).toInt < ((2 : Nat) : Int) := by omega
      refine va_iald hx hb hK hP 3 2 rfl rfl (ti_inx o1 o2) dX12_rowNamed_11 ?_
      refine lv_topi (fun z1 ez1 => ?_)
      have gz1 : z1.toInt = ((τ.2.1 11) (Int32.toNatClampNeg (τ.1 30))).toInt := congrArg Int32.toInt (ez1.trans (congrFun rfl (Int32.toNatClampNeg (τ.1 30))))
      have bz1 : 0 ≤ z1.toInt ∧ z1.toInt ≤ 2 := by rw [ez1]; exact (hIτ.2 11) _ (cl_lt (n := 2) o1 o2)
      refine lv_icmp_ge (tgt := 52) hx hb dX12_rowNamed_12 rfl (fun c2 => ?_) (fun c2 => ?_)
      · have tc2 := (show z1.toInt ≤ kv.toInt from ti_le rfl rfl c2)
        refine lv_iconst (v := (-1)) hx hb dX12_rowNamed_52 rg_53 ?_
        rw [hQ]
        exact W.iret (v := (-1)) hx hb hr (fun t ht hW => ⟨⟨(-1), τ, rfl, ⟨hxτ.symm, (by have k9 : ((-1) : Int32).toInt = (-1) := (by decide); omega), (by have k9 : ((-1) : Int32).toInt = (-1) := (by decide); omega), (fun h9 => by have k9 : ((-1) : Int32).toInt = (-1) := (by decide); omega)⟩, wEn_of hP (hK.sub [] rfl) hD ht hW⟩, hS.F ht⟩) hS.2.2 dX12_rowNamed_53
      · have tc2 := (show kv.toInt < z1.toInt from ti_nle rfl rfl c2)
        refine lv_aload_n hx hb dX12_rowNamed_15 rfl (lv_at hl 0 rfl) ?_
        refine va_get (D := (dC, dI)) (ci := 12) (v := .int (τ.1 8)) (C := RX12) (T := TX12) (N := 59) hx hb hts hin12 hown hK hP 0 rfl rfl 8 (Nat.le_of_ble_eq_true rfl) (ho (.fieldLink RX12 199 "NearEnoughModel" "token" "I") (List.mem_of_getElem? (i := 2) rfl)) (fun _ h9 => h9) rfl dX12_rowNamed_16 ?_
        have bτ_8 : 0 ≤ (τ.1 8).toInt ∧ (τ.1 8).toInt ≤ 5 := hIτ.1 8
        refine lv_iconst (v := 2) hx hb dX12_rowNamed_19 rg_19 ?_
        refine lv_icmp_ne (tgt := 46) hx hb dX12_rowNamed_20 rfl (fun c3 => ?_) (fun c3 => ?_)
        · have tc3 := (show (τ.1 8).toInt ≠ 2 from ti_ne rfl rg_20 c3)
          obtain ⟨z4, ez4⟩ : ∃ y : Int32, y = kv + 1 := ⟨_, rfl⟩
          have o3 : -2147483648 ≤ kv.toInt + 1 := by omega
          have o4 : kv.toInt + 1 ≤ 2147483647 := by omega
          have tz4 := ti_add ez4 rfl rg_18 o3 o4
          refine lv_iinc (v := z4) (lv' := [(1, .int z4), (0, .ref h)]) hx hb dX12_rowNamed_46 hl (k := 1) rfl (iincp ez4 rg_6) (Nat.le_of_ble_eq_true rfl) rfl (fun ls hl => ?_)
          refine lv_goto (tgt := 2) hx hb dX12_rowNamed_49 rfl ?_
          have o5 : (2 - z4.toInt).toNat < n2 := by omega
          have o6 : 0 ≤ z4.toInt := by omega
          exact ih2 τ z4 _ _ _ (show (2 - z4.toInt).toNat < n2 from o5) hIτ hxτ (show 0 ≤ z4.toInt from o6) hP hD hS (lv_sub hl [1, 0] rfl)
        · have tc3 := (show (τ.1 8).toInt = 2 from ti_eq rfl rg_20 c3)
          refine lv_aload_n hx hb dX12_rowNamed_23 rfl (lv_at hl 0 rfl) ?_
          refine va_get (D := (dC, dI)) (ci := 12) (v := .ref (ad 25)) (C := RX12) (T := TX12) (N := 59) hx hb hts hin12 hown hK hP 0 rfl rfl 25 (Nat.le_of_ble_eq_true rfl) (ho (.fieldLink RX12 63 "NearEnoughModel" "rName" "[J") (List.mem_of_getElem? (i := 3) rfl)) (fun _ h9 => h9) rfl dX12_rowNamed_24 ?_
          refine lv_iconst (v := 2) hx hb dX12_rowNamed_27 rg_19 ?_
          refine lv_aload_n hx hb dX12_rowNamed_28 rfl (lv_at hl 0 rfl) ?_
          refine va_get (D := (dC, dI)) (ci := 12) (v := .int (τ.1 30)) (C := RX12) (T := TX12) (N := 59) hx hb hts hin12 hown hK hP 0 rfl rfl 30 (Nat.le_of_ble_eq_true rfl) (ho (.fieldLink RX12 243 "NearEnoughModel" "rb" "I") (List.mem_of_getElem? (i := 1) rfl)) (fun _ h9 => h9) rfl dX12_rowNamed_29 ?_
          have bτ_30 : 0 ≤ (τ.1 30).toInt ∧ (τ.1 30).toInt ≤ 1 := hIτ.1 30
          refine lv_imul hx hb dX12_rowNamed_32 ?_
          refine lv_topi (fun z5 ez5 => ?_)
          have o7 : -2147483648 ≤ 2 * (τ.1 30).toInt := by omega
          have o8 : 2 * (τ.1 30).toInt ≤ 2147483647 := by omega
          have tz5 : z5.toInt = 2 * (τ.1 30).toInt := ti_mul ez5 rg_20 rfl o7 o8
          refine lv_iload_n hx hb dX12_rowNamed_33 rfl (lv_at hl 1 rfl) ?_
          refine lv_iadd hx hb dX12_rowNamed_34 ?_
          refine lv_topi (fun z6 ez6 => ?_)
          have o9 : -2147483648 ≤ z5.toInt + kv.toInt := by omega
          have o10 : z5.toInt + kv.toInt ≤ 2147483647 := by omega
          have tz6 : z6.toInt = z5.toInt + kv.toInt := ti_add ez6 rfl rfl o9 o10
          have o11 : 0 ≤ z6.toInt := by omega
          have o12 : z6.toInt < ((4 : Nat) : Int) := by omega
          refine va_lald hx hb hK hP 17 16 rfl rfl (ti_inx o11 o12) dX12_rowNamed_35 ?_
          refine lv_topl (fun y7 ey7 => ?_)
          refine lv_aload_n hx hb dX12_rowNamed_36 rfl (lv_at hl 0 rfl) ?_
          refine va_get (D := (dC, dI)) (ci := 12) (v := .long (τ.2.2.2 10)) (C := RX12) (T := TX12) (N := 59) hx hb hts hin12 hown hK hP 0 rfl rfl 10 (Nat.le_of_ble_eq_true rfl) (ho (.fieldLink RX12 206 "NearEnoughModel" "name" "J") (List.mem_of_getElem? (i := 4) rfl)) (fun _ h9 => h9) rfl dX12_rowNamed_37 ?_
          refine W.lcmp hx hb dX12_rowNamed_40 ?_
          refine lv_topi (fun z8 ez8 => ?_)
          refine lv_if_ne (tgt := 46) hx hb dX12_rowNamed_41 rfl (fun c9 => ?_) (fun c9 => ?_)
          · have tc9 := (show z8.toInt ≠ 0 from ti_ne rfl rg_11 c9)
            have lc9 : ¬ y7 = (τ.2.2.2 10) := fun h => c9 (by rw [ez8]; exact (lg_cmp_eq y7 (τ.2.2.2 10)).mpr h)
            obtain ⟨z10, ez10⟩ : ∃ y : Int32, y = kv + 1 := ⟨_, rfl⟩
            have o13 : -2147483648 ≤ kv.toInt + 1 := by omega
            have o14 : kv.toInt + 1 ≤ 2147483647 := by omega
            have tz10 := ti_add ez10 rfl rg_18 o13 o14
            refine lv_iinc (v := z10) (lv' := [(1, .int z10), (0, .ref h)]) hx hb dX12_rowNamed_46 hl (k := 1) rfl (iincp ez10 rg_6) (Nat.le_of_ble_eq_true rfl) rfl (fun ls hl => ?_)
            refine lv_goto (tgt := 2) hx hb dX12_rowNamed_49 rfl ?_
            have o15 : (2 - z10.toInt).toNat < n2 := by omega
            have o16 : 0 ≤ z10.toInt := by omega
            exact ih2 τ z10 _ _ _ (show (2 - z10.toInt).toNat < n2 from o15) hIτ hxτ (show 0 ≤ z10.toInt from o16) hP hD hS (lv_sub hl [1, 0] rfl)
          · have tc9 := (show z8.toInt = 0 from ti_eq rfl rg_11 c9)
            have lc9 : y7 = (τ.2.2.2 10) := (lg_cmp_eq y7 (τ.2.2.2 10)).mp (by rw [← ez8]; exact c9)
            refine lv_iload_n hx hb dX12_rowNamed_44 rfl (lv_at hl 1 rfl) ?_
            rw [hQ]
            exact W.iret (v := kv) hx hb hr (fun t ht hW => ⟨⟨kv, τ, rfl, ⟨hxτ.symm, (by omega), (by omega), (fun h9 => by subst hxτ; omega)⟩, wEn_of hP (hK.sub [] rfl) hD ht hW⟩, hS.F ht⟩) hS.2.2 dX12_rowNamed_45
  refine zH (A := A) (ws := mW h ad cl σ) (fun H hP hS => ?_) hP
  have bσ_30 : 0 ≤ (σ.1 30).toInt ∧ (σ.1 30).toInt ≤ 1 := hI.1 30
  refine lv_iconst (v := 0) hx hb dX12_rowNamed_0 rg_0 ?_
  refine lv_istore_n (lv' := [(1, .int 0), (0, .ref h)]) hx hb dX12_rowNamed_1 rfl hl (Nat.le_of_ble_eq_true rfl) rfl (fun ls hl => ?_)
  exact pt_2 _ σ 0 _ _ _ (Nat.lt_succ_self _) hI rfl rg_56 hP hD hS (lv_sub hl [1, 0] rfl)
def ow_n_stepNamed : List Cond := [.fieldLink RX12 24 "NearEnoughModel" "stepMany" "[I", .fieldLink RX12 243 "NearEnoughModel" "rb" "I", .fieldLink RX12 199 "NearEnoughModel" "token" "I", .fieldLink RX12 67 "NearEnoughModel" "sName" "[J", .fieldLink RX12 206 "NearEnoughModel" "name" "J"]
def vs_n_stepNamed : List Cond := .code yX12_stepNamed cX12_stepNamed 2 (some .int) :: (ow_n_stepNamed ++ (wsX120))
theorem vg_n_stepNamed : vs_n_stepNamed.all goodWord = true := by decide +kernel
theorem dd_n_stepNamed : yX12_stepNamed.cls = RX12 ∧ yX12_stepNamed.cls ≠ "java/lang/invoke/MethodHandle" ∧ yX12_stepNamed.cls ≠ "java/lang/invoke/VarHandle" ∧ (parseMethodDescriptor yX12_stepNamed.desc).map (fun d => d.parameters.length) = some 0 := by decide +kernel
def rm_n_stepNamed : Room := { frames := 0, cells := 0, slots := 0, locals := 0 }
set_option maxHeartbeats 4000000 in
set_option maxRecDepth 100000 in
theorem n_stepNamed (l : Launch) (dC : Nat → ClassId) (dI : Nat → Nat → Nat) (h : Nat) (ad : Nat → Nat) (cl : Nat → ClassId) (sz : Nat) (σ : MS)  (hI : Inv σ) : Met l yX12_stepNamed vs_n_stepNamed rm_n_stepNamed (va_Pc [.ref h] (wSt dC dI (mW h ad cl σ) (mT cl) sz)) (va_Qi (fun (r : Int32) (τ : MS) => σ = τ ∧ -1 ≤ r.toInt ∧ r.toInt ≤ 11 ∧ (0 ≤ r.toInt → r.toInt < (σ.2.1 12 (σ.1 30).toNatClampNeg).toInt)) (fun (τ : MS) => wEn dC dI (va_A (mW h ad cl σ) sz) (mW h ad cl τ) []) (va_A (mW h ad cl σ) sz)) 0 0 (va_A (mW h ad cl σ) sz) := by
  refine Met.ofW (cc := cX12_stepNamed) (maxL := 2) (ret := (some .int)) (by decide) rfl ?_
  intro p e s m args below meth c s₁ B hml hv
  obtain ⟨rfl, hsz, hP, hK, hD0, hE⟩ := hv
  have hx := B.exec
  have hb := B.bytes
  have hr := B.returns
  have hts := atoms_spec (ws := vs_n_stepNamed) B.pre
  have hown : s.vm.findClass RX12 = some m.cls := findClass_of_methodNamed B.named
  have hlocks := B.notSynchronized
  subst hsz
  have hD := hD0.self (sz := s.heap.size)
  generalize hAe : va_A (mW h ad cl σ) s.heap.size = A at hD ⊢
  have hA : ∀ q : Nat, s.heap.size ≤ q → A q := fun q h => by rw [← hAe]; exact Or.inr h
  have hl := lv_entry ([.ref h]) (n := 2) (Nat.le_of_ble_eq_true rfl)
  rw [lg_entry_eq]
  generalize (lg_sl ([.ref h]) ++ List.replicate (2 - (lg_sl ([.ref h])).length) Slot.unset).toArray = ls at hl ⊢
  have hl : lv_has ls 2 [(0, .ref h)] := hl
  have ho := fun w (h : w ∈ ow_n_stepNamed) => hts w (List.mem_cons_of_mem _ (List.mem_append_left _ h))
  have hin12 : ∀ w ∈ u_ws RX12 TX12 59, w ∈ vs_n_stepNamed := fun w h => (List.mem_cons_of_mem _ (List.mem_append_right _ h))
  refine zQ (fun Q hQ => ?_)
  have pt_2 : ∀ (n2 : Nat) (τ : MS) (kv : Int32) (H : Heap) (locs : List Loc) (ls : Array Slot), (12 - kv.toInt).toNat < n2 → (Inv τ) → (τ = σ) → (0 ≤ kv.toInt) → va_P (dC, dI) vwCl (mW h ad cl τ) H → va_D A (mW h ad cl τ) → va_S A s.heap H locs → lv_has ls 2 [(0, .ref h), (1, .int kv)] → W p l e (headSpec vs_n_stepNamed rm_n_stepNamed).room s m #[Value.ref h] below meth c H locs 0 0 Q (F0 m 2 ls []) := by
    intro n2
    induction n2 with
    | zero => intro τ kv H locs ls hn2 hIτ hxτ hk0 hP hD hS hl; exact absurd hn2 (Nat.not_lt_zero _)
    | succ n2 ih2 =>
      intro τ kv H locs ls hn2 hIτ hxτ hk0 hP hD hS hl
      have bτ_30 : 0 ≤ (τ.1 30).toInt ∧ (τ.1 30).toInt ≤ 1 := hIτ.1 30
      refine lv_iload_n hx hb dX12_stepNamed_2 rfl (lv_at hl 1 rfl) ?_
      refine lv_aload_n hx hb dX12_stepNamed_3 rfl (lv_at hl 0 rfl) ?_
      refine va_get (D := (dC, dI)) (ci := 12) (v := .ref (ad 12)) (C := RX12) (T := TX12) (N := 59) hx hb hts hin12 hown hK hP 0 rfl rfl 12 (Nat.le_of_ble_eq_true rfl) (ho (.fieldLink RX12 24 "NearEnoughModel" "stepMany" "[I") (List.mem_of_getElem? (i := 0) rfl)) (fun _ h9 => h9) rfl dX12_stepNamed_4 ?_
      refine lv_aload_n hx hb dX12_stepNamed_7 rfl (lv_at hl 0 rfl) ?_
      refine va_get (D := (dC, dI)) (ci := 12) (v := .int (τ.1 30)) (C := RX12) (T := TX12) (N := 59) hx hb hts hin12 hown hK hP 0 rfl rfl 30 (Nat.le_of_ble_eq_true rfl) (ho (.fieldLink RX12 243 "NearEnoughModel" "rb" "I") (List.mem_of_getElem? (i := 1) rfl)) (fun _ h9 => h9) rfl dX12_stepNamed_8 ?_
      have bτ_30 : 0 ≤ (τ.1 30).toInt ∧ (τ.1 30).toInt ≤ 1 := hIτ.1 30
      have o1 : 0 ≤ (τ.1 30).toInt := by omega
      have o2 : (τ.1 30).toInt < ((2 : Nat) : Int) := by omega
      refine va_iald hx hb hK hP 4 3 rfl rfl (ti_inx o1 o2) dX12_stepNamed_11 ?_
      refine lv_topi (fun z1 ez1 => ?_)
      have gz1 : z1.toInt = ((τ.2.1 12) (Int32.toNatClampNeg (τ.1 30))).toInt := congrArg Int32.toInt (ez1.trans (congrFun rfl (Int32.toNatClampNeg (τ.1 30))))
      have bz1 : 0 ≤ z1.toInt ∧ z1.toInt ≤ 12 := by rw [ez1]; exact (hIτ.2 12) _ (cl_lt (n := 2) o1 o2)
      refine lv_icmp_ge (tgt := 53) hx hb dX12_stepNamed_12 rfl (fun c2 => ?_) (fun c2 => ?_)
      · have tc2 := (show z1.toInt ≤ kv.toInt from ti_le rfl rfl c2)
        refine lv_iconst (v := (-1)) hx hb dX12_stepNamed_53 rg_53 ?_
        rw [hQ]
        exact W.iret (v := (-1)) hx hb hr (fun t ht hW => ⟨⟨(-1), τ, rfl, ⟨hxτ.symm, (by have k9 : ((-1) : Int32).toInt = (-1) := (by decide); omega), (by have k9 : ((-1) : Int32).toInt = (-1) := (by decide); omega), (fun h9 => by have k9 : ((-1) : Int32).toInt = (-1) := (by decide); omega)⟩, wEn_of hP (hK.sub [] rfl) hD ht hW⟩, hS.F ht⟩) hS.2.2 dX12_stepNamed_54
      · have tc2 := (show kv.toInt < z1.toInt from ti_nle rfl rfl c2)
        refine lv_aload_n hx hb dX12_stepNamed_15 rfl (lv_at hl 0 rfl) ?_
        refine va_get (D := (dC, dI)) (ci := 12) (v := .int (τ.1 8)) (C := RX12) (T := TX12) (N := 59) hx hb hts hin12 hown hK hP 0 rfl rfl 8 (Nat.le_of_ble_eq_true rfl) (ho (.fieldLink RX12 199 "NearEnoughModel" "token" "I") (List.mem_of_getElem? (i := 2) rfl)) (fun _ h9 => h9) rfl dX12_stepNamed_16 ?_
        have bτ_8 : 0 ≤ (τ.1 8).toInt ∧ (τ.1 8).toInt ≤ 5 := hIτ.1 8
        refine lv_iconst (v := 2) hx hb dX12_stepNamed_19 rg_19 ?_
        refine lv_icmp_ne (tgt := 47) hx hb dX12_stepNamed_20 rfl (fun c3 => ?_) (fun c3 => ?_)
        · have tc3 := (show (τ.1 8).toInt ≠ 2 from ti_ne rfl rg_20 c3)
          obtain ⟨z4, ez4⟩ : ∃ y : Int32, y = kv + 1 := ⟨_, rfl⟩
          have o3 : -2147483648 ≤ kv.toInt + 1 := by omega
          have o4 : kv.toInt + 1 ≤ 2147483647 := by omega
          have tz4 := ti_add ez4 rfl rg_18 o3 o4
          refine lv_iinc (v := z4) (lv' := [(1, .int z4), (0, .ref h)]) hx hb dX12_stepNamed_47 hl (k := 1) rfl (iincp ez4 rg_6) (Nat.le_of_ble_eq_true rfl) rfl (fun ls hl => ?_)
          refine lv_goto (tgt := 2) hx hb dX12_stepNamed_50 rfl ?_
          have o5 : (12 - z4.toInt).toNat < n2 := by omega
          have o6 : 0 ≤ z4.toInt := by omega
          exact ih2 τ z4 _ _ _ (show (12 - z4.toInt).toNat < n2 from o5) hIτ hxτ (show 0 ≤ z4.toInt from o6) hP hD hS (lv_sub hl [1, 0] rfl)
        · have tc3 := (show (τ.1 8).toInt = 2 from ti_eq rfl rg_20 c3)
          refine lv_aload_n hx hb dX12_stepNamed_23 rfl (lv_at hl 0 rfl) ?_
          refine va_get (D := (dC, dI)) (ci := 12) (v := .ref (ad 26)) (C := RX12) (T := TX12) (N := 59) hx hb hts hin12 hown hK hP 0 rfl rfl 26 (Nat.le_of_ble_eq_true rfl) (ho (.fieldLink RX12 67 "NearEnoughModel" "sName" "[J") (List.mem_of_getElem? (i := 3) rfl)) (fun _ h9 => h9) rfl dX12_stepNamed_24 ?_
          refine lv_bipush (v := 12) hx hb dX12_stepNamed_27 rg_57 ?_
          refine lv_aload_n hx hb dX12_stepNamed_29 rfl (lv_at hl 0 rfl) ?_
          refine va_get (D := (dC, dI)) (ci := 12) (v := .int (τ.1 30)) (C := RX12) (T := TX12) (N := 59) hx hb hts hin12 hown hK hP 0 rfl rfl 30 (Nat.le_of_ble_eq_true rfl) (ho (.fieldLink RX12 243 "NearEnoughModel" "rb" "I") (List.mem_of_getElem? (i := 1) rfl)) (fun _ h9 => h9) rfl dX12_stepNamed_30 ?_
          have bτ_30 : 0 ≤ (τ.1 30).toInt ∧ (τ.1 30).toInt ≤ 1 := hIτ.1 30
          refine lv_imul hx hb dX12_stepNamed_33 ?_
          refine lv_topi (fun z5 ez5 => ?_)
          have o7 : -2147483648 ≤ 12 * (τ.1 30).toInt := by omega
          have o8 : 12 * (τ.1 30).toInt ≤ 2147483647 := by omega
          have tz5 : z5.toInt = 12 * (τ.1 30).toInt := ti_mul ez5 rg_58 rfl o7 o8
          refine lv_iload_n hx hb dX12_stepNamed_34 rfl (lv_at hl 1 rfl) ?_
          refine lv_iadd hx hb dX12_stepNamed_35 ?_
          refine lv_topi (fun z6 ez6 => ?_)
          have o9 : -2147483648 ≤ z5.toInt + kv.toInt := by omega
          have o10 : z5.toInt + kv.toInt ≤ 2147483647 := by omega
          have tz6 : z6.toInt = z5.toInt + kv.toInt := ti_add ez6 rfl rfl o9 o10
          have o11 : 0 ≤ z6.toInt := by omega
          have o12 : z6.toInt < ((24 : Nat) : Int) := by omega
          refine va_lald hx hb hK hP 18 17 rfl rfl (ti_inx o11 o12) dX12_stepNamed_36 ?_
          refine lv_topl (fun y7 ey7 => ?_)
          refine lv_aload_n hx hb dX12_stepNamed_37 rfl (lv_at hl 0 rfl) ?_
          refine va_get (D := (dC, dI)) (ci := 12) (v := .long (τ.2.2.2 10)) (C := RX12) (T := TX12) (N := 59) hx hb hts hin12 hown hK hP 0 rfl rfl 10 (Nat.le_of_ble_eq_true rfl) (ho (.fieldLink RX12 206 "NearEnoughModel" "name" "J") (List.mem_of_getElem? (i := 4) rfl)) (fun _ h9 => h9) rfl dX12_stepNamed_38 ?_
          refine W.lcmp hx hb dX12_stepNamed_41 ?_
          refine lv_topi (fun z8 ez8 => ?_)
          refine lv_if_ne (tgt := 47) hx hb dX12_stepNamed_42 rfl (fun c9 => ?_) (fun c9 => ?_)
          · have tc9 := (show z8.toInt ≠ 0 from ti_ne rfl rg_11 c9)
            have lc9 : ¬ y7 = (τ.2.2.2 10) := fun h => c9 (by rw [ez8]; exact (lg_cmp_eq y7 (τ.2.2.2 10)).mpr h)
            obtain ⟨z10, ez10⟩ : ∃ y : Int32, y = kv + 1 := ⟨_, rfl⟩
            have o13 : -2147483648 ≤ kv.toInt + 1 := by omega
            have o14 : kv.toInt + 1 ≤ 2147483647 := by omega
            have tz10 := ti_add ez10 rfl rg_18 o13 o14
            refine lv_iinc (v := z10) (lv' := [(1, .int z10), (0, .ref h)]) hx hb dX12_stepNamed_47 hl (k := 1) rfl (iincp ez10 rg_6) (Nat.le_of_ble_eq_true rfl) rfl (fun ls hl => ?_)
            refine lv_goto (tgt := 2) hx hb dX12_stepNamed_50 rfl ?_
            have o15 : (12 - z10.toInt).toNat < n2 := by omega
            have o16 : 0 ≤ z10.toInt := by omega
            exact ih2 τ z10 _ _ _ (show (12 - z10.toInt).toNat < n2 from o15) hIτ hxτ (show 0 ≤ z10.toInt from o16) hP hD hS (lv_sub hl [1, 0] rfl)
          · have tc9 := (show z8.toInt = 0 from ti_eq rfl rg_11 c9)
            have lc9 : y7 = (τ.2.2.2 10) := (lg_cmp_eq y7 (τ.2.2.2 10)).mp (by rw [← ez8]; exact c9)
            refine lv_iload_n hx hb dX12_stepNamed_45 rfl (lv_at hl 1 rfl) ?_
            rw [hQ]
            exact W.iret (v := kv) hx hb hr (fun t ht hW => ⟨⟨kv, τ, rfl, ⟨hxτ.symm, (by omega), (by omega), (fun h9 => by subst hxτ; omega)⟩, wEn_of hP (hK.sub [] rfl) hD ht hW⟩, hS.F ht⟩) hS.2.2 dX12_stepNamed_46
  refine zH (A := A) (ws := mW h ad cl σ) (fun H hP hS => ?_) hP
  have bσ_30 : 0 ≤ (σ.1 30).toInt ∧ (σ.1 30).toInt ≤ 1 := hI.1 30
  refine lv_iconst (v := 0) hx hb dX12_stepNamed_0 rg_0 ?_
  refine lv_istore_n (lv' := [(1, .int 0), (0, .ref h)]) hx hb dX12_stepNamed_1 rfl hl (Nat.le_of_ble_eq_true rfl) rfl (fun ls hl => ?_)
  exact pt_2 _ σ 0 _ _ _ (Nat.lt_succ_self _) hI rfl rg_56 hP hD hS (lv_sub hl [1, 0] rfl)
def ow_n_fresh : List Cond := [.fieldLink RX12 192 "NearEnoughModel" "at" "I"]
def vs_n_fresh : List Cond := .code yX12_fresh cX12_fresh 1 none :: (ow_n_fresh ++ (([.methodLink RX12 282 yX12_rowNamed, .instanceMethod yX12_rowNamed, .selects RX12 yX12_rowNamed yX12_rowNamed, .initialized RX12] : List Cond) ++ (vs_n_rowNamed ++ (([.methodLink RX12 220 yX12_fails, .instanceMethod yX12_fails, .selects RX12 yX12_fails yX12_fails, .initialized RX12] : List Cond) ++ (vs_n_fails ++ (([.methodLink RX12 285 yX12_stepNamed, .instanceMethod yX12_stepNamed, .selects RX12 yX12_stepNamed yX12_stepNamed, .initialized RX12] : List Cond) ++ (vs_n_stepNamed ++ (wsX120))))))))
theorem vg_n_fresh : vs_n_fresh.all goodWord = true := by decide +kernel
theorem dd_n_fresh : yX12_fresh.cls = RX12 ∧ yX12_fresh.cls ≠ "java/lang/invoke/MethodHandle" ∧ yX12_fresh.cls ≠ "java/lang/invoke/VarHandle" ∧ (parseMethodDescriptor yX12_fresh.desc).map (fun d => d.parameters.length) = some 0 := by decide +kernel
def rm_n_fresh : Room := { frames := 1, cells := 0, slots := 0, locals := 22 }
theorem gd_n_fresh_282_n_rowNamed : GoodIn vs_n_fresh (wsV RX12 282 RX12 yX12_rowNamed vs_n_rowNamed) := goodIn_app (goodIn_sub (fun w h => (List.mem_cons_of_mem _ (List.mem_append_right _ (List.mem_append_left _ h)))) (by decide +kernel)) (goodIn_sub (fun w h => (List.mem_cons_of_mem _ (List.mem_append_right _ (List.mem_append_right _ (List.mem_append_left _ h))))) vg_n_rowNamed)
theorem gd_n_fresh_220_n_fails : GoodIn vs_n_fresh (wsV RX12 220 RX12 yX12_fails vs_n_fails) := goodIn_app (goodIn_sub (fun w h => (List.mem_cons_of_mem _ (List.mem_append_right _ (List.mem_append_right _ (List.mem_append_right _ (List.mem_append_left _ h)))))) (by decide +kernel)) (goodIn_sub (fun w h => (List.mem_cons_of_mem _ (List.mem_append_right _ (List.mem_append_right _ (List.mem_append_right _ (List.mem_append_right _ (List.mem_append_left _ h))))))) vg_n_fails)
theorem gd_n_fresh_285_n_stepNamed : GoodIn vs_n_fresh (wsV RX12 285 RX12 yX12_stepNamed vs_n_stepNamed) := goodIn_app (goodIn_sub (fun w h => (List.mem_cons_of_mem _ (List.mem_append_right _ (List.mem_append_right _ (List.mem_append_right _ (List.mem_append_right _ (List.mem_append_right _ (List.mem_append_left _ h)))))))) (by decide +kernel)) (goodIn_sub (fun w h => (List.mem_cons_of_mem _ (List.mem_append_right _ (List.mem_append_right _ (List.mem_append_right _ (List.mem_append_right _ (List.mem_append_right _ (List.mem_append_right _ (List.mem_append_left _ h))))))))) vg_n_stepNamed)
set_option maxHeartbeats 4000000 in
set_option maxRecDepth 100000 in
theorem n_fresh (l : Launch) (dC : Nat → ClassId) (dI : Nat → Nat → Nat) (h : Nat) (ad : Nat → Nat) (cl : Nat → ClassId) (sz : Nat) (σ : MS)  (hI : Inv σ) : Met l yX12_fresh vs_n_fresh rm_n_fresh (va_Pc [.ref h] (wSt dC dI (mW h ad cl σ) (mT cl) sz)) (va_Qv (fun (τ : MS) => Inv τ ∧ eqx [4, 5] τ σ ∧ Mo τ σ) (fun (τ : MS) => wEn dC dI (va_A (mW h ad cl σ) sz) (mW h ad cl τ) []) (va_A (mW h ad cl σ) sz)) 0 0 (va_A (mW h ad cl σ) sz) := by
  refine Met.ofW (cc := cX12_fresh) (maxL := 1) (ret := none) (by decide) rfl ?_
  intro p e s m args below meth c s₁ B hml hv
  obtain ⟨rfl, hsz, hP, hK, hD0, hE⟩ := hv
  have hx := B.exec
  have hb := B.bytes
  have hr := B.returns
  have hts := atoms_spec (ws := vs_n_fresh) B.pre
  have hown : s.vm.findClass RX12 = some m.cls := findClass_of_methodNamed B.named
  have hlocks := B.notSynchronized
  subst hsz
  have hD := hD0.self (sz := s.heap.size)
  generalize hAe : va_A (mW h ad cl σ) s.heap.size = A at hD ⊢
  have hA : ∀ q : Nat, s.heap.size ≤ q → A q := fun q h => by rw [← hAe]; exact Or.inr h
  have hl := lv_entry ([.ref h]) (n := 1) (Nat.le_of_ble_eq_true rfl)
  rw [lg_entry_eq]
  generalize (lg_sl ([.ref h]) ++ List.replicate (1 - (lg_sl ([.ref h])).length) Slot.unset).toArray = ls at hl ⊢
  have hl : lv_has ls 1 [(0, .ref h)] := hl
  have ho := fun w (h : w ∈ ow_n_fresh) => hts w (List.mem_cons_of_mem _ (List.mem_append_left _ h))
  have hin12 : ∀ w ∈ u_ws RX12 TX12 59, w ∈ vs_n_fresh := fun w h => (List.mem_cons_of_mem _ (List.mem_append_right _ (List.mem_append_right _ (List.mem_append_right _ (List.mem_append_right _ (List.mem_append_right _ (List.mem_append_right _ (List.mem_append_right _ h))))))))
  refine zQ (fun Q hQ => ?_)
  refine zH (A := A) (ws := mW h ad cl σ) (fun H hP hS => ?_) hP
  refine lv_aload_n hx hb dX12_fresh_0 rfl (lv_at hl 0 rfl) ?_
  refine zy_i (va_runV (As := []) (rest := []) ⟨hx, hb, hml, hown, hts⟩ (n_rowNamed l dC dI h ad cl H.size σ  hI) (cwV 0 hts gd_n_fresh_282_n_rowNamed rfl rfl rfl dd_n_rowNamed ⟨Nat.le_of_ble_eq_true rfl, Nat.le_of_ble_eq_true rfl⟩) (preV hP hK hD hE (ci := 12) (q0 := 0) rfl rfl) rfl rfl hl.1 rfl (lv_room (Nat.le_of_ble_eq_true rfl)) dX12_fresh_1 ⟨Nat.le_of_ble_eq_true rfl, Nat.le_of_ble_eq_true rfl⟩) hD hS hA (fun z2 τ1 H locs hq hP hD hS => ?_)
  obtain ⟨rfl, f3, f4, f5⟩ := hq
  refine W.widen (k := 0) (n := 0) (Nat.le_of_ble_eq_true rfl) (Nat.le_of_ble_eq_true rfl) ?_
  refine lv_if_ge (tgt := 14) hx hb dX12_fresh_4 rfl (fun c6 => ?_) (fun c6 => ?_)
  · have tc6 := (show 0 ≤ z2.toInt from ti_le rg_11 rfl c6)
    refine lv_aload_n hx hb dX12_fresh_14 rfl (lv_at hl 0 rfl) ?_
    refine lv_iconst (v := 3) hx hb dX12_fresh_15 rg_16 ?_
    refine lv_aload_n hx hb dX12_fresh_16 rfl (lv_at hl 0 rfl) ?_
    refine va_get (D := (dC, dI)) (ci := 12) (v := .int (σ.1 6)) (C := RX12) (T := TX12) (N := 59) hx hb hts hin12 hown hK hP 0 rfl rfl 6 (Nat.le_of_ble_eq_true rfl) (ho (.fieldLink RX12 192 "NearEnoughModel" "at" "I") (List.mem_of_getElem? (i := 0) rfl)) (fun _ h9 => h9) rfl dX12_fresh_17 ?_
    have bσ_6 : 0 ≤ (σ.1 6).toInt ∧ (σ.1 6).toInt ≤ 1000 := hI.1 6
    have kk7 : (3 : Int32).toInt = 3 := rg_17
    have o1 : 0 ≤ (3 : Int32).toInt := by omega
    have o2 : (3 : Int32).toInt ≤ 7 := by omega
    refine zy_v (va_runV (As := [.int 3, .int (σ.1 6)]) (rest := []) ⟨hx, hb, hml, hown, hts⟩ (n_fails l dC dI h ad cl H.size σ 3 (σ.1 6) hI ⟨o1, o2⟩) (cwV 2 hts gd_n_fresh_220_n_fails rfl rfl rfl dd_n_fails ⟨Nat.le_of_ble_eq_true rfl, Nat.le_of_ble_eq_true rfl⟩) (preV hP hK hD hE (ci := 12) (q0 := 0) rfl rfl) rfl rfl hl.1 rfl (lv_room (Nat.le_of_ble_eq_true rfl)) dX12_fresh_20 ⟨Nat.le_of_ble_eq_true rfl, Nat.le_of_ble_eq_true rfl⟩) hD hS hA (fun τ8 H locs hq hP hD hS => ?_)
    obtain ⟨hI10, hx11, f12, mo13⟩ := hq
    have Xτ8 : eqx [4, 5] τ8 σ := eqx.tr hx11 eqx.rf rg_21
    have Mτ8 : Mo τ8 σ := Mo.tr mo13 (fun h9 => Mo.rf h9)
    refine W.widen (k := 0) (n := 0) (Nat.le_of_ble_eq_true rfl) (Nat.le_of_ble_eq_true rfl) ?_
    rw [hQ]
    exact W.vret hx hb hr (fun t ht hW => ⟨⟨τ8, rfl, ⟨hI10, Xτ8, Mτ8⟩, wEn_of hP (hK.sub [] rfl) hD ht hW⟩, hS.F ht⟩) hS.2.2 dX12_fresh_23
  · have tc6 := (show z2.toInt < 0 from ti_nle rg_11 rfl c6)
    refine lv_aload_n hx hb dX12_fresh_7 rfl (lv_at hl 0 rfl) ?_
    refine zy_i (va_runV (As := []) (rest := []) ⟨hx, hb, hml, hown, hts⟩ (n_stepNamed l dC dI h ad cl H.size σ  hI) (cwV 0 hts gd_n_fresh_285_n_stepNamed rfl rfl rfl dd_n_stepNamed ⟨Nat.le_of_ble_eq_true rfl, Nat.le_of_ble_eq_true rfl⟩) (preV hP hK hD hE (ci := 12) (q0 := 0) rfl rfl) rfl rfl hl.1 rfl (lv_room (Nat.le_of_ble_eq_true rfl)) dX12_fresh_8 ⟨Nat.le_of_ble_eq_true rfl, Nat.le_of_ble_eq_true rfl⟩) hD hS hA (fun z15 τ14 H locs hq hP hD hS => ?_)
    obtain ⟨rfl, f16, f17, f18⟩ := hq
    refine W.widen (k := 0) (n := 0) (Nat.le_of_ble_eq_true rfl) (Nat.le_of_ble_eq_true rfl) ?_
    refine lv_if_lt (tgt := 23) hx hb dX12_fresh_11 rfl (fun c19 => ?_) (fun c19 => ?_)
    · have tc19 := (show z15.toInt < 0 from ti_lt rfl rg_11 c19)
      rw [hQ]
      exact W.vret hx hb hr (fun t ht hW => ⟨⟨σ, rfl, ⟨hI, eqx.rf, Mo.rf⟩, wEn_of hP (hK.sub [] rfl) hD ht hW⟩, hS.F ht⟩) hS.2.2 dX12_fresh_23
    · have tc19 := (show 0 ≤ z15.toInt from ti_nlt rfl rg_11 c19)
      refine lv_aload_n hx hb dX12_fresh_14 rfl (lv_at hl 0 rfl) ?_
      refine lv_iconst (v := 3) hx hb dX12_fresh_15 rg_16 ?_
      refine lv_aload_n hx hb dX12_fresh_16 rfl (lv_at hl 0 rfl) ?_
      refine va_get (D := (dC, dI)) (ci := 12) (v := .int (σ.1 6)) (C := RX12) (T := TX12) (N := 59) hx hb hts hin12 hown hK hP 0 rfl rfl 6 (Nat.le_of_ble_eq_true rfl) (ho (.fieldLink RX12 192 "NearEnoughModel" "at" "I") (List.mem_of_getElem? (i := 0) rfl)) (fun _ h9 => h9) rfl dX12_fresh_17 ?_
      have bσ_6 : 0 ≤ (σ.1 6).toInt ∧ (σ.1 6).toInt ≤ 1000 := hI.1 6
      have kk20 : (3 : Int32).toInt = 3 := rg_17
      have o3 : 0 ≤ (3 : Int32).toInt := by omega
      have o4 : (3 : Int32).toInt ≤ 7 := by omega
      refine zy_v (va_runV (As := [.int 3, .int (σ.1 6)]) (rest := []) ⟨hx, hb, hml, hown, hts⟩ (n_fails l dC dI h ad cl H.size σ 3 (σ.1 6) hI ⟨o3, o4⟩) (cwV 2 hts gd_n_fresh_220_n_fails rfl rfl rfl dd_n_fails ⟨Nat.le_of_ble_eq_true rfl, Nat.le_of_ble_eq_true rfl⟩) (preV hP hK hD hE (ci := 12) (q0 := 0) rfl rfl) rfl rfl hl.1 rfl (lv_room (Nat.le_of_ble_eq_true rfl)) dX12_fresh_20 ⟨Nat.le_of_ble_eq_true rfl, Nat.le_of_ble_eq_true rfl⟩) hD hS hA (fun τ21 H locs hq hP hD hS => ?_)
      obtain ⟨hI23, hx24, f25, mo26⟩ := hq
      have Xτ21 : eqx [4, 5] τ21 σ := eqx.tr hx24 eqx.rf rg_21
      have Mτ21 : Mo τ21 σ := Mo.tr mo26 (fun h9 => Mo.rf h9)
      refine W.widen (k := 0) (n := 0) (Nat.le_of_ble_eq_true rfl) (Nat.le_of_ble_eq_true rfl) ?_
      rw [hQ]
      exact W.vret hx hb hr (fun t ht hW => ⟨⟨τ21, rfl, ⟨hI23, Xτ21, Mτ21⟩, wEn_of hP (hK.sub [] rfl) hD ht hW⟩, hS.F ht⟩) hS.2.2 dX12_fresh_23
