theorem dJ7_fill_d0a16_0 : decode cJ7_fill_d0a16 0 = .ok (.iconst 0, 1) := by decide +kernel
theorem dJ7_fill_d0a16_1 : decode cJ7_fill_d0a16 1 = .ok (.istore_n 3, 1) := by decide +kernel
theorem dJ7_fill_d0a16_2 : decode cJ7_fill_d0a16 2 = .ok (.aload_n 0, 1) := by decide +kernel
theorem dJ7_fill_d0a16_3 : decode cJ7_fill_d0a16 3 = .ok (.arraylength, 1) := by decide +kernel
theorem dJ7_fill_d0a16_4 : decode cJ7_fill_d0a16 4 = .ok (.istore 4, 2) := by decide +kernel
theorem dJ7_fill_d0a16_6 : decode cJ7_fill_d0a16 6 = .ok (.iload_n 3, 1) := by decide +kernel
theorem dJ7_fill_d0a16_7 : decode cJ7_fill_d0a16 7 = .ok (.iload 4, 2) := by decide +kernel
theorem dJ7_fill_d0a16_9 : decode cJ7_fill_d0a16 9 = .ok (.if_icmp .ge 13, 3) := by decide +kernel
theorem dJ7_fill_d0a16_22 : decode cJ7_fill_d0a16 22 = .ok (.return_, 1) := by decide +kernel
theorem dJ7_fill_d0a16_12 : decode cJ7_fill_d0a16 12 = .ok (.aload_n 0, 1) := by decide +kernel
theorem dJ7_fill_d0a16_13 : decode cJ7_fill_d0a16 13 = .ok (.iload_n 3, 1) := by decide +kernel
theorem dJ7_fill_d0a16_14 : decode cJ7_fill_d0a16 14 = .ok (.lload_n 1, 1) := by decide +kernel
theorem dJ7_fill_d0a16_15 : decode cJ7_fill_d0a16 15 = .ok (.lastore, 1) := by decide +kernel
theorem dJ7_fill_d0a16_16 : decode cJ7_fill_d0a16 16 = .ok (.iinc 3 1, 3) := by decide +kernel
theorem dJ7_fill_d0a16_19 : decode cJ7_fill_d0a16 19 = .ok (.goto (-13), 3) := by decide +kernel
theorem dX11_counted_0 : decode cX11_counted 0 = .ok (.aload_n 0, 1) := by decide +kernel
theorem dX11_counted_1 : decode cX11_counted 1 = .ok (.getfield 26, 3) := by decide +kernel
theorem dX11_counted_4 : decode cX11_counted 4 = .ok (.getfield 284, 3) := by decide +kernel
theorem dX11_counted_7 : decode cX11_counted 7 = .ok (.iload_n 1, 1) := by decide +kernel
theorem dX11_counted_8 : decode cX11_counted 8 = .ok (.iaload, 1) := by decide +kernel
theorem dX11_counted_9 : decode cX11_counted 9 = .ok (.iconst 1, 1) := by decide +kernel
theorem dX11_counted_10 : decode cX11_counted 10 = .ok (.if_icmp .ne 5, 3) := by decide +kernel
theorem dX11_counted_15 : decode cX11_counted 15 = .ok (.aload_n 0, 1) := by decide +kernel
theorem dX11_counted_16 : decode cX11_counted 16 = .ok (.getfield 26, 3) := by decide +kernel
theorem dX11_counted_19 : decode cX11_counted 19 = .ok (.getfield 284, 3) := by decide +kernel
theorem dX11_counted_22 : decode cX11_counted 22 = .ok (.iload_n 1, 1) := by decide +kernel
theorem dX11_counted_23 : decode cX11_counted 23 = .ok (.iaload, 1) := by decide +kernel
theorem dX11_counted_24 : decode cX11_counted 24 = .ok (.iconst 2, 1) := by decide +kernel
theorem dX11_counted_25 : decode cX11_counted 25 = .ok (.if_icmp .ne 24, 3) := by decide +kernel
theorem dX11_counted_49 : decode cX11_counted 49 = .ok (.lconst 0, 1) := by decide +kernel
theorem dX11_counted_50 : decode cX11_counted 50 = .ok (.lreturn, 1) := by decide +kernel
theorem dX11_counted_28 : decode cX11_counted 28 = .ok (.lload_n 2, 1) := by decide +kernel
theorem dX11_counted_29 : decode cX11_counted 29 = .ok (.aload_n 0, 1) := by decide +kernel
theorem dX11_counted_30 : decode cX11_counted 30 = .ok (.getfield 26, 3) := by decide +kernel
theorem dX11_counted_33 : decode cX11_counted 33 = .ok (.getfield 287, 3) := by decide +kernel
theorem dX11_counted_36 : decode cX11_counted 36 = .ok (.iload_n 1, 1) := by decide +kernel
theorem dX11_counted_37 : decode cX11_counted 37 = .ok (.iaload, 1) := by decide +kernel
theorem dX11_counted_38 : decode cX11_counted 38 = .ok (.i2l, 1) := by decide +kernel
theorem dX11_counted_39 : decode cX11_counted 39 = .ok (.lcmp, 1) := by decide +kernel
theorem dX11_counted_40 : decode cX11_counted 40 = .ok (.ifCond .le 9, 3) := by decide +kernel
theorem dX11_counted_43 : decode cX11_counted 43 = .ok (.ldc2_w 306, 3) := by decide +kernel
theorem dX11_counted_46 : decode cX11_counted 46 = .ok (.goto 4, 3) := by decide +kernel
theorem dX11_counted_13 : decode cX11_counted 13 = .ok (.lload_n 2, 1) := by decide +kernel
theorem dX11_counted_14 : decode cX11_counted 14 = .ok (.lreturn, 1) := by decide +kernel
theorem dX11_allowance_0 : decode cX11_allowance 0 = .ok (.aload_n 0, 1) := by decide +kernel
theorem dX11_allowance_1 : decode cX11_allowance 1 = .ok (.getfield 26, 3) := by decide +kernel
theorem dX11_allowance_4 : decode cX11_allowance 4 = .ok (.getfield 284, 3) := by decide +kernel
theorem dX11_allowance_7 : decode cX11_allowance 7 = .ok (.iload_n 1, 1) := by decide +kernel
theorem dX11_allowance_8 : decode cX11_allowance 8 = .ok (.iaload, 1) := by decide +kernel
theorem dX11_allowance_9 : decode cX11_allowance 9 = .ok (.iconst 1, 1) := by decide +kernel
theorem dX11_allowance_10 : decode cX11_allowance 10 = .ok (.if_icmp .ne 25, 3) := by decide +kernel
theorem dX11_allowance_35 : decode cX11_allowance 35 = .ok (.aload_n 0, 1) := by decide +kernel
theorem dX11_allowance_36 : decode cX11_allowance 36 = .ok (.getfield 33, 3) := by decide +kernel
theorem dX11_allowance_39 : decode cX11_allowance 39 = .ok (.getfield 111, 3) := by decide +kernel
theorem dX11_allowance_42 : decode cX11_allowance 42 = .ok (.i2l, 1) := by decide +kernel
theorem dX11_allowance_43 : decode cX11_allowance 43 = .ok (.lreturn, 1) := by decide +kernel
theorem dX11_allowance_13 : decode cX11_allowance 13 = .ok (.aload_n 0, 1) := by decide +kernel
theorem dX11_allowance_14 : decode cX11_allowance 14 = .ok (.getfield 26, 3) := by decide +kernel
theorem dX11_allowance_17 : decode cX11_allowance 17 = .ok (.getfield 287, 3) := by decide +kernel
theorem dX11_allowance_20 : decode cX11_allowance 20 = .ok (.iload_n 1, 1) := by decide +kernel
theorem dX11_allowance_21 : decode cX11_allowance 21 = .ok (.iaload, 1) := by decide +kernel
theorem dX11_allowance_22 : decode cX11_allowance 22 = .ok (.i2l, 1) := by decide +kernel
theorem dX11_allowance_23 : decode cX11_allowance 23 = .ok (.aload_n 0, 1) := by decide +kernel
theorem dX11_allowance_24 : decode cX11_allowance 24 = .ok (.getfield 33, 3) := by decide +kernel
theorem dX11_allowance_27 : decode cX11_allowance 27 = .ok (.getfield 111, 3) := by decide +kernel
theorem dX11_allowance_30 : decode cX11_allowance 30 = .ok (.i2l, 1) := by decide +kernel
theorem dX11_allowance_31 : decode cX11_allowance 31 = .ok (.lmul, 1) := by decide +kernel
theorem dX11_allowance_32 : decode cX11_allowance 32 = .ok (.goto 11, 3) := by decide +kernel
theorem dX11_isLetOnSheets_0 : decode cX11_isLetOnSheets 0 = .ok (.aload_n 0, 1) := by decide +kernel
theorem dX11_isLetOnSheets_1 : decode cX11_isLetOnSheets 1 = .ok (.getfield 78, 3) := by decide +kernel
theorem dX11_isLetOnSheets_4 : decode cX11_isLetOnSheets 4 = .ok (.lconst 0, 1) := by decide +kernel
theorem dX11_isLetOnSheets_5 : decode cX11_isLetOnSheets 5 = .ok (.invokestatic 293, 3) := by decide +kernel
theorem dX11_isLetOnSheets_8 : decode cX11_isLetOnSheets 8 = .ok (.iconst 0, 1) := by decide +kernel
theorem dX11_isLetOnSheets_9 : decode cX11_isLetOnSheets 9 = .ok (.istore_n 1, 1) := by decide +kernel
theorem dX11_isLetOnSheets_10 : decode cX11_isLetOnSheets 10 = .ok (.iload_n 1, 1) := by decide +kernel
theorem dX11_isLetOnSheets_11 : decode cX11_isLetOnSheets 11 = .ok (.aload_n 0, 1) := by decide +kernel
theorem dX11_isLetOnSheets_12 : decode cX11_isLetOnSheets 12 = .ok (.getfield 33, 3) := by decide +kernel
theorem dX11_isLetOnSheets_15 : decode cX11_isLetOnSheets 15 = .ok (.getfield 111, 3) := by decide +kernel
theorem dX11_isLetOnSheets_18 : decode cX11_isLetOnSheets 18 = .ok (.if_icmp .ge 92, 3) := by decide +kernel
theorem dX11_isLetOnSheets_110 : decode cX11_isLetOnSheets 110 = .ok (.iconst 1, 1) := by decide +kernel
theorem dX11_isLetOnSheets_111 : decode cX11_isLetOnSheets 111 = .ok (.ireturn, 1) := by decide +kernel
theorem dX11_isLetOnSheets_21 : decode cX11_isLetOnSheets 21 = .ok (.aload_n 0, 1) := by decide +kernel
theorem dX11_isLetOnSheets_22 : decode cX11_isLetOnSheets 22 = .ok (.getfield 58, 3) := by decide +kernel
theorem dX11_isLetOnSheets_25 : decode cX11_isLetOnSheets 25 = .ok (.iload_n 1, 1) := by decide +kernel
theorem dX11_isLetOnSheets_26 : decode cX11_isLetOnSheets 26 = .ok (.iconst 0, 1) := by decide +kernel
theorem dX11_isLetOnSheets_27 : decode cX11_isLetOnSheets 27 = .ok (.aload_n 0, 1) := by decide +kernel
theorem dX11_isLetOnSheets_28 : decode cX11_isLetOnSheets 28 = .ok (.invokevirtual 159, 3) := by decide +kernel
theorem dX11_isLetOnSheets_31 : decode cX11_isLetOnSheets 31 = .ok (.invokevirtual 214, 3) := by decide +kernel
theorem dX11_isLetOnSheets_34 : decode cX11_isLetOnSheets 34 = .ok (.iconst 0, 1) := by decide +kernel
theorem dX11_isLetOnSheets_35 : decode cX11_isLetOnSheets 35 = .ok (.istore_n 2, 1) := by decide +kernel
theorem dX11_isLetOnSheets_36 : decode cX11_isLetOnSheets 36 = .ok (.iload_n 2, 1) := by decide +kernel
theorem dX11_isLetOnSheets_37 : decode cX11_isLetOnSheets 37 = .ok (.aload_n 0, 1) := by decide +kernel
theorem dX11_isLetOnSheets_38 : decode cX11_isLetOnSheets 38 = .ok (.getfield 26, 3) := by decide +kernel
theorem dX11_isLetOnSheets_41 : decode cX11_isLetOnSheets 41 = .ok (.getfield 281, 3) := by decide +kernel
theorem dX11_isLetOnSheets_44 : decode cX11_isLetOnSheets 44 = .ok (.if_icmp .ge 60, 3) := by decide +kernel
theorem dX11_isLetOnSheets_104 : decode cX11_isLetOnSheets 104 = .ok (.iinc 1 1, 3) := by decide +kernel
theorem dX11_isLetOnSheets_107 : decode cX11_isLetOnSheets 107 = .ok (.goto (-97), 3) := by decide +kernel
theorem dX11_isLetOnSheets_47 : decode cX11_isLetOnSheets 47 = .ok (.aload_n 0, 1) := by decide +kernel
theorem dX11_isLetOnSheets_48 : decode cX11_isLetOnSheets 48 = .ok (.getfield 78, 3) := by decide +kernel
theorem dX11_isLetOnSheets_51 : decode cX11_isLetOnSheets 51 = .ok (.iload_n 2, 1) := by decide +kernel
theorem dX11_isLetOnSheets_52 : decode cX11_isLetOnSheets 52 = .ok (.dup2, 1) := by decide +kernel
theorem dX11_isLetOnSheets_53 : decode cX11_isLetOnSheets 53 = .ok (.laload, 1) := by decide +kernel
theorem dX11_isLetOnSheets_54 : decode cX11_isLetOnSheets 54 = .ok (.aload_n 0, 1) := by decide +kernel
theorem dX11_isLetOnSheets_55 : decode cX11_isLetOnSheets 55 = .ok (.iload_n 2, 1) := by decide +kernel
theorem dX11_isLetOnSheets_56 : decode cX11_isLetOnSheets 56 = .ok (.aload_n 0, 1) := by decide +kernel
theorem dX11_isLetOnSheets_57 : decode cX11_isLetOnSheets 57 = .ok (.getfield 58, 3) := by decide +kernel
theorem dX11_isLetOnSheets_60 : decode cX11_isLetOnSheets 60 = .ok (.iload_n 1, 1) := by decide +kernel
theorem dX11_isLetOnSheets_61 : decode cX11_isLetOnSheets 61 = .ok (.aload_n 0, 1) := by decide +kernel
theorem dX11_isLetOnSheets_62 : decode cX11_isLetOnSheets 62 = .ok (.getfield 26, 3) := by decide +kernel
theorem dX11_isLetOnSheets_65 : decode cX11_isLetOnSheets 65 = .ok (.getfield 230, 3) := by decide +kernel
theorem dX11_isLetOnSheets_68 : decode cX11_isLetOnSheets 68 = .ok (.iload_n 2, 1) := by decide +kernel
theorem dX11_isLetOnSheets_69 : decode cX11_isLetOnSheets 69 = .ok (.iaload, 1) := by decide +kernel
theorem dX11_isLetOnSheets_70 : decode cX11_isLetOnSheets 70 = .ok (.invokevirtual 237, 3) := by decide +kernel
theorem dX11_isLetOnSheets_73 : decode cX11_isLetOnSheets 73 = .ok (.invokestatic 244, 3) := by decide +kernel
theorem dX11_isLetOnSheets_76 : decode cX11_isLetOnSheets 76 = .ok (.invokevirtual 299, 3) := by decide +kernel
theorem dX11_isLetOnSheets_79 : decode cX11_isLetOnSheets 79 = .ok (.ladd, 1) := by decide +kernel
theorem dX11_isLetOnSheets_80 : decode cX11_isLetOnSheets 80 = .ok (.lastore, 1) := by decide +kernel
theorem dX11_isLetOnSheets_81 : decode cX11_isLetOnSheets 81 = .ok (.aload_n 0, 1) := by decide +kernel
theorem dX11_isLetOnSheets_82 : decode cX11_isLetOnSheets 82 = .ok (.getfield 78, 3) := by decide +kernel
theorem dX11_isLetOnSheets_85 : decode cX11_isLetOnSheets 85 = .ok (.iload_n 2, 1) := by decide +kernel
theorem dX11_isLetOnSheets_86 : decode cX11_isLetOnSheets 86 = .ok (.laload, 1) := by decide +kernel
theorem dX11_isLetOnSheets_87 : decode cX11_isLetOnSheets 87 = .ok (.aload_n 0, 1) := by decide +kernel
theorem dX11_isLetOnSheets_88 : decode cX11_isLetOnSheets 88 = .ok (.iload_n 2, 1) := by decide +kernel
theorem dX11_isLetOnSheets_89 : decode cX11_isLetOnSheets 89 = .ok (.invokevirtual 303, 3) := by decide +kernel
theorem dX11_isLetOnSheets_92 : decode cX11_isLetOnSheets 92 = .ok (.lcmp, 1) := by decide +kernel
theorem dX11_isLetOnSheets_93 : decode cX11_isLetOnSheets 93 = .ok (.ifCond .le 5, 3) := by decide +kernel
theorem dX11_isLetOnSheets_98 : decode cX11_isLetOnSheets 98 = .ok (.iinc 2 1, 3) := by decide +kernel
theorem dX11_isLetOnSheets_101 : decode cX11_isLetOnSheets 101 = .ok (.goto (-65), 3) := by decide +kernel
theorem dX11_isLetOnSheets_96 : decode cX11_isLetOnSheets 96 = .ok (.iconst 0, 1) := by decide +kernel
theorem dX11_isLetOnSheets_97 : decode cX11_isLetOnSheets 97 = .ok (.ireturn, 1) := by decide +kernel
theorem dX11_isLet_0 : decode cX11_isLet 0 = .ok (.iconst 0, 1) := by decide +kernel
theorem dX11_isLet_1 : decode cX11_isLet 1 = .ok (.istore_n 1, 1) := by decide +kernel
theorem dX11_isLet_2 : decode cX11_isLet 2 = .ok (.iconst 0, 1) := by decide +kernel
theorem dX11_isLet_3 : decode cX11_isLet 3 = .ok (.istore_n 2, 1) := by decide +kernel
theorem dX11_isLet_4 : decode cX11_isLet 4 = .ok (.iload_n 2, 1) := by decide +kernel
theorem dX11_isLet_5 : decode cX11_isLet 5 = .ok (.aload_n 0, 1) := by decide +kernel
theorem dX11_isLet_6 : decode cX11_isLet 6 = .ok (.getfield 26, 3) := by decide +kernel
theorem dX11_isLet_9 : decode cX11_isLet 9 = .ok (.getfield 281, 3) := by decide +kernel
theorem dX11_isLet_12 : decode cX11_isLet 12 = .ok (.if_icmp .ge 58, 3) := by decide +kernel
theorem dX11_isLet_70 : decode cX11_isLet 70 = .ok (.iload_n 1, 1) := by decide +kernel
theorem dX11_isLet_71 : decode cX11_isLet 71 = .ok (.ifCond .eq 10, 3) := by decide +kernel
theorem dX11_isLet_81 : decode cX11_isLet 81 = .ok (.iconst 1, 1) := by decide +kernel
theorem dX11_isLet_82 : decode cX11_isLet 82 = .ok (.goto 4, 3) := by decide +kernel
theorem dX11_isLet_86 : decode cX11_isLet 86 = .ok (.ireturn, 1) := by decide +kernel
theorem dX11_isLet_74 : decode cX11_isLet 74 = .ok (.aload_n 0, 1) := by decide +kernel
theorem dX11_isLet_75 : decode cX11_isLet 75 = .ok (.invokevirtual 290, 3) := by decide +kernel
theorem dX11_isLet_78 : decode cX11_isLet 78 = .ok (.ifCond .eq 7, 3) := by decide +kernel
theorem dX11_isLet_85 : decode cX11_isLet 85 = .ok (.iconst 0, 1) := by decide +kernel
theorem dX11_isLet_15 : decode cX11_isLet 15 = .ok (.aload_n 0, 1) := by decide +kernel
theorem dX11_isLet_16 : decode cX11_isLet 16 = .ok (.getfield 26, 3) := by decide +kernel
theorem dX11_isLet_19 : decode cX11_isLet 19 = .ok (.getfield 284, 3) := by decide +kernel
theorem dX11_isLet_22 : decode cX11_isLet 22 = .ok (.iload_n 2, 1) := by decide +kernel
theorem dX11_isLet_23 : decode cX11_isLet 23 = .ok (.iaload, 1) := by decide +kernel
theorem dX11_isLet_24 : decode cX11_isLet 24 = .ok (.ifCond .eq 8, 3) := by decide +kernel
theorem dX11_isLet_32 : decode cX11_isLet 32 = .ok (.aload_n 0, 1) := by decide +kernel
theorem dX11_isLet_33 : decode cX11_isLet 33 = .ok (.getfield 49, 3) := by decide +kernel
theorem dX11_isLet_36 : decode cX11_isLet 36 = .ok (.aload_n 0, 1) := by decide +kernel
theorem dX11_isLet_37 : decode cX11_isLet 37 = .ok (.getfield 26, 3) := by decide +kernel
theorem dX11_isLet_40 : decode cX11_isLet 40 = .ok (.getfield 230, 3) := by decide +kernel
theorem dX11_isLet_43 : decode cX11_isLet 43 = .ok (.iload_n 2, 1) := by decide +kernel
theorem dX11_isLet_44 : decode cX11_isLet 44 = .ok (.iaload, 1) := by decide +kernel
theorem dX11_isLet_45 : decode cX11_isLet 45 = .ok (.invokevirtual 233, 3) := by decide +kernel
theorem dX11_isLet_48 : decode cX11_isLet 48 = .ok (.aload_n 0, 1) := by decide +kernel
theorem dX11_isLet_49 : decode cX11_isLet 49 = .ok (.getfield 26, 3) := by decide +kernel
theorem dX11_isLet_52 : decode cX11_isLet 52 = .ok (.getfield 287, 3) := by decide +kernel
theorem dX11_isLet_55 : decode cX11_isLet 55 = .ok (.iload_n 2, 1) := by decide +kernel
theorem dX11_isLet_56 : decode cX11_isLet 56 = .ok (.iaload, 1) := by decide +kernel
theorem dX11_isLet_57 : decode cX11_isLet 57 = .ok (.i2l, 1) := by decide +kernel
theorem dX11_isLet_58 : decode cX11_isLet 58 = .ok (.lcmp, 1) := by decide +kernel
theorem dX11_isLet_59 : decode cX11_isLet 59 = .ok (.ifCond .le 5, 3) := by decide +kernel
theorem dX11_isLet_64 : decode cX11_isLet 64 = .ok (.iinc 2 1, 3) := by decide +kernel
theorem dX11_isLet_67 : decode cX11_isLet 67 = .ok (.goto (-63), 3) := by decide +kernel
theorem dX11_isLet_62 : decode cX11_isLet 62 = .ok (.iconst 0, 1) := by decide +kernel
theorem dX11_isLet_63 : decode cX11_isLet 63 = .ok (.ireturn, 1) := by decide +kernel
theorem dX11_isLet_27 : decode cX11_isLet 27 = .ok (.iconst 1, 1) := by decide +kernel
theorem dX11_isLet_28 : decode cX11_isLet 28 = .ok (.istore_n 1, 1) := by decide +kernel
theorem dX11_isLet_29 : decode cX11_isLet 29 = .ok (.goto 35, 3) := by decide +kernel
theorem dX11_let_0 : decode cX11_let 0 = .ok (.aload_n 0, 1) := by decide +kernel
theorem dX11_let_1 : decode cX11_let 1 = .ok (.getfield 40, 3) := by decide +kernel
theorem dX11_let_4 : decode cX11_let 4 = .ok (.iload_n 1, 1) := by decide +kernel
theorem dX11_let_5 : decode cX11_let 5 = .ok (.invokevirtual 202, 3) := by decide +kernel
theorem dX11_let_8 : decode cX11_let 8 = .ok (.ifCond .ne 5, 3) := by decide +kernel
theorem dX11_let_13 : decode cX11_let 13 = .ok (.aload_n 0, 1) := by decide +kernel
theorem dX11_let_14 : decode cX11_let 14 = .ok (.getfield 49, 3) := by decide +kernel
theorem dX11_let_17 : decode cX11_let 17 = .ok (.iconst 0, 1) := by decide +kernel
theorem dX11_let_18 : decode cX11_let 18 = .ok (.invokevirtual 205, 3) := by decide +kernel
theorem dX11_let_21 : decode cX11_let 21 = .ok (.iconst (-1), 1) := by decide +kernel
theorem dX11_let_22 : decode cX11_let 22 = .ok (.if_icmp .ne 14, 3) := by decide +kernel
theorem dX11_let_36 : decode cX11_let 36 = .ok (.iconst 0, 1) := by decide +kernel
theorem dX11_let_37 : decode cX11_let 37 = .ok (.ireturn, 1) := by decide +kernel
theorem dX11_let_25 : decode cX11_let 25 = .ok (.aload_n 0, 1) := by decide +kernel
theorem dX11_let_26 : decode cX11_let 26 = .ok (.invokevirtual 277, 3) := by decide +kernel
theorem dX11_let_29 : decode cX11_let 29 = .ok (.ifCond .eq 7, 3) := by decide +kernel
theorem dX11_let_32 : decode cX11_let 32 = .ok (.iconst 1, 1) := by decide +kernel
theorem dX11_let_33 : decode cX11_let 33 = .ok (.goto 4, 3) := by decide +kernel
theorem dX11_let_11 : decode cX11_let 11 = .ok (.iconst (-1), 1) := by decide +kernel
theorem dX11_let_12 : decode cX11_let 12 = .ok (.ireturn, 1) := by decide +kernel
theorem dX11_best_0 : decode cX11_best 0 = .ok (.iconst 0, 1) := by decide +kernel
theorem dX11_best_1 : decode cX11_best 1 = .ok (.istore_n 1, 1) := by decide +kernel
theorem dX11_best_2 : decode cX11_best 2 = .ok (.iconst 0, 1) := by decide +kernel
theorem dX11_best_3 : decode cX11_best 3 = .ok (.istore_n 2, 1) := by decide +kernel
theorem dX11_best_4 : decode cX11_best 4 = .ok (.aload_n 0, 1) := by decide +kernel
theorem dX11_best_5 : decode cX11_best 5 = .ok (.getfield 49, 3) := by decide +kernel
theorem dX11_best_8 : decode cX11_best 8 = .ok (.invokevirtual 308, 3) := by decide +kernel
theorem dX11_best_11 : decode cX11_best 11 = .ok (.iconst 0, 1) := by decide +kernel
theorem dX11_best_12 : decode cX11_best 12 = .ok (.istore_n 3, 1) := by decide +kernel
theorem dX11_best_13 : decode cX11_best 13 = .ok (.iload_n 3, 1) := by decide +kernel
theorem dX11_best_14 : decode cX11_best 14 = .ok (.sipush 4096, 3) := by decide +kernel
theorem dX11_best_17 : decode cX11_best 17 = .ok (.if_icmp .ge 70, 3) := by decide +kernel
theorem dX11_best_87 : decode cX11_best 87 = .ok (.iload_n 1, 1) := by decide +kernel
theorem dX11_best_88 : decode cX11_best 88 = .ok (.ireturn, 1) := by decide +kernel
theorem dX11_best_20 : decode cX11_best 20 = .ok (.aload_n 0, 1) := by decide +kernel
theorem dX11_best_21 : decode cX11_best 21 = .ok (.getfield 49, 3) := by decide +kernel
theorem dX11_best_24 : decode cX11_best 24 = .ok (.invokevirtual 311, 3) := by decide +kernel
theorem dX11_best_27 : decode cX11_best 27 = .ok (.ifCond .eq 60, 3) := by decide +kernel
theorem dX11_best_30 : decode cX11_best 30 = .ok (.aload_n 0, 1) := by decide +kernel
theorem dX11_best_31 : decode cX11_best 31 = .ok (.getfield 40, 3) := by decide +kernel
theorem dX11_best_34 : decode cX11_best 34 = .ok (.aload_n 0, 1) := by decide +kernel
theorem dX11_best_35 : decode cX11_best 35 = .ok (.getfield 40, 3) := by decide +kernel
theorem dX11_best_38 : decode cX11_best 38 = .ok (.getfield 314, 3) := by decide +kernel
theorem dX11_best_41 : decode cX11_best 41 = .ok (.invokevirtual 260, 3) := by decide +kernel
theorem dX11_best_44 : decode cX11_best 44 = .ok (.istore 4, 2) := by decide +kernel
theorem dX11_best_46 : decode cX11_best 46 = .ok (.iload 4, 2) := by decide +kernel
theorem dX11_best_48 : decode cX11_best 48 = .ok (.aload_n 0, 1) := by decide +kernel
theorem dX11_best_49 : decode cX11_best 49 = .ok (.getfield 40, 3) := by decide +kernel
theorem dX11_best_52 : decode cX11_best 52 = .ok (.getfield 314, 3) := by decide +kernel
theorem dX11_best_55 : decode cX11_best 55 = .ok (.iload_n 2, 1) := by decide +kernel
theorem dX11_best_56 : decode cX11_best 56 = .ok (.iload_n 1, 1) := by decide +kernel
theorem dX11_best_57 : decode cX11_best 57 = .ok (.invokestatic 317, 3) := by decide +kernel
theorem dX11_best_60 : decode cX11_best 60 = .ok (.ifCond .eq 21, 3) := by decide +kernel
theorem dX11_best_81 : decode cX11_best 81 = .ok (.iinc 3 1, 3) := by decide +kernel
theorem dX11_best_84 : decode cX11_best 84 = .ok (.goto (-71), 3) := by decide +kernel
theorem dX11_best_63 : decode cX11_best 63 = .ok (.aload_n 0, 1) := by decide +kernel
theorem dX11_best_64 : decode cX11_best 64 = .ok (.invokevirtual 277, 3) := by decide +kernel
theorem dX11_best_67 : decode cX11_best 67 = .ok (.ifCond .eq 14, 3) := by decide +kernel
theorem dX11_best_70 : decode cX11_best 70 = .ok (.aload_n 0, 1) := by decide +kernel
theorem dX11_best_71 : decode cX11_best 71 = .ok (.getfield 40, 3) := by decide +kernel
theorem dX11_best_74 : decode cX11_best 74 = .ok (.getfield 314, 3) := by decide +kernel
theorem dX11_best_77 : decode cX11_best 77 = .ok (.istore_n 1, 1) := by decide +kernel
theorem dX11_best_78 : decode cX11_best 78 = .ok (.iload 4, 2) := by decide +kernel
theorem dX11_best_80 : decode cX11_best 80 = .ok (.istore_n 2, 1) := by decide +kernel

def ow_k_filltally : List Cond := []
def vs_k_filltally : List Cond := .code yJ7_fill_d0a16 cJ7_fill_d0a16 5 none :: (ow_k_filltally)
theorem vg_k_filltally : vs_k_filltally.all goodWord = true := by decide +kernel
theorem dd_k_filltally : yJ7_fill_d0a16.cls ≠ "java/lang/invoke/MethodHandle" ∧ yJ7_fill_d0a16.cls ≠ "java/lang/invoke/VarHandle" ∧ (parseMethodDescriptor yJ7_fill_d0a16.desc).map (fun d => d.parameters.length) = some 2 := by decide +kernel
def rm_k_filltally : Room := { frames := 0, cells := 0, slots := 0, locals := 0 }
set_option maxHeartbeats 4000000 in
set_option maxRecDepth 100000 in
theorem k_filltally (l : Launch) (dC : Nat → ClassId) (dI : Nat → Nat → Nat) (κ : CE) (sz : Nat) (σ : MS) (hk : PInv κ) (hI : CInv σ)  : Met l yJ7_fill_d0a16 vs_k_filltally rm_k_filltally (va_Pc [.ref (kA κ 5), .long 0] (wSy dC dI (cW κ σ) (cT κ) sz)) (va_Qv (fun (τ : MS) => CInv τ ∧ True) (fun (τ : MS) => wEn dC dI (va_A (cW κ σ) sz) (cW κ τ) []) (va_A (cW κ σ) sz)) 0 0 (va_A (cW κ σ) sz) := by
  refine Met.ofW (cc := cJ7_fill_d0a16) (maxL := 5) (ret := none) (by decide +kernel) rfl ?_
  intro p e s m args below meth c s₁ B hml hv
  obtain ⟨rfl, hsz, hP, hK, hD0, hE⟩ := hv
  have hx := B.exec
  have hb := B.bytes
  have hr := B.returns
  have hts := atoms_spec (ws := vs_k_filltally) B.pre
  have hown : s.vm.findClass RJ7 = some m.cls := findClass_of_methodNamed B.named
  have hlocks := B.notSynchronized
  subst hsz
  have hD := hD0.self (sz := s.heap.size)
  generalize hAe : va_A (cW κ σ) s.heap.size = A at hD ⊢
  have hA : ∀ q : Nat, s.heap.size ≤ q → A q := fun q h => by rw [← hAe]; exact Or.inr h
  have hl := lv_entry ([.ref (kA κ 5), .long 0]) (n := 5) (Nat.le_of_ble_eq_true rfl)
  rw [lg_entry_eq]
  generalize (lg_sl ([.ref (kA κ 5), .long 0]) ++ List.replicate (5 - (lg_sl ([.ref (kA κ 5), .long 0])).length) Slot.unset).toArray = ls at hl ⊢
  have hl : lv_has ls 5 [(0, .ref (kA κ 5)), (1, .long 0)] := hl
  have ho := fun w (h : w ∈ ow_k_filltally) => hts w (List.mem_cons_of_mem _ h)
  refine zQ (fun Q hQ => ?_)
  refine zH (A := A) (ws := (cW κ σ)) (fun H hP hS => ?_) hP
  have hk0 := hk.1
  have hk1 := hk.2.1
  have hk2 := hk.2.2.1
  refine lv_iconst (v := 0) hx hb dJ7_fill_d0a16_0 rg_0 ?_
  refine lv_istore_n (lv' := [(3, .int 0), (0, .ref (kA κ 5)), (1, .long 0)]) hx hb dJ7_fill_d0a16_1 rfl hl (Nat.le_of_ble_eq_true rfl) rfl (fun ls hl => ?_)
  refine lv_aload_n hx hb dJ7_fill_d0a16_2 rfl (lv_at hl 1 rfl) ?_
  refine va_alen (v := 4) hx hb hK hP 5 4 rfl rfl rfl dJ7_fill_d0a16_3 ?_
  refine lv_istore (lv' := [(4, .int 4), (3, .int 0), (0, .ref (kA κ 5)), (1, .long 0)]) hx hb dJ7_fill_d0a16_4 hl (Nat.le_of_ble_eq_true rfl) rfl (fun ls hl => ?_)
  have pt6_ : ∀ (n6_ : Nat) (σ6_ : MS) (v3_ : Int32) (H : Heap) (locs : List Loc) (ls : Array Slot), (4 - v3_.toInt).toNat < n6_ → CInv σ6_ → (0 ≤ v3_.toInt) → va_P (dC, dI) vwCl (cW κ σ6_) H → va_D A (cW κ σ6_) → va_S A s.heap H locs → lv_has ls 5 [(3, .int v3_), (4, .int 4), (0, .ref (kA κ 5)), (1, .long 0)] → W p l e (headSpec vs_k_filltally rm_k_filltally).room s m #[Value.ref (kA κ 5), Value.long 0] below meth c H locs 0 0 Q (F0 m 6 ls []) := by
    intro n6_
    induction n6_ with
    | zero => intro σ6_ v3_ H locs ls hn6_ hIσ6_ hf6_0_ hP hD hS hl; exact absurd hn6_ (Nat.not_lt_zero _)
    | succ n6_ ih6_ =>
      intro σ6_ v3_ H locs ls hn6_ hIσ6_ hf6_0_ hP hD hS hl
      refine lv_iload_n hx hb dJ7_fill_d0a16_6 rfl (lv_at hl 0 rfl) ?_
      refine lv_iload hx hb dJ7_fill_d0a16_7 (lv_at hl 1 rfl) ?_
      refine lv_icmp_ge (tgt := 22) hx hb dJ7_fill_d0a16_9 rfl (fun c1_ => ?_) (fun c1_ => ?_)
      · have tc1_ := (show 4 ≤ v3_.toInt from ti_le rg_32 rfl c1_)
        rw [hQ]
        exact W.vret hx hb hr (fun t ht hW => ⟨⟨σ6_, rfl, ⟨hIσ6_, trivial⟩, wEn_of hP (hK.sub [] rfl) hD ht hW⟩, hS.F ht⟩) hS.2.2 dJ7_fill_d0a16_22
      · have tc1_ := (show v3_.toInt < 4 from ti_nle rg_32 rfl c1_)
        refine lv_aload_n hx hb dJ7_fill_d0a16_12 rfl (lv_at hl 2 rfl) ?_
        refine lv_iload_n hx hb dJ7_fill_d0a16_13 rfl (lv_at hl 0 rfl) ?_
        refine lv_lload_n hx hb dJ7_fill_d0a16_14 rfl (lv_at hl 3 rfl) ?_
        have o1 : 0 ≤ v3_.toInt := by omega
        have o2 : v3_.toInt < ((4 : Nat) : Int) := by omega
        refine va_last hx hb hK hP hD hS 5 4 rfl rfl (ti_inx o1 o2) dJ7_fill_d0a16_15 (fun H locs hP hD hS => ?_)
        obtain ⟨f2_, ef2_⟩ : ∃ f9 : Nat → Int64, f9 = vp_updL (σ6_.2.2.1 9) (Int32.toNatClampNeg v3_) 0 := ⟨_, rfl⟩
        have hP : va_P (dC, dI) vwCl (cW κ (sJ σ6_ 9 f2_)) H := by rw [ef2_]; exact hP
        have hD : va_D A (cW κ (sJ σ6_ 9 f2_)) := by rw [ef2_]; exact hD
        obtain ⟨z3_, ez3_⟩ : ∃ y : Int32, y = v3_ + 1 := ⟨_, rfl⟩
        have o3 : -2147483648 ≤ v3_.toInt + 1 := by omega
        have o4 : v3_.toInt + 1 ≤ 2147483647 := by omega
        have tz3_ := ti_add ez3_ rfl rg_18 o3 o4
        refine lv_iinc (v := z3_) (lv' := [(3, .int z3_), (4, .int 4), (0, .ref (kA κ 5)), (1, .long 0)]) hx hb dJ7_fill_d0a16_16 hl (k := 0) rfl (iincp ez3_ rg_6) (Nat.le_of_ble_eq_true rfl) rfl (fun ls hl => ?_)
        refine lv_goto (tgt := 6) hx hb dJ7_fill_d0a16_19 rfl ?_
        have o5 : (4 - z3_.toInt).toNat < n6_ := by omega
        have o6 : 0 ≤ z3_.toInt := by omega
        exact ih6_ (sJ σ6_ 9 f2_) z3_ _ _ _ o5 (CInv.sJ hIσ6_) o6 hP hD hS (lv_sub hl [0, 1, 2, 3] rfl)
  have kk4_ : (0 : Int32).toInt = 0 := rg_11
  have o7 : 0 ≤ (0 : Int32).toInt := by omega
  exact pt6_ _ σ 0 _ _ _ (Nat.lt_succ_self _) hI o7 hP hD hS (lv_sub hl [1, 0, 2, 3] rfl)
def ow_k_counted : List Cond := [.fieldLink RX11 26 "NearEnough" "told" "LNearEnough$Program;", .fieldLink RX11 284 "NearEnough$Program" "endKind" "[I", .fieldLink RX11 287 "NearEnough$Program" "endOff" "[I", .constantLong RX11 306 (100)]
def vs_k_counted : List Cond := .code yX11_counted cX11_counted 4 (some .long) :: (ow_k_counted ++ (wsX30 ++ (wsX110)))
theorem vg_k_counted : vs_k_counted.all goodWord = true := by decide +kernel
theorem dd_k_counted : yX11_counted.cls = RX11 ∧ yX11_counted.cls ≠ "java/lang/invoke/MethodHandle" ∧ yX11_counted.cls ≠ "java/lang/invoke/VarHandle" ∧ (parseMethodDescriptor yX11_counted.desc).map (fun d => d.parameters.length) = some 2 := by decide +kernel
def rm_k_counted : Room := { frames := 0, cells := 0, slots := 0, locals := 0 }
set_option maxHeartbeats 4000000 in
set_option maxRecDepth 100000 in
theorem k_counted (l : Launch) (dC : Nat → ClassId) (dI : Nat → Nat → Nat) (κ : CE) (sz : Nat) (σ : MS) (x : Int32) (y : Int64) (hk : PInv κ) (hI : CInv σ) (hx0 : 0 ≤ x.toInt ∧ x.toInt < (pI κ 2).toInt) : Met l yX11_counted vs_k_counted rm_k_counted (va_Pc [.ref (kA κ 0), .int x, .long y] (wSy dC dI (cW κ σ) (cT κ) sz)) (va_Ql (fun (r : Int64) (τ : MS) => τ = σ ∧ True) (fun (τ : MS) => wEn dC dI (va_A (cW κ σ) sz) (cW κ τ) []) (va_A (cW κ σ) sz)) 0 0 (va_A (cW κ σ) sz) := by
  refine Met.ofW (cc := cX11_counted) (maxL := 4) (ret := (some .long)) (by decide +kernel) rfl ?_
  intro p e s m args below meth c s₁ B hml hv
  obtain ⟨rfl, hsz, hP, hK, hD0, hE⟩ := hv
  have hx := B.exec
  have hb := B.bytes
  have hr := B.returns
  have hts := atoms_spec (ws := vs_k_counted) B.pre
  have hown : s.vm.findClass RX11 = some m.cls := findClass_of_methodNamed B.named
  have hlocks := B.notSynchronized
  subst hsz
  have hD := hD0.self (sz := s.heap.size)
  generalize hAe : va_A (cW κ σ) s.heap.size = A at hD ⊢
  have hA : ∀ q : Nat, s.heap.size ≤ q → A q := fun q h => by rw [← hAe]; exact Or.inr h
  have hl := lv_entry ([.ref (kA κ 0), .int x, .long y]) (n := 4) (Nat.le_of_ble_eq_true rfl)
  rw [lg_entry_eq]
  generalize (lg_sl ([.ref (kA κ 0), .int x, .long y]) ++ List.replicate (4 - (lg_sl ([.ref (kA κ 0), .int x, .long y])).length) Slot.unset).toArray = ls at hl ⊢
  have hl : lv_has ls 4 [(0, .ref (kA κ 0)), (1, .int x), (2, .long y)] := hl
  have ho := fun w (h : w ∈ ow_k_counted) => hts w (List.mem_cons_of_mem _ (List.mem_append_left _ h))
  have hin3 : ∀ w ∈ u_ws RX3 TX3 8, w ∈ vs_k_counted := fun w h => (List.mem_cons_of_mem _ (List.mem_append_right _ (List.mem_append_left _ h)))
  have hin11 : ∀ w ∈ u_ws RX11 TX11 17, w ∈ vs_k_counted := fun w h => (List.mem_cons_of_mem _ (List.mem_append_right _ (List.mem_append_right _ h)))
  refine zQ (fun Q hQ => ?_)
  refine zH (A := A) (ws := (cW κ σ)) (fun H hP hS => ?_) hP
  have hk0 := hk.1
  have hk1 := hk.2.1
  have hk2 := hk.2.2.1
  refine lv_aload_n hx hb dX11_counted_0 rfl (lv_at hl 0 rfl) ?_
  refine va_get (D := (dC, dI)) (ci := 11) (v := .ref (kA κ 6)) (C := RX11) (T := TX11) (N := 17) hx hb hts hin11 hown hK hP 0 rfl rfl 4 (Nat.le_of_ble_eq_true rfl) (ho (.fieldLink RX11 26 "NearEnough" "told" "LNearEnough$Program;") (List.mem_of_getElem? (i := 0) rfl)) (fun _ h9 => h9) rfl dX11_counted_1 ?_
  refine va_get (D := (dC, dI)) (ci := 3) (v := .ref (kA κ 11)) (C := RX3) (T := TX3) (N := 8) hx hb hts hin3 hown hK hP 6 rfl rfl 4 (Nat.le_of_ble_eq_true rfl) (ho (.fieldLink RX11 284 "NearEnough$Program" "endKind" "[I") (List.mem_of_getElem? (i := 1) rfl)) (fun _ h9 => h9) rfl dX11_counted_4 ?_
  refine lv_iload_n hx hb dX11_counted_7 rfl (lv_at hl 1 rfl) ?_
  have o1 : 0 ≤ x.toInt := by omega
  have o2 : x.toInt < ((4 : Nat) : Int) := by omega
  refine va_iald hx hb hK hP 11 9 rfl rfl (ti_inx o1 o2) dX11_counted_8 ?_
  refine lv_topi (fun z1_ ez1_ => ?_)
  refine lv_iconst (v := 1) hx hb dX11_counted_9 rg_6 ?_
  refine lv_icmp_ne (tgt := 15) hx hb dX11_counted_10 rfl (fun c2_ => ?_) (fun c2_ => ?_)
  · have tc2_ := (show z1_.toInt ≠ 1 from ti_ne rfl rg_18 c2_)
    refine lv_aload_n hx hb dX11_counted_15 rfl (lv_at hl 0 rfl) ?_
    refine va_get (D := (dC, dI)) (ci := 11) (v := .ref (kA κ 6)) (C := RX11) (T := TX11) (N := 17) hx hb hts hin11 hown hK hP 0 rfl rfl 4 (Nat.le_of_ble_eq_true rfl) (ho (.fieldLink RX11 26 "NearEnough" "told" "LNearEnough$Program;") (List.mem_of_getElem? (i := 0) rfl)) (fun _ h9 => h9) rfl dX11_counted_16 ?_
    refine va_get (D := (dC, dI)) (ci := 3) (v := .ref (kA κ 11)) (C := RX3) (T := TX3) (N := 8) hx hb hts hin3 hown hK hP 6 rfl rfl 4 (Nat.le_of_ble_eq_true rfl) (ho (.fieldLink RX11 284 "NearEnough$Program" "endKind" "[I") (List.mem_of_getElem? (i := 1) rfl)) (fun _ h9 => h9) rfl dX11_counted_19 ?_
    refine lv_iload_n hx hb dX11_counted_22 rfl (lv_at hl 1 rfl) ?_
    refine va_iald hx hb hK hP 11 9 rfl rfl (ti_inx o1 o2) dX11_counted_23 ?_
    refine lv_topi (fun z3_ ez3_ => ?_)
    refine lv_iconst (v := 2) hx hb dX11_counted_24 rg_19 ?_
    refine lv_icmp_ne (tgt := 49) hx hb dX11_counted_25 rfl (fun c4_ => ?_) (fun c4_ => ?_)
    · have tc4_ := (show z3_.toInt ≠ 2 from ti_ne rfl rg_20 c4_)
      refine lv_lconst (v := 0) hx hb dX11_counted_49 (by decide) ?_
      rw [hQ]
      exact W.lret (v := 0) hx hb hr (fun t ht hW => ⟨⟨0, σ, rfl, ⟨rfl, trivial⟩, wEn_of hP (hK.sub [] rfl) hD ht hW⟩, hS.F ht⟩) hS.2.2 dX11_counted_50
    · have tc4_ := (show z3_.toInt = 2 from ti_eq rfl rg_20 c4_)
      refine lv_lload_n hx hb dX11_counted_28 rfl (lv_at hl 2 rfl) ?_
      refine lv_aload_n hx hb dX11_counted_29 rfl (lv_at hl 0 rfl) ?_
      refine va_get (D := (dC, dI)) (ci := 11) (v := .ref (kA κ 6)) (C := RX11) (T := TX11) (N := 17) hx hb hts hin11 hown hK hP 0 rfl rfl 4 (Nat.le_of_ble_eq_true rfl) (ho (.fieldLink RX11 26 "NearEnough" "told" "LNearEnough$Program;") (List.mem_of_getElem? (i := 0) rfl)) (fun _ h9 => h9) rfl dX11_counted_30 ?_
      refine va_get (D := (dC, dI)) (ci := 3) (v := .ref (kA κ 10)) (C := RX3) (T := TX3) (N := 8) hx hb hts hin3 hown hK hP 6 rfl rfl 3 (Nat.le_of_ble_eq_true rfl) (ho (.fieldLink RX11 287 "NearEnough$Program" "endOff" "[I") (List.mem_of_getElem? (i := 2) rfl)) (fun _ h9 => h9) rfl dX11_counted_33 ?_
      refine lv_iload_n hx hb dX11_counted_36 rfl (lv_at hl 1 rfl) ?_
      refine va_iald hx hb hK hP 10 8 rfl rfl (ti_inx o1 o2) dX11_counted_37 ?_
      refine lv_topi (fun z5_ ez5_ => ?_)
      refine lv_i2l hx hb dX11_counted_38 rfl ?_
      refine lv_topl (fun y6_ ey6_ => ?_)
      refine W.lcmp hx hb dX11_counted_39 ?_
      refine lv_topi (fun z7_ ez7_ => ?_)
      refine lv_if_le (tgt := 49) hx hb dX11_counted_40 rfl (fun c8_ => ?_) (fun c8_ => ?_)
      · have tc8_ := (show z7_.toInt ≤ 0 from ti_le rfl rg_11 c8_)
        have lc8_ : y ≤ y6_ := (lg_cmp_le y y6_).mp (by rw [← ez7_]; exact c8_)
        refine lv_lconst (v := 0) hx hb dX11_counted_49 (by decide) ?_
        rw [hQ]
        exact W.lret (v := 0) hx hb hr (fun t ht hW => ⟨⟨0, σ, rfl, ⟨rfl, trivial⟩, wEn_of hP (hK.sub [] rfl) hD ht hW⟩, hS.F ht⟩) hS.2.2 dX11_counted_50
      · have tc8_ := (show 0 < z7_.toInt from ti_nle rfl rg_11 c8_)
        have lc8_ : ¬ y ≤ y6_ := fun h => c8_ (by rw [ez7_]; exact (lg_cmp_le y y6_).mpr h)
        refine lv_ldc2 (v := (100)) hx hb hown (ho (.constantLong RX11 306 (100)) (List.mem_of_getElem? (i := 3) rfl)) dX11_counted_43 ?_
        refine lv_goto (tgt := 50) hx hb dX11_counted_46 rfl ?_
        rw [hQ]
        exact W.lret (v := 100) hx hb hr (fun t ht hW => ⟨⟨100, σ, rfl, ⟨rfl, trivial⟩, wEn_of hP (hK.sub [] rfl) hD ht hW⟩, hS.F ht⟩) hS.2.2 dX11_counted_50
  · have tc2_ := (show z1_.toInt = 1 from ti_eq rfl rg_18 c2_)
    refine lv_lload_n hx hb dX11_counted_13 rfl (lv_at hl 2 rfl) ?_
    rw [hQ]
    exact W.lret (v := y) hx hb hr (fun t ht hW => ⟨⟨y, σ, rfl, ⟨rfl, trivial⟩, wEn_of hP (hK.sub [] rfl) hD ht hW⟩, hS.F ht⟩) hS.2.2 dX11_counted_14
def ow_k_allowance : List Cond := [.fieldLink RX11 26 "NearEnough" "told" "LNearEnough$Program;", .fieldLink RX11 284 "NearEnough$Program" "endKind" "[I", .fieldLink RX11 33 "NearEnough" "sheets" "LNearEnough$Sheets;", .fieldLink RX11 111 "NearEnough$Sheets" "count" "I", .fieldLink RX11 287 "NearEnough$Program" "endOff" "[I"]
def vs_k_allowance : List Cond := .code yX11_allowance cX11_allowance 2 (some .long) :: (ow_k_allowance ++ (wsX30 ++ (wsX70 ++ (wsX110))))
theorem vg_k_allowance : vs_k_allowance.all goodWord = true := by decide +kernel
theorem dd_k_allowance : yX11_allowance.cls = RX11 ∧ yX11_allowance.cls ≠ "java/lang/invoke/MethodHandle" ∧ yX11_allowance.cls ≠ "java/lang/invoke/VarHandle" ∧ (parseMethodDescriptor yX11_allowance.desc).map (fun d => d.parameters.length) = some 1 := by decide +kernel
def rm_k_allowance : Room := { frames := 0, cells := 0, slots := 0, locals := 0 }
set_option maxHeartbeats 4000000 in
set_option maxRecDepth 100000 in
theorem k_allowance (l : Launch) (dC : Nat → ClassId) (dI : Nat → Nat → Nat) (κ : CE) (sz : Nat) (σ : MS) (x : Int32) (hk : PInv κ) (hI : CInv σ) (hx0 : 0 ≤ x.toInt ∧ x.toInt < (pI κ 2).toInt) : Met l yX11_allowance vs_k_allowance rm_k_allowance (va_Pc [.ref (kA κ 0), .int x] (wSy dC dI (cW κ σ) (cT κ) sz)) (va_Ql (fun (r : Int64) (τ : MS) => τ = σ ∧ True) (fun (τ : MS) => wEn dC dI (va_A (cW κ σ) sz) (cW κ τ) []) (va_A (cW κ σ) sz)) 0 0 (va_A (cW κ σ) sz) := by
  refine Met.ofW (cc := cX11_allowance) (maxL := 2) (ret := (some .long)) (by decide +kernel) rfl ?_
  intro p e s m args below meth c s₁ B hml hv
  obtain ⟨rfl, hsz, hP, hK, hD0, hE⟩ := hv
  have hx := B.exec
  have hb := B.bytes
  have hr := B.returns
  have hts := atoms_spec (ws := vs_k_allowance) B.pre
  have hown : s.vm.findClass RX11 = some m.cls := findClass_of_methodNamed B.named
  have hlocks := B.notSynchronized
  subst hsz
  have hD := hD0.self (sz := s.heap.size)
  generalize hAe : va_A (cW κ σ) s.heap.size = A at hD ⊢
  have hA : ∀ q : Nat, s.heap.size ≤ q → A q := fun q h => by rw [← hAe]; exact Or.inr h
  have hl := lv_entry ([.ref (kA κ 0), .int x]) (n := 2) (Nat.le_of_ble_eq_true rfl)
  rw [lg_entry_eq]
  generalize (lg_sl ([.ref (kA κ 0), .int x]) ++ List.replicate (2 - (lg_sl ([.ref (kA κ 0), .int x])).length) Slot.unset).toArray = ls at hl ⊢
  have hl : lv_has ls 2 [(0, .ref (kA κ 0)), (1, .int x)] := hl
  have ho := fun w (h : w ∈ ow_k_allowance) => hts w (List.mem_cons_of_mem _ (List.mem_append_left _ h))
  have hin3 : ∀ w ∈ u_ws RX3 TX3 8, w ∈ vs_k_allowance := fun w h => (List.mem_cons_of_mem _ (List.mem_append_right _ (List.mem_append_left _ h)))
  have hin7 : ∀ w ∈ u_ws RX7 TX7 3, w ∈ vs_k_allowance := fun w h => (List.mem_cons_of_mem _ (List.mem_append_right _ (List.mem_append_right _ (List.mem_append_left _ h))))
  have hin11 : ∀ w ∈ u_ws RX11 TX11 17, w ∈ vs_k_allowance := fun w h => (List.mem_cons_of_mem _ (List.mem_append_right _ (List.mem_append_right _ (List.mem_append_right _ h))))
  refine zQ (fun Q hQ => ?_)
  refine zH (A := A) (ws := (cW κ σ)) (fun H hP hS => ?_) hP
  have hk0 := hk.1
  have hk1 := hk.2.1
  have hk2 := hk.2.2.1
  refine lv_aload_n hx hb dX11_allowance_0 rfl (lv_at hl 0 rfl) ?_
  refine va_get (D := (dC, dI)) (ci := 11) (v := .ref (kA κ 6)) (C := RX11) (T := TX11) (N := 17) hx hb hts hin11 hown hK hP 0 rfl rfl 4 (Nat.le_of_ble_eq_true rfl) (ho (.fieldLink RX11 26 "NearEnough" "told" "LNearEnough$Program;") (List.mem_of_getElem? (i := 0) rfl)) (fun _ h9 => h9) rfl dX11_allowance_1 ?_
  refine va_get (D := (dC, dI)) (ci := 3) (v := .ref (kA κ 11)) (C := RX3) (T := TX3) (N := 8) hx hb hts hin3 hown hK hP 6 rfl rfl 4 (Nat.le_of_ble_eq_true rfl) (ho (.fieldLink RX11 284 "NearEnough$Program" "endKind" "[I") (List.mem_of_getElem? (i := 1) rfl)) (fun _ h9 => h9) rfl dX11_allowance_4 ?_
  refine lv_iload_n hx hb dX11_allowance_7 rfl (lv_at hl 1 rfl) ?_
  have o1 : 0 ≤ x.toInt := by omega
  have o2 : x.toInt < ((4 : Nat) : Int) := by omega
  refine va_iald hx hb hK hP 11 9 rfl rfl (ti_inx o1 o2) dX11_allowance_8 ?_
  refine lv_topi (fun z1_ ez1_ => ?_)
  refine lv_iconst (v := 1) hx hb dX11_allowance_9 rg_6 ?_
  refine lv_icmp_ne (tgt := 35) hx hb dX11_allowance_10 rfl (fun c2_ => ?_) (fun c2_ => ?_)
  · have tc2_ := (show z1_.toInt ≠ 1 from ti_ne rfl rg_18 c2_)
    refine lv_aload_n hx hb dX11_allowance_35 rfl (lv_at hl 0 rfl) ?_
    refine va_get (D := (dC, dI)) (ci := 11) (v := .ref (kA κ 12)) (C := RX11) (T := TX11) (N := 17) hx hb hts hin11 hown hK hP 0 rfl rfl 5 (Nat.le_of_ble_eq_true rfl) (ho (.fieldLink RX11 33 "NearEnough" "sheets" "LNearEnough$Sheets;") (List.mem_of_getElem? (i := 2) rfl)) (fun _ h9 => h9) rfl dX11_allowance_36 ?_
    have bσ_12 : 0 ≤ (σ.1 12).toInt ∧ (σ.1 12).toInt ≤ 40 := hI.1 12
    refine va_get (D := (dC, dI)) (ci := 7) (v := .int (σ.1 12)) (C := RX7) (T := TX7) (N := 3) hx hb hts hin7 hown hK hP 12 rfl rfl 2 (Nat.le_of_ble_eq_true rfl) (ho (.fieldLink RX11 111 "NearEnough$Sheets" "count" "I") (List.mem_of_getElem? (i := 3) rfl)) (fun _ h9 => h9) rfl dX11_allowance_39 ?_
    refine lv_i2l hx hb dX11_allowance_42 rfl ?_
    refine lv_topl (fun y3_ ey3_ => ?_)
    rw [hQ]
    exact W.lret (v := y3_) hx hb hr (fun t ht hW => ⟨⟨y3_, σ, rfl, ⟨rfl, trivial⟩, wEn_of hP (hK.sub [] rfl) hD ht hW⟩, hS.F ht⟩) hS.2.2 dX11_allowance_43
  · have tc2_ := (show z1_.toInt = 1 from ti_eq rfl rg_18 c2_)
    refine lv_aload_n hx hb dX11_allowance_13 rfl (lv_at hl 0 rfl) ?_
    refine va_get (D := (dC, dI)) (ci := 11) (v := .ref (kA κ 6)) (C := RX11) (T := TX11) (N := 17) hx hb hts hin11 hown hK hP 0 rfl rfl 4 (Nat.le_of_ble_eq_true rfl) (ho (.fieldLink RX11 26 "NearEnough" "told" "LNearEnough$Program;") (List.mem_of_getElem? (i := 0) rfl)) (fun _ h9 => h9) rfl dX11_allowance_14 ?_
    refine va_get (D := (dC, dI)) (ci := 3) (v := .ref (kA κ 10)) (C := RX3) (T := TX3) (N := 8) hx hb hts hin3 hown hK hP 6 rfl rfl 3 (Nat.le_of_ble_eq_true rfl) (ho (.fieldLink RX11 287 "NearEnough$Program" "endOff" "[I") (List.mem_of_getElem? (i := 4) rfl)) (fun _ h9 => h9) rfl dX11_allowance_17 ?_
    refine lv_iload_n hx hb dX11_allowance_20 rfl (lv_at hl 1 rfl) ?_
    refine va_iald hx hb hK hP 10 8 rfl rfl (ti_inx o1 o2) dX11_allowance_21 ?_
    refine lv_topi (fun z4_ ez4_ => ?_)
    refine lv_i2l hx hb dX11_allowance_22 rfl ?_
    refine lv_topl (fun y5_ ey5_ => ?_)
    refine lv_aload_n hx hb dX11_allowance_23 rfl (lv_at hl 0 rfl) ?_
    refine va_get (D := (dC, dI)) (ci := 11) (v := .ref (kA κ 12)) (C := RX11) (T := TX11) (N := 17) hx hb hts hin11 hown hK hP 0 rfl rfl 5 (Nat.le_of_ble_eq_true rfl) (ho (.fieldLink RX11 33 "NearEnough" "sheets" "LNearEnough$Sheets;") (List.mem_of_getElem? (i := 2) rfl)) (fun _ h9 => h9) rfl dX11_allowance_24 ?_
    have bσ_12 : 0 ≤ (σ.1 12).toInt ∧ (σ.1 12).toInt ≤ 40 := hI.1 12
    refine va_get (D := (dC, dI)) (ci := 7) (v := .int (σ.1 12)) (C := RX7) (T := TX7) (N := 3) hx hb hts hin7 hown hK hP 12 rfl rfl 2 (Nat.le_of_ble_eq_true rfl) (ho (.fieldLink RX11 111 "NearEnough$Sheets" "count" "I") (List.mem_of_getElem? (i := 3) rfl)) (fun _ h9 => h9) rfl dX11_allowance_27 ?_
    refine lv_i2l hx hb dX11_allowance_30 rfl ?_
    refine lv_topl (fun y6_ ey6_ => ?_)
    refine lv_lmul hx hb dX11_allowance_31 ?_
    refine lv_topl (fun y7_ ey7_ => ?_)
    refine lv_goto (tgt := 43) hx hb dX11_allowance_32 rfl ?_
    rw [hQ]
    exact W.lret (v := y7_) hx hb hr (fun t ht hW => ⟨⟨y7_, σ, rfl, ⟨rfl, trivial⟩, wEn_of hP (hK.sub [] rfl) hD ht hW⟩, hS.F ht⟩) hS.2.2 dX11_allowance_43
def ow_k_isLetOn : List Cond := [.fieldLink RX11 78 "NearEnough" "tally" "[J", .fieldLink RX11 33 "NearEnough" "sheets" "LNearEnough$Sheets;", .fieldLink RX11 111 "NearEnough$Sheets" "count" "I", .fieldLink RX11 58 "NearEnough" "worker" "LNearEnough$Worker;", .fieldLink RX11 26 "NearEnough" "told" "LNearEnough$Program;", .fieldLink RX11 281 "NearEnough$Program" "endCount" "I", .fieldLink RX11 230 "NearEnough$Program" "endStep" "[I", .methodLink RX11 244 Lib.MathLoose.abs_long.x, .static Lib.MathLoose.abs_long.x, .initialized "java/lang/Math", .code Lib.MathLoose.abs_long.x Lib.MathLoose.abs_long.code 2 (some .long)]
def vs_k_isLetOn : List Cond := .code yX11_isLetOnSheets cX11_isLetOnSheets 3 (some .boolean) :: (ow_k_isLetOn ++ (([.methodLink RX11 293 yJ7_fill_d0a16, .static yJ7_fill_d0a16, .initialized yJ7_fill_d0a16.cls] : List Cond) ++ (vs_k_filltally ++ (([.methodLink RX11 159 yX11_lastStep, .instanceMethod yX11_lastStep, .selects RX11 yX11_lastStep yX11_lastStep, .initialized RX11] : List Cond) ++ (vs_k_lastStep ++ (([.methodLink RX11 214 yX10_workChanged, .instanceMethod yX10_workChanged, .selects RX10 yX10_workChanged yX10_workChanged, .initialized RX10] : List Cond) ++ (vs_k_workChanged ++ (([.methodLink RX11 237 yX10_errorAt, .instanceMethod yX10_errorAt, .selects RX10 yX10_errorAt yX10_errorAt, .initialized RX10] : List Cond) ++ (vs_k_errorAt ++ (([.methodLink RX11 299 yX11_counted, .instanceMethod yX11_counted, .selects RX11 yX11_counted yX11_counted, .initialized RX11] : List Cond) ++ (vs_k_counted ++ (([.methodLink RX11 303 yX11_allowance, .instanceMethod yX11_allowance, .selects RX11 yX11_allowance yX11_allowance, .initialized RX11] : List Cond) ++ (vs_k_allowance ++ (wsX30 ++ (wsX70 ++ (wsX110))))))))))))))))
theorem vg_k_isLetOn : vs_k_isLetOn.all goodWord = true := by decide +kernel
theorem dd_k_isLetOn : yX11_isLetOnSheets.cls = RX11 ∧ yX11_isLetOnSheets.cls ≠ "java/lang/invoke/MethodHandle" ∧ yX11_isLetOnSheets.cls ≠ "java/lang/invoke/VarHandle" ∧ (parseMethodDescriptor yX11_isLetOnSheets.desc).map (fun d => d.parameters.length) = some 0 := by decide +kernel
def rm_k_isLetOn : Room := { frames := 5, cells := 0, slots := 0, locals := 137 }
theorem gd_k_isLetOn_293_k_filltally : GoodIn vs_k_isLetOn (va_wsS RX11 293 yJ7_fill_d0a16 vs_k_filltally) := goodIn_app (goodIn_sub (fun w h => (List.mem_cons_of_mem _ (List.mem_append_right _ (List.mem_append_left _ h)))) (by decide +kernel)) (goodIn_sub (fun w h => (List.mem_cons_of_mem _ (List.mem_append_right _ (List.mem_append_right _ (List.mem_append_left _ h))))) vg_k_filltally)
theorem gd_k_isLetOn_159_k_lastStep : GoodIn vs_k_isLetOn (wsV RX11 159 RX11 yX11_lastStep vs_k_lastStep) := goodIn_app (goodIn_sub (fun w h => (List.mem_cons_of_mem _ (List.mem_append_right _ (List.mem_append_right _ (List.mem_append_right _ (List.mem_append_left _ h)))))) (by decide +kernel)) (goodIn_sub (fun w h => (List.mem_cons_of_mem _ (List.mem_append_right _ (List.mem_append_right _ (List.mem_append_right _ (List.mem_append_right _ (List.mem_append_left _ h))))))) vg_k_lastStep)
theorem gd_k_isLetOn_214_k_workChanged : GoodIn vs_k_isLetOn (wsV RX11 214 RX10 yX10_workChanged vs_k_workChanged) := goodIn_app (goodIn_sub (fun w h => (List.mem_cons_of_mem _ (List.mem_append_right _ (List.mem_append_right _ (List.mem_append_right _ (List.mem_append_right _ (List.mem_append_right _ (List.mem_append_left _ h)))))))) (by decide +kernel)) (goodIn_sub (fun w h => (List.mem_cons_of_mem _ (List.mem_append_right _ (List.mem_append_right _ (List.mem_append_right _ (List.mem_append_right _ (List.mem_append_right _ (List.mem_append_right _ (List.mem_append_left _ h))))))))) vg_k_workChanged)
theorem gd_k_isLetOn_237_k_errorAt : GoodIn vs_k_isLetOn (wsV RX11 237 RX10 yX10_errorAt vs_k_errorAt) := goodIn_app (goodIn_sub (fun w h => (List.mem_cons_of_mem _ (List.mem_append_right _ (List.mem_append_right _ (List.mem_append_right _ (List.mem_append_right _ (List.mem_append_right _ (List.mem_append_right _ (List.mem_append_right _ (List.mem_append_left _ h)))))))))) (by decide +kernel)) (goodIn_sub (fun w h => (List.mem_cons_of_mem _ (List.mem_append_right _ (List.mem_append_right _ (List.mem_append_right _ (List.mem_append_right _ (List.mem_append_right _ (List.mem_append_right _ (List.mem_append_right _ (List.mem_append_right _ (List.mem_append_left _ h))))))))))) vg_k_errorAt)
theorem gd_k_isLetOn_299_k_counted : GoodIn vs_k_isLetOn (wsV RX11 299 RX11 yX11_counted vs_k_counted) := goodIn_app (goodIn_sub (fun w h => (List.mem_cons_of_mem _ (List.mem_append_right _ (List.mem_append_right _ (List.mem_append_right _ (List.mem_append_right _ (List.mem_append_right _ (List.mem_append_right _ (List.mem_append_right _ (List.mem_append_right _ (List.mem_append_right _ (List.mem_append_left _ h)))))))))))) (by decide +kernel)) (goodIn_sub (fun w h => (List.mem_cons_of_mem _ (List.mem_append_right _ (List.mem_append_right _ (List.mem_append_right _ (List.mem_append_right _ (List.mem_append_right _ (List.mem_append_right _ (List.mem_append_right _ (List.mem_append_right _ (List.mem_append_right _ (List.mem_append_right _ (List.mem_append_left _ h))))))))))))) vg_k_counted)
theorem gd_k_isLetOn_303_k_allowance : GoodIn vs_k_isLetOn (wsV RX11 303 RX11 yX11_allowance vs_k_allowance) := goodIn_app (goodIn_sub (fun w h => (List.mem_cons_of_mem _ (List.mem_append_right _ (List.mem_append_right _ (List.mem_append_right _ (List.mem_append_right _ (List.mem_append_right _ (List.mem_append_right _ (List.mem_append_right _ (List.mem_append_right _ (List.mem_append_right _ (List.mem_append_right _ (List.mem_append_right _ (List.mem_append_left _ h)))))))))))))) (by decide +kernel)) (goodIn_sub (fun w h => (List.mem_cons_of_mem _ (List.mem_append_right _ (List.mem_append_right _ (List.mem_append_right _ (List.mem_append_right _ (List.mem_append_right _ (List.mem_append_right _ (List.mem_append_right _ (List.mem_append_right _ (List.mem_append_right _ (List.mem_append_right _ (List.mem_append_right _ (List.mem_append_right _ (List.mem_append_left _ h))))))))))))))) vg_k_allowance)
set_option maxHeartbeats 4000000 in
set_option maxRecDepth 100000 in
theorem k_isLetOn (l : Launch) (dC : Nat → ClassId) (dI : Nat → Nat → Nat) (κ : CE) (sz : Nat) (σ : MS) (hk : PInv κ) (hI : CInv σ)  : Met l yX11_isLetOnSheets vs_k_isLetOn rm_k_isLetOn (va_Pc [.ref (kA κ 0)] (wSy dC dI (cW κ σ) (cT κ) sz)) (va_Qi (fun (r : Int32) (τ : MS) => CInv τ ∧ (r.toInt = 0 ∨ r.toInt = 1)) (fun (τ : MS) => wEn dC dI (va_A (cW κ σ) sz) (cW κ τ) []) (va_A (cW κ σ) sz)) 0 0 (va_A (cW κ σ) sz) := by
  refine Met.ofW (cc := cX11_isLetOnSheets) (maxL := 3) (ret := (some .boolean)) (by decide +kernel) rfl ?_
  intro p e s m args below meth c s₁ B hml hv
  obtain ⟨rfl, hsz, hP, hK, hD0, hE⟩ := hv
  have hx := B.exec
  have hb := B.bytes
  have hr := B.returns
  have hts := atoms_spec (ws := vs_k_isLetOn) B.pre
  have hown : s.vm.findClass RX11 = some m.cls := findClass_of_methodNamed B.named
  have hlocks := B.notSynchronized
  subst hsz
  have hD := hD0.self (sz := s.heap.size)
  generalize hAe : va_A (cW κ σ) s.heap.size = A at hD ⊢
  have hA : ∀ q : Nat, s.heap.size ≤ q → A q := fun q h => by rw [← hAe]; exact Or.inr h
  have hl := lv_entry ([.ref (kA κ 0)]) (n := 3) (Nat.le_of_ble_eq_true rfl)
  rw [lg_entry_eq]
  generalize (lg_sl ([.ref (kA κ 0)]) ++ List.replicate (3 - (lg_sl ([.ref (kA κ 0)])).length) Slot.unset).toArray = ls at hl ⊢
  have hl : lv_has ls 3 [(0, .ref (kA κ 0))] := hl
  have ho := fun w (h : w ∈ ow_k_isLetOn) => hts w (List.mem_cons_of_mem _ (List.mem_append_left _ h))
  have hin3 : ∀ w ∈ u_ws RX3 TX3 8, w ∈ vs_k_isLetOn := fun w h => (List.mem_cons_of_mem _ (List.mem_append_right _ (List.mem_append_right _ (List.mem_append_right _ (List.mem_append_right _ (List.mem_append_right _ (List.mem_append_right _ (List.mem_append_right _ (List.mem_append_right _ (List.mem_append_right _ (List.mem_append_right _ (List.mem_append_right _ (List.mem_append_right _ (List.mem_append_right _ (List.mem_append_left _ h)))))))))))))))
  have hin7 : ∀ w ∈ u_ws RX7 TX7 3, w ∈ vs_k_isLetOn := fun w h => (List.mem_cons_of_mem _ (List.mem_append_right _ (List.mem_append_right _ (List.mem_append_right _ (List.mem_append_right _ (List.mem_append_right _ (List.mem_append_right _ (List.mem_append_right _ (List.mem_append_right _ (List.mem_append_right _ (List.mem_append_right _ (List.mem_append_right _ (List.mem_append_right _ (List.mem_append_right _ (List.mem_append_right _ (List.mem_append_left _ h))))))))))))))))
  have hin11 : ∀ w ∈ u_ws RX11 TX11 17, w ∈ vs_k_isLetOn := fun w h => (List.mem_cons_of_mem _ (List.mem_append_right _ (List.mem_append_right _ (List.mem_append_right _ (List.mem_append_right _ (List.mem_append_right _ (List.mem_append_right _ (List.mem_append_right _ (List.mem_append_right _ (List.mem_append_right _ (List.mem_append_right _ (List.mem_append_right _ (List.mem_append_right _ (List.mem_append_right _ (List.mem_append_right _ (List.mem_append_right _ h))))))))))))))))
  refine zQ (fun Q hQ => ?_)
  refine zH (A := A) (ws := (cW κ σ)) (fun H hP hS => ?_) hP
  have hk0 := hk.1
  have hk1 := hk.2.1
  have hk2 := hk.2.2.1
  refine lv_aload_n hx hb dX11_isLetOnSheets_0 rfl (lv_at hl 0 rfl) ?_
  refine va_get (D := (dC, dI)) (ci := 11) (v := .ref (kA κ 5)) (C := RX11) (T := TX11) (N := 17) hx hb hts hin11 hown hK hP 0 rfl rfl 14 (Nat.le_of_ble_eq_true rfl) (ho (.fieldLink RX11 78 "NearEnough" "tally" "[J") (List.mem_of_getElem? (i := 0) rfl)) (fun _ h9 => h9) rfl dX11_isLetOnSheets_1 ?_
  refine lv_lconst (v := 0) hx hb dX11_isLetOnSheets_4 (by decide) ?_
  refine zy_v (va_runS (As := [.ref (kA κ 5), .long 0]) (rest := []) ⟨hx, hb, hml, hown, hts⟩ (k_filltally l dC dI κ H.size σ  hk hI ) (va_cwS 2 hts gd_k_isLetOn_293_k_filltally rfl rfl rfl dd_k_filltally ⟨Nat.le_of_ble_eq_true rfl, Nat.le_of_ble_eq_true rfl⟩) (preSy hP hK hD hE) rfl rfl hl.1 rfl (lv_room (Nat.le_of_ble_eq_true rfl)) dX11_isLetOnSheets_5 ⟨Nat.le_of_ble_eq_true rfl, Nat.le_of_ble_eq_true rfl⟩) hD hS hA (fun τ2_ H locs hq hP hD hS => ?_)
  obtain ⟨hτ2_, q3_⟩ := hq
  refine W.widen (k := 0) (n := 0) (Nat.le_of_ble_eq_true rfl) (Nat.le_of_ble_eq_true rfl) ?_
  refine lv_iconst (v := 0) hx hb dX11_isLetOnSheets_8 rg_0 ?_
  refine lv_istore_n (lv' := [(1, .int 0), (0, .ref (kA κ 0))]) hx hb dX11_isLetOnSheets_9 rfl hl (Nat.le_of_ble_eq_true rfl) rfl (fun ls hl => ?_)
  have pt10_ : ∀ (n10_ : Nat) (σ10_ : MS) (v1_ : Int32) (H : Heap) (locs : List Loc) (ls : Array Slot), (40 - v1_.toInt).toNat < n10_ → CInv σ10_ → (0 ≤ v1_.toInt) → va_P (dC, dI) vwCl (cW κ σ10_) H → va_D A (cW κ σ10_) → va_S A s.heap H locs → lv_has ls 3 [(1, .int v1_), (0, .ref (kA κ 0))] → W p l e (headSpec vs_k_isLetOn rm_k_isLetOn).room s m #[Value.ref (kA κ 0)] below meth c H locs 0 0 Q (F0 m 10 ls []) := by
    intro n10_
    induction n10_ with
    | zero => intro σ10_ v1_ H locs ls hn10_ hIσ10_ hf10_0_ hP hD hS hl; exact absurd hn10_ (Nat.not_lt_zero _)
    | succ n10_ ih10_ =>
      intro σ10_ v1_ H locs ls hn10_ hIσ10_ hf10_0_ hP hD hS hl
      refine lv_iload_n hx hb dX11_isLetOnSheets_10 rfl (lv_at hl 0 rfl) ?_
      refine lv_aload_n hx hb dX11_isLetOnSheets_11 rfl (lv_at hl 1 rfl) ?_
      refine va_get (D := (dC, dI)) (ci := 11) (v := .ref (kA κ 12)) (C := RX11) (T := TX11) (N := 17) hx hb hts hin11 hown hK hP 0 rfl rfl 5 (Nat.le_of_ble_eq_true rfl) (ho (.fieldLink RX11 33 "NearEnough" "sheets" "LNearEnough$Sheets;") (List.mem_of_getElem? (i := 1) rfl)) (fun _ h9 => h9) rfl dX11_isLetOnSheets_12 ?_
      have bσ10__12 : 0 ≤ (σ10_.1 12).toInt ∧ (σ10_.1 12).toInt ≤ 40 := hIσ10_.1 12
      refine va_get (D := (dC, dI)) (ci := 7) (v := .int (σ10_.1 12)) (C := RX7) (T := TX7) (N := 3) hx hb hts hin7 hown hK hP 12 rfl rfl 2 (Nat.le_of_ble_eq_true rfl) (ho (.fieldLink RX11 111 "NearEnough$Sheets" "count" "I") (List.mem_of_getElem? (i := 2) rfl)) (fun _ h9 => h9) rfl dX11_isLetOnSheets_15 ?_
      refine lv_icmp_ge (tgt := 110) hx hb dX11_isLetOnSheets_18 rfl (fun c4_ => ?_) (fun c4_ => ?_)
      · have tc4_ := (show (σ10_.1 12).toInt ≤ v1_.toInt from ti_le rfl rfl c4_)
        refine lv_iconst (v := 1) hx hb dX11_isLetOnSheets_110 rg_6 ?_
        have kk5_ : (1 : Int32).toInt = 1 := rg_18
        have o1 : (1 : Int32).toInt = 0 ∨ (1 : Int32).toInt = 1 := by omega
        rw [hQ]
        exact W.zret (v := 1) hx hb hr rfl (fun t ht hW => ⟨⟨1, σ10_, rfl, ⟨hIσ10_, o1⟩, wEn_of hP (hK.sub [] rfl) hD ht hW⟩, hS.F ht⟩) hS.2.2 dX11_isLetOnSheets_111
      · have tc4_ := (show v1_.toInt < (σ10_.1 12).toInt from ti_nle rfl rfl c4_)
        refine lv_aload_n hx hb dX11_isLetOnSheets_21 rfl (lv_at hl 1 rfl) ?_
        refine va_get (D := (dC, dI)) (ci := 11) (v := .ref (kA κ 24)) (C := RX11) (T := TX11) (N := 17) hx hb hts hin11 hown hK hP 0 rfl rfl 8 (Nat.le_of_ble_eq_true rfl) (ho (.fieldLink RX11 58 "NearEnough" "worker" "LNearEnough$Worker;") (List.mem_of_getElem? (i := 3) rfl)) (fun _ h9 => h9) rfl dX11_isLetOnSheets_22 ?_
        refine lv_iload_n hx hb dX11_isLetOnSheets_25 rfl (lv_at hl 0 rfl) ?_
        refine lv_iconst (v := 0) hx hb dX11_isLetOnSheets_26 rg_0 ?_
        refine lv_aload_n hx hb dX11_isLetOnSheets_27 rfl (lv_at hl 1 rfl) ?_
        refine zy_i (va_runV (As := []) (rest := [.int 0, .int v1_, .ref (kA κ 24)]) ⟨hx, hb, hml, hown, hts⟩ (k_lastStep l dC dI κ H.size σ10_  hk hIσ10_ ) (cwV 0 hts gd_k_isLetOn_159_k_lastStep rfl rfl rfl dd_k_lastStep ⟨Nat.le_of_ble_eq_true rfl, Nat.le_of_ble_eq_true rfl⟩) (preVy hP hK hD hE (ci := 11) (q0 := 0) rfl rfl) rfl rfl hl.1 rfl (lv_room (Nat.le_of_ble_eq_true rfl)) dX11_isLetOnSheets_28 ⟨Nat.le_of_ble_eq_true rfl, Nat.le_of_ble_eq_true rfl⟩) hD hS hA (fun z6_ τ7_ H locs hq hP hD hS => ?_)
        obtain ⟨hτ7_, q8_⟩ := hq
        rw [hτ7_] at hP hD
        have q8_ : z6_.toInt = (pI κ 1).toInt - 1 := q8_
        refine W.widen (k := 0) (n := 0) (Nat.le_of_ble_eq_true rfl) (Nat.le_of_ble_eq_true rfl) ?_
        have kk9_ : (0 : Int32).toInt = 0 := rg_11
        have o2 : 0 ≤ v1_.toInt := by omega
        have o3 : v1_.toInt ≤ 40 := by omega
        have o4 : 0 ≤ (0 : Int32).toInt := by omega
        have o5 : (0 : Int32).toInt ≤ 12 := by omega
        have o6 : -1 ≤ z6_.toInt := by omega
        have o7 : z6_.toInt < (pI κ 1).toInt := by omega
        refine zy_v (va_runV (As := [.int v1_, .int 0, .int z6_]) (rest := []) ⟨hx, hb, hml, hown, hts⟩ (k_workChanged l dC dI κ H.size σ10_ v1_ 0 z6_ hk hIσ10_ ⟨o2, o3⟩ ⟨o4, o5⟩ ⟨o6, o7⟩) (cwV 3 hts gd_k_isLetOn_214_k_workChanged rfl rfl rfl dd_k_workChanged ⟨Nat.le_of_ble_eq_true rfl, Nat.le_of_ble_eq_true rfl⟩) (preVy hP hK hD hE (ci := 10) (q0 := 24) rfl rfl) rfl rfl hl.1 rfl (lv_room (Nat.le_of_ble_eq_true rfl)) dX11_isLetOnSheets_31 ⟨Nat.le_of_ble_eq_true rfl, Nat.le_of_ble_eq_true rfl⟩) hD hS hA (fun τ11_ H locs hq hP hD hS => ?_)
        obtain ⟨hτ11_, q12_⟩ := hq
        refine W.widen (k := 0) (n := 0) (Nat.le_of_ble_eq_true rfl) (Nat.le_of_ble_eq_true rfl) ?_
        refine lv_iconst (v := 0) hx hb dX11_isLetOnSheets_34 rg_0 ?_
        refine lv_istore_n (lv' := [(2, .int 0), (1, .int v1_), (0, .ref (kA κ 0))]) hx hb dX11_isLetOnSheets_35 rfl hl (Nat.le_of_ble_eq_true rfl) rfl (fun ls hl => ?_)
        have pt36_ : ∀ (n36_ : Nat) (σ36_ : MS) (v2_ : Int32) (H : Heap) (locs : List Loc) (ls : Array Slot), (4 - v2_.toInt).toNat < n36_ → CInv σ36_ → (0 ≤ v2_.toInt) → va_P (dC, dI) vwCl (cW κ σ36_) H → va_D A (cW κ σ36_) → va_S A s.heap H locs → lv_has ls 3 [(2, .int v2_), (1, .int v1_), (0, .ref (kA κ 0))] → W p l e (headSpec vs_k_isLetOn rm_k_isLetOn).room s m #[Value.ref (kA κ 0)] below meth c H locs 0 0 Q (F0 m 36 ls []) := by
          intro n36_
          induction n36_ with
          | zero => intro σ36_ v2_ H locs ls hn36_ hIσ36_ hf36_0_ hP hD hS hl; exact absurd hn36_ (Nat.not_lt_zero _)
          | succ n36_ ih36_ =>
            intro σ36_ v2_ H locs ls hn36_ hIσ36_ hf36_0_ hP hD hS hl
            refine lv_iload_n hx hb dX11_isLetOnSheets_36 rfl (lv_at hl 0 rfl) ?_
            refine lv_aload_n hx hb dX11_isLetOnSheets_37 rfl (lv_at hl 2 rfl) ?_
            refine va_get (D := (dC, dI)) (ci := 11) (v := .ref (kA κ 6)) (C := RX11) (T := TX11) (N := 17) hx hb hts hin11 hown hK hP 0 rfl rfl 4 (Nat.le_of_ble_eq_true rfl) (ho (.fieldLink RX11 26 "NearEnough" "told" "LNearEnough$Program;") (List.mem_of_getElem? (i := 4) rfl)) (fun _ h9 => h9) rfl dX11_isLetOnSheets_38 ?_
            refine va_get (D := (dC, dI)) (ci := 3) (v := .int (pI κ 2)) (C := RX3) (T := TX3) (N := 8) hx hb hts hin3 hown hK hP 6 rfl rfl 7 (Nat.le_of_ble_eq_true rfl) (ho (.fieldLink RX11 281 "NearEnough$Program" "endCount" "I") (List.mem_of_getElem? (i := 5) rfl)) (fun _ h9 => h9) rfl dX11_isLetOnSheets_41 ?_
            refine lv_icmp_ge (tgt := 104) hx hb dX11_isLetOnSheets_44 rfl (fun c13_ => ?_) (fun c13_ => ?_)
            · have tc13_ := (show (pI κ 2).toInt ≤ v2_.toInt from ti_le rfl rfl c13_)
              obtain ⟨z14_, ez14_⟩ : ∃ y : Int32, y = v1_ + 1 := ⟨_, rfl⟩
              have o8 : -2147483648 ≤ v1_.toInt + 1 := by omega
              have o9 : v1_.toInt + 1 ≤ 2147483647 := by omega
              have tz14_ := ti_add ez14_ rfl rg_18 o8 o9
              refine lv_iinc (v := z14_) (lv' := [(1, .int z14_), (2, .int v2_), (0, .ref (kA κ 0))]) hx hb dX11_isLetOnSheets_104 hl (k := 1) rfl (iincp ez14_ rg_6) (Nat.le_of_ble_eq_true rfl) rfl (fun ls hl => ?_)
              refine lv_goto (tgt := 10) hx hb dX11_isLetOnSheets_107 rfl ?_
              have o10 : (40 - z14_.toInt).toNat < n10_ := by omega
              have o11 : 0 ≤ z14_.toInt := by omega
              exact ih10_ σ36_ z14_ _ _ _ o10 hIσ36_ o11 hP hD hS (lv_sub hl [0, 2] rfl)
            · have tc13_ := (show v2_.toInt < (pI κ 2).toInt from ti_nle rfl rfl c13_)
              refine lv_aload_n hx hb dX11_isLetOnSheets_47 rfl (lv_at hl 2 rfl) ?_
              refine va_get (D := (dC, dI)) (ci := 11) (v := .ref (kA κ 5)) (C := RX11) (T := TX11) (N := 17) hx hb hts hin11 hown hK hP 0 rfl rfl 14 (Nat.le_of_ble_eq_true rfl) (ho (.fieldLink RX11 78 "NearEnough" "tally" "[J") (List.mem_of_getElem? (i := 0) rfl)) (fun _ h9 => h9) rfl dX11_isLetOnSheets_48 ?_
              refine lv_iload_n hx hb dX11_isLetOnSheets_51 rfl (lv_at hl 0 rfl) ?_
              refine lv_dup2_11 hx hb dX11_isLetOnSheets_52 rfl rfl ?_
              have o12 : 0 ≤ v2_.toInt := by omega
              have o13 : v2_.toInt < ((4 : Nat) : Int) := by omega
              refine va_lald hx hb hK hP 5 4 rfl rfl (ti_inx o12 o13) dX11_isLetOnSheets_53 ?_
              refine lv_topl (fun y15_ ey15_ => ?_)
              refine lv_aload_n hx hb dX11_isLetOnSheets_54 rfl (lv_at hl 2 rfl) ?_
              refine lv_iload_n hx hb dX11_isLetOnSheets_55 rfl (lv_at hl 0 rfl) ?_
              refine lv_aload_n hx hb dX11_isLetOnSheets_56 rfl (lv_at hl 2 rfl) ?_
              refine va_get (D := (dC, dI)) (ci := 11) (v := .ref (kA κ 24)) (C := RX11) (T := TX11) (N := 17) hx hb hts hin11 hown hK hP 0 rfl rfl 8 (Nat.le_of_ble_eq_true rfl) (ho (.fieldLink RX11 58 "NearEnough" "worker" "LNearEnough$Worker;") (List.mem_of_getElem? (i := 3) rfl)) (fun _ h9 => h9) rfl dX11_isLetOnSheets_57 ?_
              refine lv_iload_n hx hb dX11_isLetOnSheets_60 rfl (lv_at hl 1 rfl) ?_
              refine lv_aload_n hx hb dX11_isLetOnSheets_61 rfl (lv_at hl 2 rfl) ?_
              refine va_get (D := (dC, dI)) (ci := 11) (v := .ref (kA κ 6)) (C := RX11) (T := TX11) (N := 17) hx hb hts hin11 hown hK hP 0 rfl rfl 4 (Nat.le_of_ble_eq_true rfl) (ho (.fieldLink RX11 26 "NearEnough" "told" "LNearEnough$Program;") (List.mem_of_getElem? (i := 4) rfl)) (fun _ h9 => h9) rfl dX11_isLetOnSheets_62 ?_
              refine va_get (D := (dC, dI)) (ci := 3) (v := .ref (kA κ 9)) (C := RX3) (T := TX3) (N := 8) hx hb hts hin3 hown hK hP 6 rfl rfl 2 (Nat.le_of_ble_eq_true rfl) (ho (.fieldLink RX11 230 "NearEnough$Program" "endStep" "[I") (List.mem_of_getElem? (i := 6) rfl)) (fun _ h9 => h9) rfl dX11_isLetOnSheets_65 ?_
              refine lv_iload_n hx hb dX11_isLetOnSheets_68 rfl (lv_at hl 0 rfl) ?_
              refine va_iald hx hb hK hP 9 7 rfl rfl (ti_inx o12 o13) dX11_isLetOnSheets_69 ?_
              refine lv_topi (fun z16_ ez16_ => ?_)
              have o14 : v2_.toInt < (pI κ 2).toInt := by omega
              have bz16_ := hk.en ez16_ o12 o14
              have o15 : 0 ≤ z16_.toInt := by omega
              have o16 : z16_.toInt ≤ 11 := by omega
              refine zy_l (va_runV (As := [.int v1_, .int z16_]) (rest := [.int v2_, .ref (kA κ 0), .long y15_, .int v2_, .ref (kA κ 5)]) ⟨hx, hb, hml, hown, hts⟩ (k_errorAt l dC dI κ H.size σ36_ v1_ z16_ hk hIσ36_ ⟨o2, o3⟩ ⟨o15, o16⟩) (cwV 2 hts gd_k_isLetOn_237_k_errorAt rfl rfl rfl dd_k_errorAt ⟨Nat.le_of_ble_eq_true rfl, Nat.le_of_ble_eq_true rfl⟩) (preVy hP hK hD hE (ci := 10) (q0 := 24) rfl rfl) rfl rfl hl.1 rfl (lv_room (Nat.le_of_ble_eq_true rfl)) dX11_isLetOnSheets_70 ⟨Nat.le_of_ble_eq_true rfl, Nat.le_of_ble_eq_true rfl⟩) hD hS hA (fun y17_ τ18_ H locs hq hP hD hS => ?_)
              obtain ⟨hτ18_, q19_⟩ := hq
              rw [hτ18_] at hP hD
              refine W.widen (k := 0) (n := 0) (Nat.le_of_ble_eq_true rfl) (Nat.le_of_ble_eq_true rfl) ?_
              refine va_mabs_long hx hb (hml.trans hl.1.symm) hown (ho (.methodLink RX11 244 Lib.MathLoose.abs_long.x) (List.mem_of_getElem? (i := 7) rfl)) (ho (.static Lib.MathLoose.abs_long.x) (List.mem_of_getElem? (i := 8) rfl)) (ho (.initialized "java/lang/Math") (List.mem_of_getElem? (i := 9) rfl)) (ho (.code Lib.MathLoose.abs_long.x Lib.MathLoose.abs_long.code 2 (some .long)) (List.mem_of_getElem? (i := 10) rfl)) (Nat.le_of_ble_eq_true rfl) (Nat.le_of_ble_eq_true rfl) (Nat.le_of_ble_eq_true rfl) (Nat.le_of_ble_eq_true rfl) dX11_isLetOnSheets_73 ?_
              refine lv_topl (fun y20_ ey20_ => ?_)
              refine zy_l (va_runV (As := [.int v2_, .long y20_]) (rest := [.long y15_, .int v2_, .ref (kA κ 5)]) ⟨hx, hb, hml, hown, hts⟩ (k_counted l dC dI κ H.size σ36_ v2_ y20_ hk hIσ36_ ⟨o12, o14⟩) (cwV 2 hts gd_k_isLetOn_299_k_counted rfl rfl rfl dd_k_counted ⟨Nat.le_of_ble_eq_true rfl, Nat.le_of_ble_eq_true rfl⟩) (preVy hP hK hD hE (ci := 11) (q0 := 0) rfl rfl) rfl rfl hl.1 rfl (lv_room (Nat.le_of_ble_eq_true rfl)) dX11_isLetOnSheets_76 ⟨Nat.le_of_ble_eq_true rfl, Nat.le_of_ble_eq_true rfl⟩) hD hS hA (fun y21_ τ22_ H locs hq hP hD hS => ?_)
              obtain ⟨hτ22_, q23_⟩ := hq
              rw [hτ22_] at hP hD
              refine W.widen (k := 0) (n := 0) (Nat.le_of_ble_eq_true rfl) (Nat.le_of_ble_eq_true rfl) ?_
              refine lv_ladd hx hb dX11_isLetOnSheets_79 ?_
              refine lv_topl (fun y24_ ey24_ => ?_)
              refine va_last hx hb hK hP hD hS 5 4 rfl rfl (ti_inx o12 o13) dX11_isLetOnSheets_80 (fun H locs hP hD hS => ?_)
              obtain ⟨f25_, ef25_⟩ : ∃ f9 : Nat → Int64, f9 = vp_updL (σ36_.2.2.1 9) (Int32.toNatClampNeg v2_) y24_ := ⟨_, rfl⟩
              have hP : va_P (dC, dI) vwCl (cW κ (sJ σ36_ 9 f25_)) H := by rw [ef25_]; exact hP
              have hD : va_D A (cW κ (sJ σ36_ 9 f25_)) := by rw [ef25_]; exact hD
              refine lv_aload_n hx hb dX11_isLetOnSheets_81 rfl (lv_at hl 2 rfl) ?_
              refine va_get (D := (dC, dI)) (ci := 11) (v := .ref (kA κ 5)) (C := RX11) (T := TX11) (N := 17) hx hb hts hin11 hown hK hP 0 rfl rfl 14 (Nat.le_of_ble_eq_true rfl) (ho (.fieldLink RX11 78 "NearEnough" "tally" "[J") (List.mem_of_getElem? (i := 0) rfl)) (fun _ h9 => h9) rfl dX11_isLetOnSheets_82 ?_
              refine lv_iload_n hx hb dX11_isLetOnSheets_85 rfl (lv_at hl 0 rfl) ?_
              refine va_lald hx hb hK hP 5 4 rfl rfl (ti_inx o12 o13) dX11_isLetOnSheets_86 ?_
              refine lv_topl (fun y26_ ey26_ => ?_)
              refine lv_aload_n hx hb dX11_isLetOnSheets_87 rfl (lv_at hl 2 rfl) ?_
              refine lv_iload_n hx hb dX11_isLetOnSheets_88 rfl (lv_at hl 0 rfl) ?_
              refine zy_l (va_runV (As := [.int v2_]) (rest := [.long y26_]) ⟨hx, hb, hml, hown, hts⟩ (k_allowance l dC dI κ H.size (sJ σ36_ 9 f25_) v2_ hk (CInv.sJ hIσ36_) ⟨o12, o14⟩) (cwV 1 hts gd_k_isLetOn_303_k_allowance rfl rfl rfl dd_k_allowance ⟨Nat.le_of_ble_eq_true rfl, Nat.le_of_ble_eq_true rfl⟩) (preVy hP hK hD hE (ci := 11) (q0 := 0) rfl rfl) rfl rfl hl.1 rfl (lv_room (Nat.le_of_ble_eq_true rfl)) dX11_isLetOnSheets_89 ⟨Nat.le_of_ble_eq_true rfl, Nat.le_of_ble_eq_true rfl⟩) hD hS hA (fun y27_ τ28_ H locs hq hP hD hS => ?_)
              obtain ⟨hτ28_, q29_⟩ := hq
              rw [hτ28_] at hP hD
              refine W.widen (k := 0) (n := 0) (Nat.le_of_ble_eq_true rfl) (Nat.le_of_ble_eq_true rfl) ?_
              refine W.lcmp hx hb dX11_isLetOnSheets_92 ?_
              refine lv_topi (fun z30_ ez30_ => ?_)
              refine lv_if_le (tgt := 98) hx hb dX11_isLetOnSheets_93 rfl (fun c31_ => ?_) (fun c31_ => ?_)
              · have tc31_ := (show z30_.toInt ≤ 0 from ti_le rfl rg_11 c31_)
                have lc31_ : y26_ ≤ y27_ := (lg_cmp_le y26_ y27_).mp (by rw [← ez30_]; exact c31_)
                obtain ⟨z32_, ez32_⟩ : ∃ y : Int32, y = v2_ + 1 := ⟨_, rfl⟩
                have o17 : -2147483648 ≤ v2_.toInt + 1 := by omega
                have o18 : v2_.toInt + 1 ≤ 2147483647 := by omega
                have tz32_ := ti_add ez32_ rfl rg_18 o17 o18
                refine lv_iinc (v := z32_) (lv' := [(2, .int z32_), (1, .int v1_), (0, .ref (kA κ 0))]) hx hb dX11_isLetOnSheets_98 hl (k := 0) rfl (iincp ez32_ rg_6) (Nat.le_of_ble_eq_true rfl) rfl (fun ls hl => ?_)
                refine lv_goto (tgt := 36) hx hb dX11_isLetOnSheets_101 rfl ?_
                have o19 : (4 - z32_.toInt).toNat < n36_ := by omega
                have o20 : 0 ≤ z32_.toInt := by omega
                exact ih36_ (sJ σ36_ 9 f25_) z32_ _ _ _ o19 (CInv.sJ hIσ36_) o20 hP hD hS (lv_sub hl [0, 1, 2] rfl)
              · have tc31_ := (show 0 < z30_.toInt from ti_nle rfl rg_11 c31_)
                have lc31_ : ¬ y26_ ≤ y27_ := fun h => c31_ (by rw [ez30_]; exact (lg_cmp_le y26_ y27_).mpr h)
                refine lv_iconst (v := 0) hx hb dX11_isLetOnSheets_96 rg_0 ?_
                have kk33_ : (0 : Int32).toInt = 0 := rg_11
                have o21 : (0 : Int32).toInt = 0 ∨ (0 : Int32).toInt = 1 := by omega
                rw [hQ]
                exact W.zret (v := 0) hx hb hr rfl (fun t ht hW => ⟨⟨0, (sJ σ36_ 9 f25_), rfl, ⟨(CInv.sJ hIσ36_), o21⟩, wEn_of hP (hK.sub [] rfl) hD ht hW⟩, hS.F ht⟩) hS.2.2 dX11_isLetOnSheets_97
        have kk34_ : (0 : Int32).toInt = 0 := rg_11
        exact pt36_ _ τ11_ 0 _ _ _ (Nat.lt_succ_self _) hτ11_ o4 hP hD hS (lv_sub hl [0, 1, 2] rfl)
  have kk35_ : (0 : Int32).toInt = 0 := rg_11
  have o22 : 0 ≤ (0 : Int32).toInt := by omega
  exact pt10_ _ τ2_ 0 _ _ _ (Nat.lt_succ_self _) hτ2_ o22 hP hD hS (lv_sub hl [0, 1] rfl)
def ow_k_isLet : List Cond := [.fieldLink RX11 26 "NearEnough" "told" "LNearEnough$Program;", .fieldLink RX11 281 "NearEnough$Program" "endCount" "I", .fieldLink RX11 284 "NearEnough$Program" "endKind" "[I", .fieldLink RX11 49 "NearEnough" "shown" "LNearEnough$Shown;", .fieldLink RX11 230 "NearEnough$Program" "endStep" "[I", .fieldLink RX11 287 "NearEnough$Program" "endOff" "[I"]
def vs_k_isLet : List Cond := .code yX11_isLet cX11_isLet 3 (some .boolean) :: (ow_k_isLet ++ (([.methodLink RX11 290 yX11_isLetOnSheets, .instanceMethod yX11_isLetOnSheets, .selects RX11 yX11_isLetOnSheets yX11_isLetOnSheets, .initialized RX11] : List Cond) ++ (vs_k_isLetOn ++ (([.methodLink RX11 233 yX8_farOff, .instanceMethod yX8_farOff, .selects RX8 yX8_farOff yX8_farOff, .initialized RX8] : List Cond) ++ (vs_k_farOff ++ (wsX30 ++ (wsX110)))))))
theorem vg_k_isLet : vs_k_isLet.all goodWord = true := by decide +kernel
theorem dd_k_isLet : yX11_isLet.cls = RX11 ∧ yX11_isLet.cls ≠ "java/lang/invoke/MethodHandle" ∧ yX11_isLet.cls ≠ "java/lang/invoke/VarHandle" ∧ (parseMethodDescriptor yX11_isLet.desc).map (fun d => d.parameters.length) = some 0 := by decide +kernel
def rm_k_isLet : Room := { frames := 6, cells := 0, slots := 0, locals := 159 }
theorem gd_k_isLet_290_k_isLetOn : GoodIn vs_k_isLet (wsV RX11 290 RX11 yX11_isLetOnSheets vs_k_isLetOn) := goodIn_app (goodIn_sub (fun w h => (List.mem_cons_of_mem _ (List.mem_append_right _ (List.mem_append_left _ h)))) (by decide +kernel)) (goodIn_sub (fun w h => (List.mem_cons_of_mem _ (List.mem_append_right _ (List.mem_append_right _ (List.mem_append_left _ h))))) vg_k_isLetOn)
theorem gd_k_isLet_233_k_farOff : GoodIn vs_k_isLet (wsV RX11 233 RX8 yX8_farOff vs_k_farOff) := goodIn_app (goodIn_sub (fun w h => (List.mem_cons_of_mem _ (List.mem_append_right _ (List.mem_append_right _ (List.mem_append_right _ (List.mem_append_left _ h)))))) (by decide +kernel)) (goodIn_sub (fun w h => (List.mem_cons_of_mem _ (List.mem_append_right _ (List.mem_append_right _ (List.mem_append_right _ (List.mem_append_right _ (List.mem_append_left _ h))))))) vg_k_farOff)
set_option maxHeartbeats 4000000 in
set_option maxRecDepth 100000 in
theorem k_isLet (l : Launch) (dC : Nat → ClassId) (dI : Nat → Nat → Nat) (κ : CE) (sz : Nat) (σ : MS) (hk : PInv κ) (hI : CInv σ)  : Met l yX11_isLet vs_k_isLet rm_k_isLet (va_Pc [.ref (kA κ 0)] (wSy dC dI (cW κ σ) (cT κ) sz)) (va_Qi (fun (r : Int32) (τ : MS) => CInv τ ∧ (r.toInt = 0 ∨ r.toInt = 1)) (fun (τ : MS) => wEn dC dI (va_A (cW κ σ) sz) (cW κ τ) []) (va_A (cW κ σ) sz)) 0 0 (va_A (cW κ σ) sz) := by
  refine Met.ofW (cc := cX11_isLet) (maxL := 3) (ret := (some .boolean)) (by decide +kernel) rfl ?_
  intro p e s m args below meth c s₁ B hml hv
  obtain ⟨rfl, hsz, hP, hK, hD0, hE⟩ := hv
  have hx := B.exec
  have hb := B.bytes
  have hr := B.returns
  have hts := atoms_spec (ws := vs_k_isLet) B.pre
  have hown : s.vm.findClass RX11 = some m.cls := findClass_of_methodNamed B.named
  have hlocks := B.notSynchronized
  subst hsz
  have hD := hD0.self (sz := s.heap.size)
  generalize hAe : va_A (cW κ σ) s.heap.size = A at hD ⊢
  have hA : ∀ q : Nat, s.heap.size ≤ q → A q := fun q h => by rw [← hAe]; exact Or.inr h
  have hl := lv_entry ([.ref (kA κ 0)]) (n := 3) (Nat.le_of_ble_eq_true rfl)
  rw [lg_entry_eq]
  generalize (lg_sl ([.ref (kA κ 0)]) ++ List.replicate (3 - (lg_sl ([.ref (kA κ 0)])).length) Slot.unset).toArray = ls at hl ⊢
  have hl : lv_has ls 3 [(0, .ref (kA κ 0))] := hl
  have ho := fun w (h : w ∈ ow_k_isLet) => hts w (List.mem_cons_of_mem _ (List.mem_append_left _ h))
  have hin3 : ∀ w ∈ u_ws RX3 TX3 8, w ∈ vs_k_isLet := fun w h => (List.mem_cons_of_mem _ (List.mem_append_right _ (List.mem_append_right _ (List.mem_append_right _ (List.mem_append_right _ (List.mem_append_right _ (List.mem_append_left _ h)))))))
  have hin11 : ∀ w ∈ u_ws RX11 TX11 17, w ∈ vs_k_isLet := fun w h => (List.mem_cons_of_mem _ (List.mem_append_right _ (List.mem_append_right _ (List.mem_append_right _ (List.mem_append_right _ (List.mem_append_right _ (List.mem_append_right _ h)))))))
  refine zQ (fun Q hQ => ?_)
  refine zH (A := A) (ws := (cW κ σ)) (fun H hP hS => ?_) hP
  have hk0 := hk.1
  have hk1 := hk.2.1
  have hk2 := hk.2.2.1
  refine lv_iconst (v := 0) hx hb dX11_isLet_0 rg_0 ?_
  refine lv_istore_n (lv' := [(1, .int 0), (0, .ref (kA κ 0))]) hx hb dX11_isLet_1 rfl hl (Nat.le_of_ble_eq_true rfl) rfl (fun ls hl => ?_)
  refine lv_iconst (v := 0) hx hb dX11_isLet_2 rg_0 ?_
  refine lv_istore_n (lv' := [(2, .int 0), (1, .int 0), (0, .ref (kA κ 0))]) hx hb dX11_isLet_3 rfl hl (Nat.le_of_ble_eq_true rfl) rfl (fun ls hl => ?_)
  have pt4_ : ∀ (n4_ : Nat) (v1_ : Int32) (v2_ : Int32) (H : Heap) (locs : List Loc) (ls : Array Slot), (4 - v2_.toInt).toNat < n4_ → (0 ≤ v2_.toInt) → va_P (dC, dI) vwCl (cW κ σ) H → va_D A (cW κ σ) → va_S A s.heap H locs → lv_has ls 3 [(1, .int v1_), (2, .int v2_), (0, .ref (kA κ 0))] → W p l e (headSpec vs_k_isLet rm_k_isLet).room s m #[Value.ref (kA κ 0)] below meth c H locs 0 0 Q (F0 m 4 ls []) := by
    intro n4_
    induction n4_ with
    | zero => intro v1_ v2_ H locs ls hn4_ hf4_0_ hP hD hS hl; exact absurd hn4_ (Nat.not_lt_zero _)
    | succ n4_ ih4_ =>
      intro v1_ v2_ H locs ls hn4_ hf4_0_ hP hD hS hl
      refine lv_iload_n hx hb dX11_isLet_4 rfl (lv_at hl 1 rfl) ?_
      refine lv_aload_n hx hb dX11_isLet_5 rfl (lv_at hl 2 rfl) ?_
      refine va_get (D := (dC, dI)) (ci := 11) (v := .ref (kA κ 6)) (C := RX11) (T := TX11) (N := 17) hx hb hts hin11 hown hK hP 0 rfl rfl 4 (Nat.le_of_ble_eq_true rfl) (ho (.fieldLink RX11 26 "NearEnough" "told" "LNearEnough$Program;") (List.mem_of_getElem? (i := 0) rfl)) (fun _ h9 => h9) rfl dX11_isLet_6 ?_
      refine va_get (D := (dC, dI)) (ci := 3) (v := .int (pI κ 2)) (C := RX3) (T := TX3) (N := 8) hx hb hts hin3 hown hK hP 6 rfl rfl 7 (Nat.le_of_ble_eq_true rfl) (ho (.fieldLink RX11 281 "NearEnough$Program" "endCount" "I") (List.mem_of_getElem? (i := 1) rfl)) (fun _ h9 => h9) rfl dX11_isLet_9 ?_
      refine lv_icmp_ge (tgt := 70) hx hb dX11_isLet_12 rfl (fun c1_ => ?_) (fun c1_ => ?_)
      · have tc1_ := (show (pI κ 2).toInt ≤ v2_.toInt from ti_le rfl rfl c1_)
        refine lv_iload_n hx hb dX11_isLet_70 rfl (lv_at hl 0 rfl) ?_
        refine lv_if_eq (tgt := 81) hx hb dX11_isLet_71 rfl (fun c2_ => ?_) (fun c2_ => ?_)
        · have tc2_ := (show v1_.toInt = 0 from ti_eq rfl rg_11 c2_)
          refine lv_iconst (v := 1) hx hb dX11_isLet_81 rg_6 ?_
          refine lv_goto (tgt := 86) hx hb dX11_isLet_82 rfl ?_
          have kk3_ : (1 : Int32).toInt = 1 := rg_18
          have o1 : (1 : Int32).toInt = 0 ∨ (1 : Int32).toInt = 1 := by omega
          rw [hQ]
          exact W.zret (v := 1) hx hb hr rfl (fun t ht hW => ⟨⟨1, σ, rfl, ⟨hI, o1⟩, wEn_of hP (hK.sub [] rfl) hD ht hW⟩, hS.F ht⟩) hS.2.2 dX11_isLet_86
        · have tc2_ := (show v1_.toInt ≠ 0 from ti_ne rfl rg_11 c2_)
          refine lv_aload_n hx hb dX11_isLet_74 rfl (lv_at hl 2 rfl) ?_
          refine zy_i (va_runV (As := []) (rest := []) ⟨hx, hb, hml, hown, hts⟩ (k_isLetOn l dC dI κ H.size σ  hk hI ) (cwV 0 hts gd_k_isLet_290_k_isLetOn rfl rfl rfl dd_k_isLetOn ⟨Nat.le_of_ble_eq_true rfl, Nat.le_of_ble_eq_true rfl⟩) (preVy hP hK hD hE (ci := 11) (q0 := 0) rfl rfl) rfl rfl hl.1 rfl (lv_room (Nat.le_of_ble_eq_true rfl)) dX11_isLet_75 ⟨Nat.le_of_ble_eq_true rfl, Nat.le_of_ble_eq_true rfl⟩) hD hS hA (fun z4_ τ5_ H locs hq hP hD hS => ?_)
          obtain ⟨hτ5_, q6_⟩ := hq
          have q6_ : z4_.toInt = 0 ∨ z4_.toInt = 1 := q6_
          refine W.widen (k := 0) (n := 0) (Nat.le_of_ble_eq_true rfl) (Nat.le_of_ble_eq_true rfl) ?_
          refine lv_if_eq (tgt := 85) hx hb dX11_isLet_78 rfl (fun c7_ => ?_) (fun c7_ => ?_)
          · have tc7_ := (show z4_.toInt = 0 from ti_eq rfl rg_11 c7_)
            refine lv_iconst (v := 0) hx hb dX11_isLet_85 rg_0 ?_
            have kk8_ : (0 : Int32).toInt = 0 := rg_11
            have o2 : (0 : Int32).toInt = 0 ∨ (0 : Int32).toInt = 1 := by omega
            rw [hQ]
            exact W.zret (v := 0) hx hb hr rfl (fun t ht hW => ⟨⟨0, τ5_, rfl, ⟨hτ5_, o2⟩, wEn_of hP (hK.sub [] rfl) hD ht hW⟩, hS.F ht⟩) hS.2.2 dX11_isLet_86
          · have tc7_ := (show z4_.toInt ≠ 0 from ti_ne rfl rg_11 c7_)
            refine lv_iconst (v := 1) hx hb dX11_isLet_81 rg_6 ?_
            refine lv_goto (tgt := 86) hx hb dX11_isLet_82 rfl ?_
            have kk9_ : (1 : Int32).toInt = 1 := rg_18
            have o3 : (1 : Int32).toInt = 0 ∨ (1 : Int32).toInt = 1 := by omega
            rw [hQ]
            exact W.zret (v := 1) hx hb hr rfl (fun t ht hW => ⟨⟨1, τ5_, rfl, ⟨hτ5_, o3⟩, wEn_of hP (hK.sub [] rfl) hD ht hW⟩, hS.F ht⟩) hS.2.2 dX11_isLet_86
      · have tc1_ := (show v2_.toInt < (pI κ 2).toInt from ti_nle rfl rfl c1_)
        refine lv_aload_n hx hb dX11_isLet_15 rfl (lv_at hl 2 rfl) ?_
        refine va_get (D := (dC, dI)) (ci := 11) (v := .ref (kA κ 6)) (C := RX11) (T := TX11) (N := 17) hx hb hts hin11 hown hK hP 0 rfl rfl 4 (Nat.le_of_ble_eq_true rfl) (ho (.fieldLink RX11 26 "NearEnough" "told" "LNearEnough$Program;") (List.mem_of_getElem? (i := 0) rfl)) (fun _ h9 => h9) rfl dX11_isLet_16 ?_
        refine va_get (D := (dC, dI)) (ci := 3) (v := .ref (kA κ 11)) (C := RX3) (T := TX3) (N := 8) hx hb hts hin3 hown hK hP 6 rfl rfl 4 (Nat.le_of_ble_eq_true rfl) (ho (.fieldLink RX11 284 "NearEnough$Program" "endKind" "[I") (List.mem_of_getElem? (i := 2) rfl)) (fun _ h9 => h9) rfl dX11_isLet_19 ?_
        refine lv_iload_n hx hb dX11_isLet_22 rfl (lv_at hl 1 rfl) ?_
        have o4 : 0 ≤ v2_.toInt := by omega
        have o5 : v2_.toInt < ((4 : Nat) : Int) := by omega
        refine va_iald hx hb hK hP 11 9 rfl rfl (ti_inx o4 o5) dX11_isLet_23 ?_
        refine lv_topi (fun z10_ ez10_ => ?_)
        refine lv_if_eq (tgt := 32) hx hb dX11_isLet_24 rfl (fun c11_ => ?_) (fun c11_ => ?_)
        · have tc11_ := (show z10_.toInt = 0 from ti_eq rfl rg_11 c11_)
          refine lv_aload_n hx hb dX11_isLet_32 rfl (lv_at hl 2 rfl) ?_
          refine va_get (D := (dC, dI)) (ci := 11) (v := .ref (kA κ 21)) (C := RX11) (T := TX11) (N := 17) hx hb hts hin11 hown hK hP 0 rfl rfl 7 (Nat.le_of_ble_eq_true rfl) (ho (.fieldLink RX11 49 "NearEnough" "shown" "LNearEnough$Shown;") (List.mem_of_getElem? (i := 3) rfl)) (fun _ h9 => h9) rfl dX11_isLet_33 ?_
          refine lv_aload_n hx hb dX11_isLet_36 rfl (lv_at hl 2 rfl) ?_
          refine va_get (D := (dC, dI)) (ci := 11) (v := .ref (kA κ 6)) (C := RX11) (T := TX11) (N := 17) hx hb hts hin11 hown hK hP 0 rfl rfl 4 (Nat.le_of_ble_eq_true rfl) (ho (.fieldLink RX11 26 "NearEnough" "told" "LNearEnough$Program;") (List.mem_of_getElem? (i := 0) rfl)) (fun _ h9 => h9) rfl dX11_isLet_37 ?_
          refine va_get (D := (dC, dI)) (ci := 3) (v := .ref (kA κ 9)) (C := RX3) (T := TX3) (N := 8) hx hb hts hin3 hown hK hP 6 rfl rfl 2 (Nat.le_of_ble_eq_true rfl) (ho (.fieldLink RX11 230 "NearEnough$Program" "endStep" "[I") (List.mem_of_getElem? (i := 4) rfl)) (fun _ h9 => h9) rfl dX11_isLet_40 ?_
          refine lv_iload_n hx hb dX11_isLet_43 rfl (lv_at hl 1 rfl) ?_
          refine va_iald hx hb hK hP 9 7 rfl rfl (ti_inx o4 o5) dX11_isLet_44 ?_
          refine lv_topi (fun z12_ ez12_ => ?_)
          have o6 : v2_.toInt < (pI κ 2).toInt := by omega
          have bz12_ := hk.en ez12_ o4 o6
          have o7 : 0 ≤ z12_.toInt := by omega
          have o8 : z12_.toInt ≤ 11 := by omega
          refine zy_l (va_runV (As := [.int z12_]) (rest := []) ⟨hx, hb, hml, hown, hts⟩ (k_farOff l dC dI κ H.size σ z12_ hk hI ⟨o7, o8⟩) (cwV 1 hts gd_k_isLet_233_k_farOff rfl rfl rfl dd_k_farOff ⟨Nat.le_of_ble_eq_true rfl, Nat.le_of_ble_eq_true rfl⟩) (preVy hP hK hD hE (ci := 8) (q0 := 21) rfl rfl) rfl rfl hl.1 rfl (lv_room (Nat.le_of_ble_eq_true rfl)) dX11_isLet_45 ⟨Nat.le_of_ble_eq_true rfl, Nat.le_of_ble_eq_true rfl⟩) hD hS hA (fun y13_ τ14_ H locs hq hP hD hS => ?_)
          obtain ⟨hτ14_, q15_⟩ := hq
          rw [hτ14_] at hP hD
          refine W.widen (k := 0) (n := 0) (Nat.le_of_ble_eq_true rfl) (Nat.le_of_ble_eq_true rfl) ?_
          refine lv_aload_n hx hb dX11_isLet_48 rfl (lv_at hl 2 rfl) ?_
          refine va_get (D := (dC, dI)) (ci := 11) (v := .ref (kA κ 6)) (C := RX11) (T := TX11) (N := 17) hx hb hts hin11 hown hK hP 0 rfl rfl 4 (Nat.le_of_ble_eq_true rfl) (ho (.fieldLink RX11 26 "NearEnough" "told" "LNearEnough$Program;") (List.mem_of_getElem? (i := 0) rfl)) (fun _ h9 => h9) rfl dX11_isLet_49 ?_
          refine va_get (D := (dC, dI)) (ci := 3) (v := .ref (kA κ 10)) (C := RX3) (T := TX3) (N := 8) hx hb hts hin3 hown hK hP 6 rfl rfl 3 (Nat.le_of_ble_eq_true rfl) (ho (.fieldLink RX11 287 "NearEnough$Program" "endOff" "[I") (List.mem_of_getElem? (i := 5) rfl)) (fun _ h9 => h9) rfl dX11_isLet_52 ?_
          refine lv_iload_n hx hb dX11_isLet_55 rfl (lv_at hl 1 rfl) ?_
          refine va_iald hx hb hK hP 10 8 rfl rfl (ti_inx o4 o5) dX11_isLet_56 ?_
          refine lv_topi (fun z16_ ez16_ => ?_)
          refine lv_i2l hx hb dX11_isLet_57 rfl ?_
          refine lv_topl (fun y17_ ey17_ => ?_)
          refine W.lcmp hx hb dX11_isLet_58 ?_
          refine lv_topi (fun z18_ ez18_ => ?_)
          refine lv_if_le (tgt := 64) hx hb dX11_isLet_59 rfl (fun c19_ => ?_) (fun c19_ => ?_)
          · have tc19_ := (show z18_.toInt ≤ 0 from ti_le rfl rg_11 c19_)
            have lc19_ : y13_ ≤ y17_ := (lg_cmp_le y13_ y17_).mp (by rw [← ez18_]; exact c19_)
            obtain ⟨z20_, ez20_⟩ : ∃ y : Int32, y = v2_ + 1 := ⟨_, rfl⟩
            have o9 : -2147483648 ≤ v2_.toInt + 1 := by omega
            have o10 : v2_.toInt + 1 ≤ 2147483647 := by omega
            have tz20_ := ti_add ez20_ rfl rg_18 o9 o10
            refine lv_iinc (v := z20_) (lv' := [(2, .int z20_), (1, .int v1_), (0, .ref (kA κ 0))]) hx hb dX11_isLet_64 hl (k := 1) rfl (iincp ez20_ rg_6) (Nat.le_of_ble_eq_true rfl) rfl (fun ls hl => ?_)
            refine lv_goto (tgt := 4) hx hb dX11_isLet_67 rfl ?_
            have o11 : (4 - z20_.toInt).toNat < n4_ := by omega
            have o12 : 0 ≤ z20_.toInt := by omega
            exact ih4_  v1_ z20_ _ _ _ o11 o12 hP hD hS (lv_sub hl [1, 0, 2] rfl)
          · have tc19_ := (show 0 < z18_.toInt from ti_nle rfl rg_11 c19_)
            have lc19_ : ¬ y13_ ≤ y17_ := fun h => c19_ (by rw [ez18_]; exact (lg_cmp_le y13_ y17_).mpr h)
            refine lv_iconst (v := 0) hx hb dX11_isLet_62 rg_0 ?_
            have kk21_ : (0 : Int32).toInt = 0 := rg_11
            have o13 : (0 : Int32).toInt = 0 ∨ (0 : Int32).toInt = 1 := by omega
            rw [hQ]
            exact W.zret (v := 0) hx hb hr rfl (fun t ht hW => ⟨⟨0, σ, rfl, ⟨hI, o13⟩, wEn_of hP (hK.sub [] rfl) hD ht hW⟩, hS.F ht⟩) hS.2.2 dX11_isLet_63
        · have tc11_ := (show z10_.toInt ≠ 0 from ti_ne rfl rg_11 c11_)
          refine lv_iconst (v := 1) hx hb dX11_isLet_27 rg_6 ?_
          refine lv_istore_n (lv' := [(1, .int 1), (2, .int v2_), (0, .ref (kA κ 0))]) hx hb dX11_isLet_28 rfl hl (Nat.le_of_ble_eq_true rfl) rfl (fun ls hl => ?_)
          refine lv_goto (tgt := 64) hx hb dX11_isLet_29 rfl ?_
          obtain ⟨z22_, ez22_⟩ : ∃ y : Int32, y = v2_ + 1 := ⟨_, rfl⟩
          have o14 : -2147483648 ≤ v2_.toInt + 1 := by omega
          have o15 : v2_.toInt + 1 ≤ 2147483647 := by omega
          have tz22_ := ti_add ez22_ rfl rg_18 o14 o15
          refine lv_iinc (v := z22_) (lv' := [(2, .int z22_), (1, .int 1), (0, .ref (kA κ 0))]) hx hb dX11_isLet_64 hl (k := 1) rfl (iincp ez22_ rg_6) (Nat.le_of_ble_eq_true rfl) rfl (fun ls hl => ?_)
          refine lv_goto (tgt := 4) hx hb dX11_isLet_67 rfl ?_
          have kk23_ : (1 : Int32).toInt = 1 := rg_18
          have o16 : (4 - z22_.toInt).toNat < n4_ := by omega
          have o17 : 0 ≤ z22_.toInt := by omega
          exact ih4_  1 z22_ _ _ _ o16 o17 hP hD hS (lv_sub hl [1, 0, 2] rfl)
  have kk24_ : (0 : Int32).toInt = 0 := rg_11
  have kk25_ : (0 : Int32).toInt = 0 := rg_11
  have o18 : 0 ≤ (0 : Int32).toInt := by omega
  exact pt4_ _  0 0 _ _ _ (Nat.lt_succ_self _) o18 hP hD hS (lv_sub hl [1, 0, 2] rfl)
def ow_k_let : List Cond := [.fieldLink RX11 40 "NearEnough" "changes" "LNearEnough$Changes;", .fieldLink RX11 49 "NearEnough" "shown" "LNearEnough$Shown;"]
def vs_k_let : List Cond := .code yX11_let cX11_let 2 (some .int) :: (ow_k_let ++ (([.methodLink RX11 202 yX0_take, .instanceMethod yX0_take, .selects RX0 yX0_take yX0_take, .initialized RX0] : List Cond) ++ (vs_k_take ++ (([.methodLink RX11 205 yX8_show, .instanceMethod yX8_show, .selects RX8 yX8_show yX8_show, .initialized RX8] : List Cond) ++ (vs_k_show ++ (([.methodLink RX11 277 yX11_isLet, .instanceMethod yX11_isLet, .selects RX11 yX11_isLet yX11_isLet, .initialized RX11] : List Cond) ++ (vs_k_isLet ++ (wsX110))))))))
theorem vg_k_let : vs_k_let.all goodWord = true := by decide +kernel
theorem dd_k_let : yX11_let.cls = RX11 ∧ yX11_let.cls ≠ "java/lang/invoke/MethodHandle" ∧ yX11_let.cls ≠ "java/lang/invoke/VarHandle" ∧ (parseMethodDescriptor yX11_let.desc).map (fun d => d.parameters.length) = some 1 := by decide +kernel
def rm_k_let : Room := { frames := 7, cells := 0, slots := 0, locals := 181 }
theorem gd_k_let_202_k_take : GoodIn vs_k_let (wsV RX11 202 RX0 yX0_take vs_k_take) := goodIn_app (goodIn_sub (fun w h => (List.mem_cons_of_mem _ (List.mem_append_right _ (List.mem_append_left _ h)))) (by decide +kernel)) (goodIn_sub (fun w h => (List.mem_cons_of_mem _ (List.mem_append_right _ (List.mem_append_right _ (List.mem_append_left _ h))))) vg_k_take)
theorem gd_k_let_205_k_show : GoodIn vs_k_let (wsV RX11 205 RX8 yX8_show vs_k_show) := goodIn_app (goodIn_sub (fun w h => (List.mem_cons_of_mem _ (List.mem_append_right _ (List.mem_append_right _ (List.mem_append_right _ (List.mem_append_left _ h)))))) (by decide +kernel)) (goodIn_sub (fun w h => (List.mem_cons_of_mem _ (List.mem_append_right _ (List.mem_append_right _ (List.mem_append_right _ (List.mem_append_right _ (List.mem_append_left _ h))))))) vg_k_show)
theorem gd_k_let_277_k_isLet : GoodIn vs_k_let (wsV RX11 277 RX11 yX11_isLet vs_k_isLet) := goodIn_app (goodIn_sub (fun w h => (List.mem_cons_of_mem _ (List.mem_append_right _ (List.mem_append_right _ (List.mem_append_right _ (List.mem_append_right _ (List.mem_append_right _ (List.mem_append_left _ h)))))))) (by decide +kernel)) (goodIn_sub (fun w h => (List.mem_cons_of_mem _ (List.mem_append_right _ (List.mem_append_right _ (List.mem_append_right _ (List.mem_append_right _ (List.mem_append_right _ (List.mem_append_right _ (List.mem_append_left _ h))))))))) vg_k_isLet)
set_option maxHeartbeats 4000000 in
set_option maxRecDepth 100000 in
theorem k_let (l : Launch) (dC : Nat → ClassId) (dI : Nat → Nat → Nat) (κ : CE) (sz : Nat) (σ : MS) (x : Int32) (hk : PInv κ) (hI : CInv σ)  : Met l yX11_let vs_k_let rm_k_let (va_Pc [.ref (kA κ 0), .int x] (wSy dC dI (cW κ σ) (cT κ) sz)) (va_Qi (fun (r : Int32) (τ : MS) => CInv τ ∧ True) (fun (τ : MS) => wEn dC dI (va_A (cW κ σ) sz) (cW κ τ) []) (va_A (cW κ σ) sz)) 0 0 (va_A (cW κ σ) sz) := by
  refine Met.ofW (cc := cX11_let) (maxL := 2) (ret := (some .int)) (by decide +kernel) rfl ?_
  intro p e s m args below meth c s₁ B hml hv
  obtain ⟨rfl, hsz, hP, hK, hD0, hE⟩ := hv
  have hx := B.exec
  have hb := B.bytes
  have hr := B.returns
  have hts := atoms_spec (ws := vs_k_let) B.pre
  have hown : s.vm.findClass RX11 = some m.cls := findClass_of_methodNamed B.named
  have hlocks := B.notSynchronized
  subst hsz
  have hD := hD0.self (sz := s.heap.size)
  generalize hAe : va_A (cW κ σ) s.heap.size = A at hD ⊢
  have hA : ∀ q : Nat, s.heap.size ≤ q → A q := fun q h => by rw [← hAe]; exact Or.inr h
  have hl := lv_entry ([.ref (kA κ 0), .int x]) (n := 2) (Nat.le_of_ble_eq_true rfl)
  rw [lg_entry_eq]
  generalize (lg_sl ([.ref (kA κ 0), .int x]) ++ List.replicate (2 - (lg_sl ([.ref (kA κ 0), .int x])).length) Slot.unset).toArray = ls at hl ⊢
  have hl : lv_has ls 2 [(0, .ref (kA κ 0)), (1, .int x)] := hl
  have ho := fun w (h : w ∈ ow_k_let) => hts w (List.mem_cons_of_mem _ (List.mem_append_left _ h))
  have hin11 : ∀ w ∈ u_ws RX11 TX11 17, w ∈ vs_k_let := fun w h => (List.mem_cons_of_mem _ (List.mem_append_right _ (List.mem_append_right _ (List.mem_append_right _ (List.mem_append_right _ (List.mem_append_right _ (List.mem_append_right _ (List.mem_append_right _ h))))))))
  refine zQ (fun Q hQ => ?_)
  refine zH (A := A) (ws := (cW κ σ)) (fun H hP hS => ?_) hP
  have hk0 := hk.1
  have hk1 := hk.2.1
  have hk2 := hk.2.2.1
  refine lv_aload_n hx hb dX11_let_0 rfl (lv_at hl 0 rfl) ?_
  refine va_get (D := (dC, dI)) (ci := 11) (v := .ref (kA κ 15)) (C := RX11) (T := TX11) (N := 17) hx hb hts hin11 hown hK hP 0 rfl rfl 6 (Nat.le_of_ble_eq_true rfl) (ho (.fieldLink RX11 40 "NearEnough" "changes" "LNearEnough$Changes;") (List.mem_of_getElem? (i := 0) rfl)) (fun _ h9 => h9) rfl dX11_let_1 ?_
  refine lv_iload_n hx hb dX11_let_4 rfl (lv_at hl 1 rfl) ?_
  refine zy_i (va_runV (As := [.int x]) (rest := []) ⟨hx, hb, hml, hown, hts⟩ (k_take l dC dI κ H.size σ x hk hI ) (cwV 1 hts gd_k_let_202_k_take rfl rfl rfl dd_k_take ⟨Nat.le_of_ble_eq_true rfl, Nat.le_of_ble_eq_true rfl⟩) (preVy hP hK hD hE (ci := 0) (q0 := 15) rfl rfl) rfl rfl hl.1 rfl (lv_room (Nat.le_of_ble_eq_true rfl)) dX11_let_5 ⟨Nat.le_of_ble_eq_true rfl, Nat.le_of_ble_eq_true rfl⟩) hD hS hA (fun z1_ τ2_ H locs hq hP hD hS => ?_)
  obtain ⟨hτ2_, q3_⟩ := hq
  have q3_ : z1_.toInt = 0 ∨ z1_.toInt = 1 := q3_
  refine W.widen (k := 0) (n := 0) (Nat.le_of_ble_eq_true rfl) (Nat.le_of_ble_eq_true rfl) ?_
  refine lv_if_ne (tgt := 13) hx hb dX11_let_8 rfl (fun c4_ => ?_) (fun c4_ => ?_)
  · have tc4_ := (show z1_.toInt ≠ 0 from ti_ne rfl rg_11 c4_)
    refine lv_aload_n hx hb dX11_let_13 rfl (lv_at hl 0 rfl) ?_
    refine va_get (D := (dC, dI)) (ci := 11) (v := .ref (kA κ 21)) (C := RX11) (T := TX11) (N := 17) hx hb hts hin11 hown hK hP 0 rfl rfl 7 (Nat.le_of_ble_eq_true rfl) (ho (.fieldLink RX11 49 "NearEnough" "shown" "LNearEnough$Shown;") (List.mem_of_getElem? (i := 1) rfl)) (fun _ h9 => h9) rfl dX11_let_14 ?_
    refine lv_iconst (v := 0) hx hb dX11_let_17 rg_0 ?_
    have kk5_ : (0 : Int32).toInt = 0 := rg_11
    have o1 : 0 ≤ (0 : Int32).toInt := by omega
    have o2 : (0 : Int32).toInt ≤ 12 := by omega
    refine zy_i (va_runV (As := [.int 0]) (rest := []) ⟨hx, hb, hml, hown, hts⟩ (k_show l dC dI κ H.size τ2_ 0 hk hτ2_ ⟨o1, o2⟩) (cwV 1 hts gd_k_let_205_k_show rfl rfl rfl dd_k_show ⟨Nat.le_of_ble_eq_true rfl, Nat.le_of_ble_eq_true rfl⟩) (preVy hP hK hD hE (ci := 8) (q0 := 21) rfl rfl) rfl rfl hl.1 rfl (lv_room (Nat.le_of_ble_eq_true rfl)) dX11_let_18 ⟨Nat.le_of_ble_eq_true rfl, Nat.le_of_ble_eq_true rfl⟩) hD hS hA (fun z6_ τ7_ H locs hq hP hD hS => ?_)
    obtain ⟨hτ7_, q8_⟩ := hq
    have q8_ : (-1) ≤ z6_.toInt ∧ z6_.toInt ≤ 11 := q8_
    refine W.widen (k := 0) (n := 0) (Nat.le_of_ble_eq_true rfl) (Nat.le_of_ble_eq_true rfl) ?_
    refine lv_iconst (v := (-1)) hx hb dX11_let_21 rg_53 ?_
    refine lv_icmp_ne (tgt := 36) hx hb dX11_let_22 rfl (fun c9_ => ?_) (fun c9_ => ?_)
    · have tc9_ := (show z6_.toInt ≠ (-1) from ti_ne rfl rg_489 c9_)
      refine lv_iconst (v := 0) hx hb dX11_let_36 rg_0 ?_
      have kk10_ : (0 : Int32).toInt = 0 := rg_11
      rw [hQ]
      exact W.iret (v := 0) hx hb hr (fun t ht hW => ⟨⟨0, τ7_, rfl, ⟨hτ7_, trivial⟩, wEn_of hP (hK.sub [] rfl) hD ht hW⟩, hS.F ht⟩) hS.2.2 dX11_let_37
    · have tc9_ := (show z6_.toInt = (-1) from ti_eq rfl rg_489 c9_)
      refine lv_aload_n hx hb dX11_let_25 rfl (lv_at hl 0 rfl) ?_
      refine zy_i (va_runV (As := []) (rest := []) ⟨hx, hb, hml, hown, hts⟩ (k_isLet l dC dI κ H.size τ7_  hk hτ7_ ) (cwV 0 hts gd_k_let_277_k_isLet rfl rfl rfl dd_k_isLet ⟨Nat.le_of_ble_eq_true rfl, Nat.le_of_ble_eq_true rfl⟩) (preVy hP hK hD hE (ci := 11) (q0 := 0) rfl rfl) rfl rfl hl.1 rfl (lv_room (Nat.le_of_ble_eq_true rfl)) dX11_let_26 ⟨Nat.le_of_ble_eq_true rfl, Nat.le_of_ble_eq_true rfl⟩) hD hS hA (fun z11_ τ12_ H locs hq hP hD hS => ?_)
      obtain ⟨hτ12_, q13_⟩ := hq
      have q13_ : z11_.toInt = 0 ∨ z11_.toInt = 1 := q13_
      refine W.widen (k := 0) (n := 0) (Nat.le_of_ble_eq_true rfl) (Nat.le_of_ble_eq_true rfl) ?_
      refine lv_if_eq (tgt := 36) hx hb dX11_let_29 rfl (fun c14_ => ?_) (fun c14_ => ?_)
      · have tc14_ := (show z11_.toInt = 0 from ti_eq rfl rg_11 c14_)
        refine lv_iconst (v := 0) hx hb dX11_let_36 rg_0 ?_
        have kk15_ : (0 : Int32).toInt = 0 := rg_11
        rw [hQ]
        exact W.iret (v := 0) hx hb hr (fun t ht hW => ⟨⟨0, τ12_, rfl, ⟨hτ12_, trivial⟩, wEn_of hP (hK.sub [] rfl) hD ht hW⟩, hS.F ht⟩) hS.2.2 dX11_let_37
      · have tc14_ := (show z11_.toInt ≠ 0 from ti_ne rfl rg_11 c14_)
        refine lv_iconst (v := 1) hx hb dX11_let_32 rg_6 ?_
        refine lv_goto (tgt := 37) hx hb dX11_let_33 rfl ?_
        have kk16_ : (1 : Int32).toInt = 1 := rg_18
        rw [hQ]
        exact W.iret (v := 1) hx hb hr (fun t ht hW => ⟨⟨1, τ12_, rfl, ⟨hτ12_, trivial⟩, wEn_of hP (hK.sub [] rfl) hD ht hW⟩, hS.F ht⟩) hS.2.2 dX11_let_37
  · have tc4_ := (show z1_.toInt = 0 from ti_eq rfl rg_11 c4_)
    refine lv_iconst (v := (-1)) hx hb dX11_let_11 rg_53 ?_
    have kk17_ : ((-1) : Int32).toInt = (-1) := rg_489
    rw [hQ]
    exact W.iret (v := (-1)) hx hb hr (fun t ht hW => ⟨⟨(-1), τ2_, rfl, ⟨hτ2_, trivial⟩, wEn_of hP (hK.sub [] rfl) hD ht hW⟩, hS.F ht⟩) hS.2.2 dX11_let_12
def ow_k_best : List Cond := [.fieldLink RX11 49 "NearEnough" "shown" "LNearEnough$Shown;", .fieldLink RX11 40 "NearEnough" "changes" "LNearEnough$Changes;", .fieldLink RX11 314 "NearEnough$Changes" "bits" "I"]
def vs_k_best : List Cond := .code yX11_best cX11_best 5 (some .int) :: (ow_k_best ++ (([.methodLink RX11 308 yX8_restart, .instanceMethod yX8_restart, .selects RX8 yX8_restart yX8_restart, .initialized RX8] : List Cond) ++ (vs_k_restart ++ (([.methodLink RX11 311 yX8_next, .instanceMethod yX8_next, .selects RX8 yX8_next yX8_next, .initialized RX8] : List Cond) ++ (vs_k_next ++ (([.methodLink RX11 260 yX0_savedBy, .instanceMethod yX0_savedBy, .selects RX0 yX0_savedBy yX0_savedBy, .initialized RX0] : List Cond) ++ (vs_k_savedBy ++ (([.methodLink RX11 317 yX11_isBetter, .static yX11_isBetter, .initialized yX11_isBetter.cls] : List Cond) ++ (vs_k_isBetter ++ (([.methodLink RX11 277 yX11_isLet, .instanceMethod yX11_isLet, .selects RX11 yX11_isLet yX11_isLet, .initialized RX11] : List Cond) ++ (vs_k_isLet ++ (wsX00 ++ (wsX110)))))))))))))
theorem vg_k_best : vs_k_best.all goodWord = true := by decide +kernel
theorem dd_k_best : yX11_best.cls = RX11 ∧ yX11_best.cls ≠ "java/lang/invoke/MethodHandle" ∧ yX11_best.cls ≠ "java/lang/invoke/VarHandle" ∧ (parseMethodDescriptor yX11_best.desc).map (fun d => d.parameters.length) = some 0 := by decide +kernel
def rm_k_best : Room := { frames := 7, cells := 0, slots := 0, locals := 181 }
theorem gd_k_best_308_k_restart : GoodIn vs_k_best (wsV RX11 308 RX8 yX8_restart vs_k_restart) := goodIn_app (goodIn_sub (fun w h => (List.mem_cons_of_mem _ (List.mem_append_right _ (List.mem_append_left _ h)))) (by decide +kernel)) (goodIn_sub (fun w h => (List.mem_cons_of_mem _ (List.mem_append_right _ (List.mem_append_right _ (List.mem_append_left _ h))))) vg_k_restart)
theorem gd_k_best_311_k_next : GoodIn vs_k_best (wsV RX11 311 RX8 yX8_next vs_k_next) := goodIn_app (goodIn_sub (fun w h => (List.mem_cons_of_mem _ (List.mem_append_right _ (List.mem_append_right _ (List.mem_append_right _ (List.mem_append_left _ h)))))) (by decide +kernel)) (goodIn_sub (fun w h => (List.mem_cons_of_mem _ (List.mem_append_right _ (List.mem_append_right _ (List.mem_append_right _ (List.mem_append_right _ (List.mem_append_left _ h))))))) vg_k_next)
theorem gd_k_best_260_k_savedBy : GoodIn vs_k_best (wsV RX11 260 RX0 yX0_savedBy vs_k_savedBy) := goodIn_app (goodIn_sub (fun w h => (List.mem_cons_of_mem _ (List.mem_append_right _ (List.mem_append_right _ (List.mem_append_right _ (List.mem_append_right _ (List.mem_append_right _ (List.mem_append_left _ h)))))))) (by decide +kernel)) (goodIn_sub (fun w h => (List.mem_cons_of_mem _ (List.mem_append_right _ (List.mem_append_right _ (List.mem_append_right _ (List.mem_append_right _ (List.mem_append_right _ (List.mem_append_right _ (List.mem_append_left _ h))))))))) vg_k_savedBy)
theorem gd_k_best_317_k_isBetter : GoodIn vs_k_best (va_wsS RX11 317 yX11_isBetter vs_k_isBetter) := goodIn_app (goodIn_sub (fun w h => (List.mem_cons_of_mem _ (List.mem_append_right _ (List.mem_append_right _ (List.mem_append_right _ (List.mem_append_right _ (List.mem_append_right _ (List.mem_append_right _ (List.mem_append_right _ (List.mem_append_left _ h)))))))))) (by decide +kernel)) (goodIn_sub (fun w h => (List.mem_cons_of_mem _ (List.mem_append_right _ (List.mem_append_right _ (List.mem_append_right _ (List.mem_append_right _ (List.mem_append_right _ (List.mem_append_right _ (List.mem_append_right _ (List.mem_append_right _ (List.mem_append_left _ h))))))))))) vg_k_isBetter)
theorem gd_k_best_277_k_isLet : GoodIn vs_k_best (wsV RX11 277 RX11 yX11_isLet vs_k_isLet) := goodIn_app (goodIn_sub (fun w h => (List.mem_cons_of_mem _ (List.mem_append_right _ (List.mem_append_right _ (List.mem_append_right _ (List.mem_append_right _ (List.mem_append_right _ (List.mem_append_right _ (List.mem_append_right _ (List.mem_append_right _ (List.mem_append_right _ (List.mem_append_left _ h)))))))))))) (by decide +kernel)) (goodIn_sub (fun w h => (List.mem_cons_of_mem _ (List.mem_append_right _ (List.mem_append_right _ (List.mem_append_right _ (List.mem_append_right _ (List.mem_append_right _ (List.mem_append_right _ (List.mem_append_right _ (List.mem_append_right _ (List.mem_append_right _ (List.mem_append_right _ (List.mem_append_left _ h))))))))))))) vg_k_isLet)
set_option maxHeartbeats 4000000 in
set_option maxRecDepth 100000 in
theorem k_best (l : Launch) (dC : Nat → ClassId) (dI : Nat → Nat → Nat) (κ : CE) (sz : Nat) (σ : MS) (hk : PInv κ) (hI : CInv σ)  : Met l yX11_best vs_k_best rm_k_best (va_Pc [.ref (kA κ 0)] (wSy dC dI (cW κ σ) (cT κ) sz)) (va_Qi (fun (r : Int32) (τ : MS) => CInv τ ∧ True) (fun (τ : MS) => wEn dC dI (va_A (cW κ σ) sz) (cW κ τ) []) (va_A (cW κ σ) sz)) 0 0 (va_A (cW κ σ) sz) := by
  refine Met.ofW (cc := cX11_best) (maxL := 5) (ret := (some .int)) (by decide +kernel) rfl ?_
  intro p e s m args below meth c s₁ B hml hv
  obtain ⟨rfl, hsz, hP, hK, hD0, hE⟩ := hv
  have hx := B.exec
  have hb := B.bytes
  have hr := B.returns
  have hts := atoms_spec (ws := vs_k_best) B.pre
  have hown : s.vm.findClass RX11 = some m.cls := findClass_of_methodNamed B.named
  have hlocks := B.notSynchronized
  subst hsz
  have hD := hD0.self (sz := s.heap.size)
  generalize hAe : va_A (cW κ σ) s.heap.size = A at hD ⊢
  have hA : ∀ q : Nat, s.heap.size ≤ q → A q := fun q h => by rw [← hAe]; exact Or.inr h
  have hl := lv_entry ([.ref (kA κ 0)]) (n := 5) (Nat.le_of_ble_eq_true rfl)
  rw [lg_entry_eq]
  generalize (lg_sl ([.ref (kA κ 0)]) ++ List.replicate (5 - (lg_sl ([.ref (kA κ 0)])).length) Slot.unset).toArray = ls at hl ⊢
  have hl : lv_has ls 5 [(0, .ref (kA κ 0))] := hl
  have ho := fun w (h : w ∈ ow_k_best) => hts w (List.mem_cons_of_mem _ (List.mem_append_left _ h))
  have hin0 : ∀ w ∈ u_ws RX0 TX0 7, w ∈ vs_k_best := fun w h => (List.mem_cons_of_mem _ (List.mem_append_right _ (List.mem_append_right _ (List.mem_append_right _ (List.mem_append_right _ (List.mem_append_right _ (List.mem_append_right _ (List.mem_append_right _ (List.mem_append_right _ (List.mem_append_right _ (List.mem_append_right _ (List.mem_append_right _ (List.mem_append_left _ h)))))))))))))
  have hin11 : ∀ w ∈ u_ws RX11 TX11 17, w ∈ vs_k_best := fun w h => (List.mem_cons_of_mem _ (List.mem_append_right _ (List.mem_append_right _ (List.mem_append_right _ (List.mem_append_right _ (List.mem_append_right _ (List.mem_append_right _ (List.mem_append_right _ (List.mem_append_right _ (List.mem_append_right _ (List.mem_append_right _ (List.mem_append_right _ (List.mem_append_right _ h)))))))))))))
  refine zQ (fun Q hQ => ?_)
  refine zH (A := A) (ws := (cW κ σ)) (fun H hP hS => ?_) hP
  have hk0 := hk.1
  have hk1 := hk.2.1
  have hk2 := hk.2.2.1
  refine lv_iconst (v := 0) hx hb dX11_best_0 rg_0 ?_
  refine lv_istore_n (lv' := [(1, .int 0), (0, .ref (kA κ 0))]) hx hb dX11_best_1 rfl hl (Nat.le_of_ble_eq_true rfl) rfl (fun ls hl => ?_)
  refine lv_iconst (v := 0) hx hb dX11_best_2 rg_0 ?_
  refine lv_istore_n (lv' := [(2, .int 0), (1, .int 0), (0, .ref (kA κ 0))]) hx hb dX11_best_3 rfl hl (Nat.le_of_ble_eq_true rfl) rfl (fun ls hl => ?_)
  refine lv_aload_n hx hb dX11_best_4 rfl (lv_at hl 2 rfl) ?_
  refine va_get (D := (dC, dI)) (ci := 11) (v := .ref (kA κ 21)) (C := RX11) (T := TX11) (N := 17) hx hb hts hin11 hown hK hP 0 rfl rfl 7 (Nat.le_of_ble_eq_true rfl) (ho (.fieldLink RX11 49 "NearEnough" "shown" "LNearEnough$Shown;") (List.mem_of_getElem? (i := 0) rfl)) (fun _ h9 => h9) rfl dX11_best_5 ?_
  refine zy_v (va_runV (As := []) (rest := []) ⟨hx, hb, hml, hown, hts⟩ (k_restart l dC dI κ H.size σ  hk hI ) (cwV 0 hts gd_k_best_308_k_restart rfl rfl rfl dd_k_restart ⟨Nat.le_of_ble_eq_true rfl, Nat.le_of_ble_eq_true rfl⟩) (preVy hP hK hD hE (ci := 8) (q0 := 21) rfl rfl) rfl rfl hl.1 rfl (lv_room (Nat.le_of_ble_eq_true rfl)) dX11_best_8 ⟨Nat.le_of_ble_eq_true rfl, Nat.le_of_ble_eq_true rfl⟩) hD hS hA (fun τ2_ H locs hq hP hD hS => ?_)
  obtain ⟨hτ2_, q3_⟩ := hq
  refine W.widen (k := 0) (n := 0) (Nat.le_of_ble_eq_true rfl) (Nat.le_of_ble_eq_true rfl) ?_
  refine lv_iconst (v := 0) hx hb dX11_best_11 rg_0 ?_
  refine lv_istore_n (lv' := [(3, .int 0), (2, .int 0), (1, .int 0), (0, .ref (kA κ 0))]) hx hb dX11_best_12 rfl hl (Nat.le_of_ble_eq_true rfl) rfl (fun ls hl => ?_)
  have pt13_ : ∀ (n13_ : Nat) (σ13_ : MS) (v1_ : Int32) (v2_ : Int32) (v3_ : Int32) (H : Heap) (locs : List Loc) (ls : Array Slot), (4096 - v3_.toInt).toNat < n13_ → CInv σ13_ → (0 ≤ v3_.toInt) → va_P (dC, dI) vwCl (cW κ σ13_) H → va_D A (cW κ σ13_) → va_S A s.heap H locs → lv_has ls 5 [(1, .int v1_), (2, .int v2_), (3, .int v3_), (0, .ref (kA κ 0))] → W p l e (headSpec vs_k_best rm_k_best).room s m #[Value.ref (kA κ 0)] below meth c H locs 0 0 Q (F0 m 13 ls []) := by
    intro n13_
    induction n13_ with
    | zero => intro σ13_ v1_ v2_ v3_ H locs ls hn13_ hIσ13_ hf13_0_ hP hD hS hl; exact absurd hn13_ (Nat.not_lt_zero _)
    | succ n13_ ih13_ =>
      intro σ13_ v1_ v2_ v3_ H locs ls hn13_ hIσ13_ hf13_0_ hP hD hS hl
      refine lv_iload_n hx hb dX11_best_13 rfl (lv_at hl 2 rfl) ?_
      refine lv_sipush (v := 4096) hx hb dX11_best_14 rx_5b0cde361b ?_
      refine lv_icmp_ge (tgt := 87) hx hb dX11_best_17 rfl (fun c4_ => ?_) (fun c4_ => ?_)
      · have tc4_ := (show 4096 ≤ v3_.toInt from ti_le rx_5cf37c826d rfl c4_)
        refine lv_iload_n hx hb dX11_best_87 rfl (lv_at hl 0 rfl) ?_
        rw [hQ]
        exact W.iret (v := v1_) hx hb hr (fun t ht hW => ⟨⟨v1_, σ13_, rfl, ⟨hIσ13_, trivial⟩, wEn_of hP (hK.sub [] rfl) hD ht hW⟩, hS.F ht⟩) hS.2.2 dX11_best_88
      · have tc4_ := (show v3_.toInt < 4096 from ti_nle rx_5cf37c826d rfl c4_)
        refine lv_aload_n hx hb dX11_best_20 rfl (lv_at hl 3 rfl) ?_
        refine va_get (D := (dC, dI)) (ci := 11) (v := .ref (kA κ 21)) (C := RX11) (T := TX11) (N := 17) hx hb hts hin11 hown hK hP 0 rfl rfl 7 (Nat.le_of_ble_eq_true rfl) (ho (.fieldLink RX11 49 "NearEnough" "shown" "LNearEnough$Shown;") (List.mem_of_getElem? (i := 0) rfl)) (fun _ h9 => h9) rfl dX11_best_21 ?_
        refine zy_i (va_runV (As := []) (rest := []) ⟨hx, hb, hml, hown, hts⟩ (k_next l dC dI κ H.size σ13_  hk hIσ13_ ) (cwV 0 hts gd_k_best_311_k_next rfl rfl rfl dd_k_next ⟨Nat.le_of_ble_eq_true rfl, Nat.le_of_ble_eq_true rfl⟩) (preVy hP hK hD hE (ci := 8) (q0 := 21) rfl rfl) rfl rfl hl.1 rfl (lv_room (Nat.le_of_ble_eq_true rfl)) dX11_best_24 ⟨Nat.le_of_ble_eq_true rfl, Nat.le_of_ble_eq_true rfl⟩) hD hS hA (fun z5_ τ6_ H locs hq hP hD hS => ?_)
        obtain ⟨hτ6_, q7_⟩ := hq
        have q7_ : z5_.toInt = 0 ∨ z5_.toInt = 1 := q7_
        refine W.widen (k := 0) (n := 0) (Nat.le_of_ble_eq_true rfl) (Nat.le_of_ble_eq_true rfl) ?_
        refine lv_if_eq (tgt := 87) hx hb dX11_best_27 rfl (fun c8_ => ?_) (fun c8_ => ?_)
        · have tc8_ := (show z5_.toInt = 0 from ti_eq rfl rg_11 c8_)
          refine lv_iload_n hx hb dX11_best_87 rfl (lv_at hl 0 rfl) ?_
          rw [hQ]
          exact W.iret (v := v1_) hx hb hr (fun t ht hW => ⟨⟨v1_, τ6_, rfl, ⟨hτ6_, trivial⟩, wEn_of hP (hK.sub [] rfl) hD ht hW⟩, hS.F ht⟩) hS.2.2 dX11_best_88
        · have tc8_ := (show z5_.toInt ≠ 0 from ti_ne rfl rg_11 c8_)
          refine lv_aload_n hx hb dX11_best_30 rfl (lv_at hl 3 rfl) ?_
          refine va_get (D := (dC, dI)) (ci := 11) (v := .ref (kA κ 15)) (C := RX11) (T := TX11) (N := 17) hx hb hts hin11 hown hK hP 0 rfl rfl 6 (Nat.le_of_ble_eq_true rfl) (ho (.fieldLink RX11 40 "NearEnough" "changes" "LNearEnough$Changes;") (List.mem_of_getElem? (i := 1) rfl)) (fun _ h9 => h9) rfl dX11_best_31 ?_
          refine lv_aload_n hx hb dX11_best_34 rfl (lv_at hl 3 rfl) ?_
          refine va_get (D := (dC, dI)) (ci := 11) (v := .ref (kA κ 15)) (C := RX11) (T := TX11) (N := 17) hx hb hts hin11 hown hK hP 0 rfl rfl 6 (Nat.le_of_ble_eq_true rfl) (ho (.fieldLink RX11 40 "NearEnough" "changes" "LNearEnough$Changes;") (List.mem_of_getElem? (i := 1) rfl)) (fun _ h9 => h9) rfl dX11_best_35 ?_
          refine va_get (D := (dC, dI)) (ci := 0) (v := .int (τ6_.1 19)) (C := RX0) (T := TX0) (N := 7) hx hb hts hin0 hown hK hP 15 rfl rfl 6 (Nat.le_of_ble_eq_true rfl) (ho (.fieldLink RX11 314 "NearEnough$Changes" "bits" "I") (List.mem_of_getElem? (i := 2) rfl)) (fun _ h9 => h9) rfl dX11_best_38 ?_
          refine zy_i (va_runV (As := [.int (τ6_.1 19)]) (rest := []) ⟨hx, hb, hml, hown, hts⟩ (k_savedBy l dC dI κ H.size τ6_ (τ6_.1 19) hk hτ6_ ) (cwV 1 hts gd_k_best_260_k_savedBy rfl rfl rfl dd_k_savedBy ⟨Nat.le_of_ble_eq_true rfl, Nat.le_of_ble_eq_true rfl⟩) (preVy hP hK hD hE (ci := 0) (q0 := 15) rfl rfl) rfl rfl hl.1 rfl (lv_room (Nat.le_of_ble_eq_true rfl)) dX11_best_41 ⟨Nat.le_of_ble_eq_true rfl, Nat.le_of_ble_eq_true rfl⟩) hD hS hA (fun z9_ τ10_ H locs hq hP hD hS => ?_)
          obtain ⟨hτ10_, q11_⟩ := hq
          rw [hτ10_] at hP hD
          refine W.widen (k := 0) (n := 0) (Nat.le_of_ble_eq_true rfl) (Nat.le_of_ble_eq_true rfl) ?_
          refine lv_istore (lv' := [(4, .int z9_), (1, .int v1_), (2, .int v2_), (3, .int v3_), (0, .ref (kA κ 0))]) hx hb dX11_best_44 hl (Nat.le_of_ble_eq_true rfl) rfl (fun ls hl => ?_)
          refine lv_iload hx hb dX11_best_46 (lv_at hl 0 rfl) ?_
          refine lv_aload_n hx hb dX11_best_48 rfl (lv_at hl 4 rfl) ?_
          refine va_get (D := (dC, dI)) (ci := 11) (v := .ref (kA κ 15)) (C := RX11) (T := TX11) (N := 17) hx hb hts hin11 hown hK hP 0 rfl rfl 6 (Nat.le_of_ble_eq_true rfl) (ho (.fieldLink RX11 40 "NearEnough" "changes" "LNearEnough$Changes;") (List.mem_of_getElem? (i := 1) rfl)) (fun _ h9 => h9) rfl dX11_best_49 ?_
          refine va_get (D := (dC, dI)) (ci := 0) (v := .int (τ6_.1 19)) (C := RX0) (T := TX0) (N := 7) hx hb hts hin0 hown hK hP 15 rfl rfl 6 (Nat.le_of_ble_eq_true rfl) (ho (.fieldLink RX11 314 "NearEnough$Changes" "bits" "I") (List.mem_of_getElem? (i := 2) rfl)) (fun _ h9 => h9) rfl dX11_best_52 ?_
          refine lv_iload_n hx hb dX11_best_55 rfl (lv_at hl 2 rfl) ?_
          refine lv_iload_n hx hb dX11_best_56 rfl (lv_at hl 1 rfl) ?_
          refine zs_i (va_runS (As := [.int z9_, .int (τ6_.1 19), .int v2_, .int v1_]) (rest := []) ⟨hx, hb, hml, hown, hts⟩ (k_isBetter l dC dI z9_ (τ6_.1 19) v2_ v1_  H.size) (va_cwS 4 hts gd_k_best_317_k_isBetter rfl rfl rfl dd_k_isBetter ⟨Nat.le_of_ble_eq_true rfl, Nat.le_of_ble_eq_true rfl⟩) (preS (A := A) empP (hK.sub (tys' := []) [] rfl) empD hE.x) rfl rfl hl.1 rfl (lv_room (Nat.le_of_ble_eq_true rfl)) dX11_best_57 ⟨Nat.le_of_ble_eq_true rfl, Nat.le_of_ble_eq_true rfl⟩) hP hD hS hA (fun z12_ H locs hq hP hD hS => ?_)
          have q13_ : z12_.toInt = 0 ∨ z12_.toInt = 1 := hq
          refine W.widen (k := 0) (n := 0) (Nat.le_of_ble_eq_true rfl) (Nat.le_of_ble_eq_true rfl) ?_
          refine lv_if_eq (tgt := 81) hx hb dX11_best_60 rfl (fun c14_ => ?_) (fun c14_ => ?_)
          · have tc14_ := (show z12_.toInt = 0 from ti_eq rfl rg_11 c14_)
            obtain ⟨z15_, ez15_⟩ : ∃ y : Int32, y = v3_ + 1 := ⟨_, rfl⟩
            have o1 : -2147483648 ≤ v3_.toInt + 1 := by omega
            have o2 : v3_.toInt + 1 ≤ 2147483647 := by omega
            have tz15_ := ti_add ez15_ rfl rg_18 o1 o2
            refine lv_iinc (v := z15_) (lv' := [(3, .int z15_), (4, .int z9_), (1, .int v1_), (2, .int v2_), (0, .ref (kA κ 0))]) hx hb dX11_best_81 hl (k := 3) rfl (iincp ez15_ rg_6) (Nat.le_of_ble_eq_true rfl) rfl (fun ls hl => ?_)
            refine lv_goto (tgt := 13) hx hb dX11_best_84 rfl ?_
            have o3 : (4096 - z15_.toInt).toNat < n13_ := by omega
            have o4 : 0 ≤ z15_.toInt := by omega
            exact ih13_ τ6_ v1_ v2_ z15_ _ _ _ o3 hτ6_ o4 hP hD hS (lv_sub hl [2, 3, 0, 4] rfl)
          · have tc14_ := (show z12_.toInt ≠ 0 from ti_ne rfl rg_11 c14_)
            refine lv_aload_n hx hb dX11_best_63 rfl (lv_at hl 4 rfl) ?_
            refine zy_i (va_runV (As := []) (rest := []) ⟨hx, hb, hml, hown, hts⟩ (k_isLet l dC dI κ H.size τ6_  hk hτ6_ ) (cwV 0 hts gd_k_best_277_k_isLet rfl rfl rfl dd_k_isLet ⟨Nat.le_of_ble_eq_true rfl, Nat.le_of_ble_eq_true rfl⟩) (preVy hP hK hD hE (ci := 11) (q0 := 0) rfl rfl) rfl rfl hl.1 rfl (lv_room (Nat.le_of_ble_eq_true rfl)) dX11_best_64 ⟨Nat.le_of_ble_eq_true rfl, Nat.le_of_ble_eq_true rfl⟩) hD hS hA (fun z16_ τ17_ H locs hq hP hD hS => ?_)
            obtain ⟨hτ17_, q18_⟩ := hq
            have q18_ : z16_.toInt = 0 ∨ z16_.toInt = 1 := q18_
            refine W.widen (k := 0) (n := 0) (Nat.le_of_ble_eq_true rfl) (Nat.le_of_ble_eq_true rfl) ?_
            refine lv_if_eq (tgt := 81) hx hb dX11_best_67 rfl (fun c19_ => ?_) (fun c19_ => ?_)
            · have tc19_ := (show z16_.toInt = 0 from ti_eq rfl rg_11 c19_)
              obtain ⟨z20_, ez20_⟩ : ∃ y : Int32, y = v3_ + 1 := ⟨_, rfl⟩
              have o5 : -2147483648 ≤ v3_.toInt + 1 := by omega
              have o6 : v3_.toInt + 1 ≤ 2147483647 := by omega
              have tz20_ := ti_add ez20_ rfl rg_18 o5 o6
              refine lv_iinc (v := z20_) (lv' := [(3, .int z20_), (4, .int z9_), (1, .int v1_), (2, .int v2_), (0, .ref (kA κ 0))]) hx hb dX11_best_81 hl (k := 3) rfl (iincp ez20_ rg_6) (Nat.le_of_ble_eq_true rfl) rfl (fun ls hl => ?_)
              refine lv_goto (tgt := 13) hx hb dX11_best_84 rfl ?_
              have o7 : (4096 - z20_.toInt).toNat < n13_ := by omega
              have o8 : 0 ≤ z20_.toInt := by omega
              exact ih13_ τ17_ v1_ v2_ z20_ _ _ _ o7 hτ17_ o8 hP hD hS (lv_sub hl [2, 3, 0, 4] rfl)
            · have tc19_ := (show z16_.toInt ≠ 0 from ti_ne rfl rg_11 c19_)
              refine lv_aload_n hx hb dX11_best_70 rfl (lv_at hl 4 rfl) ?_
              refine va_get (D := (dC, dI)) (ci := 11) (v := .ref (kA κ 15)) (C := RX11) (T := TX11) (N := 17) hx hb hts hin11 hown hK hP 0 rfl rfl 6 (Nat.le_of_ble_eq_true rfl) (ho (.fieldLink RX11 40 "NearEnough" "changes" "LNearEnough$Changes;") (List.mem_of_getElem? (i := 1) rfl)) (fun _ h9 => h9) rfl dX11_best_71 ?_
              refine va_get (D := (dC, dI)) (ci := 0) (v := .int (τ17_.1 19)) (C := RX0) (T := TX0) (N := 7) hx hb hts hin0 hown hK hP 15 rfl rfl 6 (Nat.le_of_ble_eq_true rfl) (ho (.fieldLink RX11 314 "NearEnough$Changes" "bits" "I") (List.mem_of_getElem? (i := 2) rfl)) (fun _ h9 => h9) rfl dX11_best_74 ?_
              refine lv_istore_n (lv' := [(1, .int (τ17_.1 19)), (4, .int z9_), (2, .int v2_), (3, .int v3_), (0, .ref (kA κ 0))]) hx hb dX11_best_77 rfl hl (Nat.le_of_ble_eq_true rfl) rfl (fun ls hl => ?_)
              refine lv_iload hx hb dX11_best_78 (lv_at hl 1 rfl) ?_
              refine lv_istore_n (lv' := [(2, .int z9_), (1, .int (τ17_.1 19)), (4, .int z9_), (3, .int v3_), (0, .ref (kA κ 0))]) hx hb dX11_best_80 rfl hl (Nat.le_of_ble_eq_true rfl) rfl (fun ls hl => ?_)
              obtain ⟨z21_, ez21_⟩ : ∃ y : Int32, y = v3_ + 1 := ⟨_, rfl⟩
              have o9 : -2147483648 ≤ v3_.toInt + 1 := by omega
              have o10 : v3_.toInt + 1 ≤ 2147483647 := by omega
              have tz21_ := ti_add ez21_ rfl rg_18 o9 o10
              refine lv_iinc (v := z21_) (lv' := [(3, .int z21_), (2, .int z9_), (1, .int (τ17_.1 19)), (4, .int z9_), (0, .ref (kA κ 0))]) hx hb dX11_best_81 hl (k := 3) rfl (iincp ez21_ rg_6) (Nat.le_of_ble_eq_true rfl) rfl (fun ls hl => ?_)
              refine lv_goto (tgt := 13) hx hb dX11_best_84 rfl ?_
              have o11 : (4096 - z21_.toInt).toNat < n13_ := by omega
              have o12 : 0 ≤ z21_.toInt := by omega
              exact ih13_ τ17_ (τ17_.1 19) z9_ z21_ _ _ _ o11 hτ17_ o12 hP hD hS (lv_sub hl [2, 1, 0, 4] rfl)
  have kk22_ : (0 : Int32).toInt = 0 := rg_11
  have kk23_ : (0 : Int32).toInt = 0 := rg_11
  have kk24_ : (0 : Int32).toInt = 0 := rg_11
  have o13 : 0 ≤ (0 : Int32).toInt := by omega
  exact pt13_ _ τ2_ 0 0 0 _ _ _ (Nat.lt_succ_self _) hτ2_ o13 hP hD hS (lv_sub hl [2, 1, 0, 3] rfl)
