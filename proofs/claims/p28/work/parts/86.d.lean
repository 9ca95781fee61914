theorem dX11_guard_0 : decode cX11_guard 0 = .ok (.aload_n 0, 1) := by decide +kernel
theorem dX11_guard_1 : decode cX11_guard 1 = .ok (.getfield 26, 3) := by decide +kernel
theorem dX11_guard_4 : decode cX11_guard 4 = .ok (.iload_n 1, 1) := by decide +kernel
theorem dX11_guard_5 : decode cX11_guard 5 = .ok (.invokevirtual 227, 3) := by decide +kernel
theorem dX11_guard_8 : decode cX11_guard 8 = .ok (.ifCond .eq 25, 3) := by decide +kernel
theorem dX11_guard_33 : decode cX11_guard 33 = .ok (.iconst (-1), 1) := by decide +kernel
theorem dX11_guard_34 : decode cX11_guard 34 = .ok (.ireturn, 1) := by decide +kernel
theorem dX11_guard_11 : decode cX11_guard 11 = .ok (.aload_n 0, 1) := by decide +kernel
theorem dX11_guard_12 : decode cX11_guard 12 = .ok (.getfield 26, 3) := by decide +kernel
theorem dX11_guard_15 : decode cX11_guard 15 = .ok (.iload_n 2, 1) := by decide +kernel
theorem dX11_guard_16 : decode cX11_guard 16 = .ok (.invokevirtual 134, 3) := by decide +kernel
theorem dX11_guard_19 : decode cX11_guard 19 = .ok (.ifCond .eq 14, 3) := by decide +kernel
theorem dX11_guard_22 : decode cX11_guard 22 = .ok (.iload_n 3, 1) := by decide +kernel
theorem dX11_guard_23 : decode cX11_guard 23 = .ok (.ifCond .lt 10, 3) := by decide +kernel
theorem dX11_guard_26 : decode cX11_guard 26 = .ok (.iload_n 3, 1) := by decide +kernel
theorem dX11_guard_27 : decode cX11_guard 27 = .ok (.sipush 9999, 3) := by decide +kernel
theorem dX11_guard_30 : decode cX11_guard 30 = .ok (.if_icmp .le 5, 3) := by decide +kernel
theorem dX11_guard_35 : decode cX11_guard 35 = .ok (.aload_n 0, 1) := by decide +kernel
theorem dX11_guard_36 : decode cX11_guard 36 = .ok (.getfield 72, 3) := by decide +kernel
theorem dX11_guard_39 : decode cX11_guard 39 = .ok (.iconst 4, 1) := by decide +kernel
theorem dX11_guard_40 : decode cX11_guard 40 = .ok (.if_icmp .lt 5, 3) := by decide +kernel
theorem dX11_guard_45 : decode cX11_guard 45 = .ok (.aload_n 0, 1) := by decide +kernel
theorem dX11_guard_46 : decode cX11_guard 46 = .ok (.getfield 62, 3) := by decide +kernel
theorem dX11_guard_49 : decode cX11_guard 49 = .ok (.aload_n 0, 1) := by decide +kernel
theorem dX11_guard_50 : decode cX11_guard 50 = .ok (.getfield 72, 3) := by decide +kernel
theorem dX11_guard_53 : decode cX11_guard 53 = .ok (.iload_n 1, 1) := by decide +kernel
theorem dX11_guard_54 : decode cX11_guard 54 = .ok (.iastore, 1) := by decide +kernel
theorem dX11_guard_55 : decode cX11_guard 55 = .ok (.aload_n 0, 1) := by decide +kernel
theorem dX11_guard_56 : decode cX11_guard 56 = .ok (.getfield 66, 3) := by decide +kernel
theorem dX11_guard_59 : decode cX11_guard 59 = .ok (.aload_n 0, 1) := by decide +kernel
theorem dX11_guard_60 : decode cX11_guard 60 = .ok (.getfield 72, 3) := by decide +kernel
theorem dX11_guard_63 : decode cX11_guard 63 = .ok (.iload_n 2, 1) := by decide +kernel
theorem dX11_guard_64 : decode cX11_guard 64 = .ok (.iastore, 1) := by decide +kernel
theorem dX11_guard_65 : decode cX11_guard 65 = .ok (.aload_n 0, 1) := by decide +kernel
theorem dX11_guard_66 : decode cX11_guard 66 = .ok (.getfield 69, 3) := by decide +kernel
theorem dX11_guard_69 : decode cX11_guard 69 = .ok (.aload_n 0, 1) := by decide +kernel
theorem dX11_guard_70 : decode cX11_guard 70 = .ok (.getfield 72, 3) := by decide +kernel
theorem dX11_guard_73 : decode cX11_guard 73 = .ok (.iload_n 3, 1) := by decide +kernel
theorem dX11_guard_74 : decode cX11_guard 74 = .ok (.iastore, 1) := by decide +kernel
theorem dX11_guard_75 : decode cX11_guard 75 = .ok (.aload_n 0, 1) := by decide +kernel
theorem dX11_guard_76 : decode cX11_guard 76 = .ok (.dup, 1) := by decide +kernel
theorem dX11_guard_77 : decode cX11_guard 77 = .ok (.getfield 72, 3) := by decide +kernel
theorem dX11_guard_80 : decode cX11_guard 80 = .ok (.iconst 1, 1) := by decide +kernel
theorem dX11_guard_81 : decode cX11_guard 81 = .ok (.iadd, 1) := by decide +kernel
theorem dX11_guard_82 : decode cX11_guard 82 = .ok (.putfield 72, 3) := by decide +kernel
theorem dX11_guard_85 : decode cX11_guard 85 = .ok (.aload_n 0, 1) := by decide +kernel
theorem dX11_guard_86 : decode cX11_guard 86 = .ok (.getfield 72, 3) := by decide +kernel
theorem dX11_guard_89 : decode cX11_guard 89 = .ok (.iconst 1, 1) := by decide +kernel
theorem dX11_guard_90 : decode cX11_guard 90 = .ok (.isub, 1) := by decide +kernel
theorem dX11_guard_91 : decode cX11_guard 91 = .ok (.ireturn, 1) := by decide +kernel
theorem dX11_guard_43 : decode cX11_guard 43 = .ok (.iconst (-1), 1) := by decide +kernel
theorem dX11_guard_44 : decode cX11_guard 44 = .ok (.ireturn, 1) := by decide +kernel
theorem dX11_turnsBack_0 : decode cX11_turnsBack 0 = .ok (.iload_n 2, 1) := by decide +kernel
theorem dX11_turnsBack_1 : decode cX11_turnsBack 1 = .ok (.bipush 12, 2) := by decide +kernel
theorem dX11_turnsBack_3 : decode cX11_turnsBack 3 = .ok (.imul, 1) := by decide +kernel
theorem dX11_turnsBack_4 : decode cX11_turnsBack 4 = .ok (.istore_n 3, 1) := by decide +kernel
theorem dX11_turnsBack_5 : decode cX11_turnsBack 5 = .ok (.aload_n 0, 1) := by decide +kernel
theorem dX11_turnsBack_6 : decode cX11_turnsBack 6 = .ok (.getfield 58, 3) := by decide +kernel
theorem dX11_turnsBack_9 : decode cX11_turnsBack 9 = .ok (.getfield 218, 3) := by decide +kernel
theorem dX11_turnsBack_12 : decode cX11_turnsBack 12 = .ok (.iload_n 3, 1) := by decide +kernel
theorem dX11_turnsBack_13 : decode cX11_turnsBack 13 = .ok (.aload_n 0, 1) := by decide +kernel
theorem dX11_turnsBack_14 : decode cX11_turnsBack 14 = .ok (.getfield 26, 3) := by decide +kernel
theorem dX11_turnsBack_17 : decode cX11_turnsBack 17 = .ok (.getfield 230, 3) := by decide +kernel
theorem dX11_turnsBack_20 : decode cX11_turnsBack 20 = .ok (.iload_n 1, 1) := by decide +kernel
theorem dX11_turnsBack_21 : decode cX11_turnsBack 21 = .ok (.iaload, 1) := by decide +kernel
theorem dX11_turnsBack_22 : decode cX11_turnsBack 22 = .ok (.iadd, 1) := by decide +kernel
theorem dX11_turnsBack_23 : decode cX11_turnsBack 23 = .ok (.laload, 1) := by decide +kernel
theorem dX11_turnsBack_24 : decode cX11_turnsBack 24 = .ok (.lstore 4, 2) := by decide +kernel
theorem dX11_turnsBack_26 : decode cX11_turnsBack 26 = .ok (.iconst 0, 1) := by decide +kernel
theorem dX11_turnsBack_27 : decode cX11_turnsBack 27 = .ok (.istore 6, 2) := by decide +kernel
theorem dX11_turnsBack_29 : decode cX11_turnsBack 29 = .ok (.iload 6, 2) := by decide +kernel
theorem dX11_turnsBack_31 : decode cX11_turnsBack 31 = .ok (.aload_n 0, 1) := by decide +kernel
theorem dX11_turnsBack_32 : decode cX11_turnsBack 32 = .ok (.getfield 72, 3) := by decide +kernel
theorem dX11_turnsBack_35 : decode cX11_turnsBack 35 = .ok (.if_icmp .ge 61, 3) := by decide +kernel
theorem dX11_turnsBack_96 : decode cX11_turnsBack 96 = .ok (.iconst 0, 1) := by decide +kernel
theorem dX11_turnsBack_97 : decode cX11_turnsBack 97 = .ok (.ireturn, 1) := by decide +kernel
theorem dX11_turnsBack_38 : decode cX11_turnsBack 38 = .ok (.lload 4, 2) := by decide +kernel
theorem dX11_turnsBack_40 : decode cX11_turnsBack 40 = .ok (.aload_n 0, 1) := by decide +kernel
theorem dX11_turnsBack_41 : decode cX11_turnsBack 41 = .ok (.getfield 58, 3) := by decide +kernel
theorem dX11_turnsBack_44 : decode cX11_turnsBack 44 = .ok (.getfield 218, 3) := by decide +kernel
theorem dX11_turnsBack_47 : decode cX11_turnsBack 47 = .ok (.iload_n 3, 1) := by decide +kernel
theorem dX11_turnsBack_48 : decode cX11_turnsBack 48 = .ok (.aload_n 0, 1) := by decide +kernel
theorem dX11_turnsBack_49 : decode cX11_turnsBack 49 = .ok (.getfield 66, 3) := by decide +kernel
theorem dX11_turnsBack_52 : decode cX11_turnsBack 52 = .ok (.iload 6, 2) := by decide +kernel
theorem dX11_turnsBack_54 : decode cX11_turnsBack 54 = .ok (.iaload, 1) := by decide +kernel
theorem dX11_turnsBack_55 : decode cX11_turnsBack 55 = .ok (.iadd, 1) := by decide +kernel
theorem dX11_turnsBack_56 : decode cX11_turnsBack 56 = .ok (.laload, 1) := by decide +kernel
theorem dX11_turnsBack_57 : decode cX11_turnsBack 57 = .ok (.lsub, 1) := by decide +kernel
theorem dX11_turnsBack_58 : decode cX11_turnsBack 58 = .ok (.invokestatic 244, 3) := by decide +kernel
theorem dX11_turnsBack_61 : decode cX11_turnsBack 61 = .ok (.lstore 7, 2) := by decide +kernel
theorem dX11_turnsBack_63 : decode cX11_turnsBack 63 = .ok (.aload_n 0, 1) := by decide +kernel
theorem dX11_turnsBack_64 : decode cX11_turnsBack 64 = .ok (.getfield 62, 3) := by decide +kernel
theorem dX11_turnsBack_67 : decode cX11_turnsBack 67 = .ok (.iload 6, 2) := by decide +kernel
theorem dX11_turnsBack_69 : decode cX11_turnsBack 69 = .ok (.iaload, 1) := by decide +kernel
theorem dX11_turnsBack_70 : decode cX11_turnsBack 70 = .ok (.iload_n 1, 1) := by decide +kernel
theorem dX11_turnsBack_71 : decode cX11_turnsBack 71 = .ok (.if_icmp .ne 19, 3) := by decide +kernel
theorem dX11_turnsBack_90 : decode cX11_turnsBack 90 = .ok (.iinc 6 1, 3) := by decide +kernel
theorem dX11_turnsBack_93 : decode cX11_turnsBack 93 = .ok (.goto (-64), 3) := by decide +kernel
theorem dX11_turnsBack_74 : decode cX11_turnsBack 74 = .ok (.lload 7, 2) := by decide +kernel
theorem dX11_turnsBack_76 : decode cX11_turnsBack 76 = .ok (.aload_n 0, 1) := by decide +kernel
theorem dX11_turnsBack_77 : decode cX11_turnsBack 77 = .ok (.getfield 69, 3) := by decide +kernel
theorem dX11_turnsBack_80 : decode cX11_turnsBack 80 = .ok (.iload 6, 2) := by decide +kernel
theorem dX11_turnsBack_82 : decode cX11_turnsBack 82 = .ok (.iaload, 1) := by decide +kernel
theorem dX11_turnsBack_83 : decode cX11_turnsBack 83 = .ok (.i2l, 1) := by decide +kernel
theorem dX11_turnsBack_84 : decode cX11_turnsBack 84 = .ok (.lcmp, 1) := by decide +kernel
theorem dX11_turnsBack_85 : decode cX11_turnsBack 85 = .ok (.ifCond .le 5, 3) := by decide +kernel
theorem dX11_turnsBack_88 : decode cX11_turnsBack 88 = .ok (.iconst 1, 1) := by decide +kernel
theorem dX11_turnsBack_89 : decode cX11_turnsBack 89 = .ok (.ireturn, 1) := by decide +kernel
theorem dX11_through_0 : decode cX11_through 0 = .ok (.aload_n 0, 1) := by decide +kernel
theorem dX11_through_1 : decode cX11_through 1 = .ok (.getfield 26, 3) := by decide +kernel
theorem dX11_through_4 : decode cX11_through 4 = .ok (.iload_n 1, 1) := by decide +kernel
theorem dX11_through_5 : decode cX11_through 5 = .ok (.invokevirtual 227, 3) := by decide +kernel
theorem dX11_through_8 : decode cX11_through 8 = .ok (.ifCond .eq 11, 3) := by decide +kernel
theorem dX11_through_19 : decode cX11_through 19 = .ok (.iconst (-1), 1) := by decide +kernel
theorem dX11_through_20 : decode cX11_through 20 = .ok (.ireturn, 1) := by decide +kernel
theorem dX11_through_11 : decode cX11_through 11 = .ok (.aload_n 0, 1) := by decide +kernel
theorem dX11_through_12 : decode cX11_through 12 = .ok (.iload_n 2, 1) := by decide +kernel
theorem dX11_through_13 : decode cX11_through 13 = .ok (.invokevirtual 209, 3) := by decide +kernel
theorem dX11_through_16 : decode cX11_through 16 = .ok (.ifCond .ne 5, 3) := by decide +kernel
theorem dX11_through_21 : decode cX11_through 21 = .ok (.iconst 0, 1) := by decide +kernel
theorem dX11_through_22 : decode cX11_through 22 = .ok (.istore_n 3, 1) := by decide +kernel
theorem dX11_through_23 : decode cX11_through 23 = .ok (.iconst 0, 1) := by decide +kernel
theorem dX11_through_24 : decode cX11_through 24 = .ok (.istore 4, 2) := by decide +kernel
theorem dX11_through_26 : decode cX11_through 26 = .ok (.iload 4, 2) := by decide +kernel
theorem dX11_through_28 : decode cX11_through 28 = .ok (.aload_n 0, 1) := by decide +kernel
theorem dX11_through_29 : decode cX11_through 29 = .ok (.getfield 33, 3) := by decide +kernel
theorem dX11_through_32 : decode cX11_through 32 = .ok (.getfield 111, 3) := by decide +kernel
theorem dX11_through_35 : decode cX11_through 35 = .ok (.if_icmp .ge 75, 3) := by decide +kernel
theorem dX11_through_110 : decode cX11_through 110 = .ok (.iload_n 3, 1) := by decide +kernel
theorem dX11_through_111 : decode cX11_through 111 = .ok (.ireturn, 1) := by decide +kernel
theorem dX11_through_38 : decode cX11_through 38 = .ok (.aload_n 0, 1) := by decide +kernel
theorem dX11_through_39 : decode cX11_through 39 = .ok (.getfield 58, 3) := by decide +kernel
theorem dX11_through_42 : decode cX11_through 42 = .ok (.iload 4, 2) := by decide +kernel
theorem dX11_through_44 : decode cX11_through 44 = .ok (.iconst 0, 1) := by decide +kernel
theorem dX11_through_45 : decode cX11_through 45 = .ok (.aload_n 0, 1) := by decide +kernel
theorem dX11_through_46 : decode cX11_through 46 = .ok (.invokevirtual 159, 3) := by decide +kernel
theorem dX11_through_49 : decode cX11_through 49 = .ok (.invokevirtual 214, 3) := by decide +kernel
theorem dX11_through_52 : decode cX11_through 52 = .ok (.aload_n 0, 1) := by decide +kernel
theorem dX11_through_53 : decode cX11_through 53 = .ok (.getfield 58, 3) := by decide +kernel
theorem dX11_through_56 : decode cX11_through 56 = .ok (.iload 4, 2) := by decide +kernel
theorem dX11_through_58 : decode cX11_through 58 = .ok (.aload_n 0, 1) := by decide +kernel
theorem dX11_through_59 : decode cX11_through 59 = .ok (.getfield 26, 3) := by decide +kernel
theorem dX11_through_62 : decode cX11_through 62 = .ok (.getfield 230, 3) := by decide +kernel
theorem dX11_through_65 : decode cX11_through 65 = .ok (.iload_n 1, 1) := by decide +kernel
theorem dX11_through_66 : decode cX11_through 66 = .ok (.iaload, 1) := by decide +kernel
theorem dX11_through_67 : decode cX11_through 67 = .ok (.invokevirtual 237, 3) := by decide +kernel
theorem dX11_through_70 : decode cX11_through 70 = .ok (.invokestatic 244, 3) := by decide +kernel
theorem dX11_through_73 : decode cX11_through 73 = .ok (.lstore 5, 2) := by decide +kernel
theorem dX11_through_75 : decode cX11_through 75 = .ok (.lload 5, 2) := by decide +kernel
theorem dX11_through_77 : decode cX11_through 77 = .ok (.aload_n 0, 1) := by decide +kernel
theorem dX11_through_78 : decode cX11_through 78 = .ok (.getfield 26, 3) := by decide +kernel
theorem dX11_through_81 : decode cX11_through 81 = .ok (.getfield 287, 3) := by decide +kernel
theorem dX11_through_84 : decode cX11_through 84 = .ok (.iload_n 1, 1) := by decide +kernel
theorem dX11_through_85 : decode cX11_through 85 = .ok (.iaload, 1) := by decide +kernel
theorem dX11_through_86 : decode cX11_through 86 = .ok (.i2l, 1) := by decide +kernel
theorem dX11_through_87 : decode cX11_through 87 = .ok (.lcmp, 1) := by decide +kernel
theorem dX11_through_88 : decode cX11_through 88 = .ok (.ifCond .le 16, 3) := by decide +kernel
theorem dX11_through_104 : decode cX11_through 104 = .ok (.iinc 4 1, 3) := by decide +kernel
theorem dX11_through_107 : decode cX11_through 107 = .ok (.goto (-81), 3) := by decide +kernel
theorem dX11_through_91 : decode cX11_through 91 = .ok (.aload_n 0, 1) := by decide +kernel
theorem dX11_through_92 : decode cX11_through 92 = .ok (.iload_n 1, 1) := by decide +kernel
theorem dX11_through_93 : decode cX11_through 93 = .ok (.iload 4, 2) := by decide +kernel
theorem dX11_through_95 : decode cX11_through 95 = .ok (.invokevirtual 343, 3) := by decide +kernel
theorem dX11_through_98 : decode cX11_through 98 = .ok (.ifCond .ne 6, 3) := by decide +kernel
theorem dX11_through_101 : decode cX11_through 101 = .ok (.iinc 3 1, 3) := by decide +kernel
theorem dX11_turned_0 : decode cX11_turned 0 = .ok (.aload_n 0, 1) := by decide +kernel
theorem dX11_turned_1 : decode cX11_turned 1 = .ok (.getfield 26, 3) := by decide +kernel
theorem dX11_turned_4 : decode cX11_turned 4 = .ok (.iload_n 1, 1) := by decide +kernel
theorem dX11_turned_5 : decode cX11_turned 5 = .ok (.invokevirtual 227, 3) := by decide +kernel
theorem dX11_turned_8 : decode cX11_turned 8 = .ok (.ifCond .eq 11, 3) := by decide +kernel
theorem dX11_turned_19 : decode cX11_turned 19 = .ok (.iconst (-1), 1) := by decide +kernel
theorem dX11_turned_20 : decode cX11_turned 20 = .ok (.ireturn, 1) := by decide +kernel
theorem dX11_turned_11 : decode cX11_turned 11 = .ok (.aload_n 0, 1) := by decide +kernel
theorem dX11_turned_12 : decode cX11_turned 12 = .ok (.iload_n 2, 1) := by decide +kernel
theorem dX11_turned_13 : decode cX11_turned 13 = .ok (.invokevirtual 209, 3) := by decide +kernel
theorem dX11_turned_16 : decode cX11_turned 16 = .ok (.ifCond .ne 5, 3) := by decide +kernel
theorem dX11_turned_21 : decode cX11_turned 21 = .ok (.iconst 0, 1) := by decide +kernel
theorem dX11_turned_22 : decode cX11_turned 22 = .ok (.istore_n 3, 1) := by decide +kernel
theorem dX11_turned_23 : decode cX11_turned 23 = .ok (.iconst 0, 1) := by decide +kernel
theorem dX11_turned_24 : decode cX11_turned 24 = .ok (.istore 4, 2) := by decide +kernel
theorem dX11_turned_26 : decode cX11_turned 26 = .ok (.iload 4, 2) := by decide +kernel
theorem dX11_turned_28 : decode cX11_turned 28 = .ok (.aload_n 0, 1) := by decide +kernel
theorem dX11_turned_29 : decode cX11_turned 29 = .ok (.getfield 33, 3) := by decide +kernel
theorem dX11_turned_32 : decode cX11_turned 32 = .ok (.getfield 111, 3) := by decide +kernel
theorem dX11_turned_35 : decode cX11_turned 35 = .ok (.if_icmp .ge 36, 3) := by decide +kernel
theorem dX11_turned_71 : decode cX11_turned 71 = .ok (.iload_n 3, 1) := by decide +kernel
theorem dX11_turned_72 : decode cX11_turned 72 = .ok (.ireturn, 1) := by decide +kernel
theorem dX11_turned_38 : decode cX11_turned 38 = .ok (.aload_n 0, 1) := by decide +kernel
theorem dX11_turned_39 : decode cX11_turned 39 = .ok (.getfield 58, 3) := by decide +kernel
theorem dX11_turned_42 : decode cX11_turned 42 = .ok (.iload 4, 2) := by decide +kernel
theorem dX11_turned_44 : decode cX11_turned 44 = .ok (.iconst 0, 1) := by decide +kernel
theorem dX11_turned_45 : decode cX11_turned 45 = .ok (.aload_n 0, 1) := by decide +kernel
theorem dX11_turned_46 : decode cX11_turned 46 = .ok (.invokevirtual 159, 3) := by decide +kernel
theorem dX11_turned_49 : decode cX11_turned 49 = .ok (.invokevirtual 214, 3) := by decide +kernel
theorem dX11_turned_52 : decode cX11_turned 52 = .ok (.aload_n 0, 1) := by decide +kernel
theorem dX11_turned_53 : decode cX11_turned 53 = .ok (.iload_n 1, 1) := by decide +kernel
theorem dX11_turned_54 : decode cX11_turned 54 = .ok (.iload 4, 2) := by decide +kernel
theorem dX11_turned_56 : decode cX11_turned 56 = .ok (.invokevirtual 343, 3) := by decide +kernel
theorem dX11_turned_59 : decode cX11_turned 59 = .ok (.ifCond .eq 6, 3) := by decide +kernel
theorem dX11_turned_65 : decode cX11_turned 65 = .ok (.iinc 4 1, 3) := by decide +kernel
theorem dX11_turned_68 : decode cX11_turned 68 = .ok (.goto (-42), 3) := by decide +kernel
theorem dX11_turned_62 : decode cX11_turned 62 = .ok (.iinc 3 1, 3) := by decide +kernel
theorem dX11_errorByBits_0 : decode cX11_errorByBits 0 = .ok (.aload_n 0, 1) := by decide +kernel
theorem dX11_errorByBits_1 : decode cX11_errorByBits 1 = .ok (.getfield 33, 3) := by decide +kernel
theorem dX11_errorByBits_4 : decode cX11_errorByBits 4 = .ok (.bipush 40, 2) := by decide +kernel
theorem dX11_errorByBits_6 : decode cX11_errorByBits 6 = .ok (.iload_n 2, 1) := by decide +kernel
theorem dX11_errorByBits_7 : decode cX11_errorByBits 7 = .ok (.aload_n 0, 1) := by decide +kernel
theorem dX11_errorByBits_8 : decode cX11_errorByBits 8 = .ok (.getfield 26, 3) := by decide +kernel
theorem dX11_errorByBits_11 : decode cX11_errorByBits 11 = .ok (.invokevirtual 155, 3) := by decide +kernel
theorem dX11_errorByBits_14 : decode cX11_errorByBits 14 = .ok (.aload_n 0, 1) := by decide +kernel
theorem dX11_errorByBits_15 : decode cX11_errorByBits 15 = .ok (.getfield 58, 3) := by decide +kernel
theorem dX11_errorByBits_18 : decode cX11_errorByBits 18 = .ok (.bipush 40, 2) := by decide +kernel
theorem dX11_errorByBits_20 : decode cX11_errorByBits 20 = .ok (.aload_n 0, 1) := by decide +kernel
theorem dX11_errorByBits_21 : decode cX11_errorByBits 21 = .ok (.getfield 26, 3) := by decide +kernel
theorem dX11_errorByBits_24 : decode cX11_errorByBits 24 = .ok (.getfield 230, 3) := by decide +kernel
theorem dX11_errorByBits_27 : decode cX11_errorByBits 27 = .ok (.iload_n 1, 1) := by decide +kernel
theorem dX11_errorByBits_28 : decode cX11_errorByBits 28 = .ok (.iaload, 1) := by decide +kernel
theorem dX11_errorByBits_29 : decode cX11_errorByBits 29 = .ok (.invokevirtual 163, 3) := by decide +kernel
theorem dX11_errorByBits_32 : decode cX11_errorByBits 32 = .ok (.aload_n 0, 1) := by decide +kernel
theorem dX11_errorByBits_33 : decode cX11_errorByBits 33 = .ok (.iload_n 1, 1) := by decide +kernel
theorem dX11_errorByBits_34 : decode cX11_errorByBits 34 = .ok (.bipush 40, 2) := by decide +kernel
theorem dX11_errorByBits_36 : decode cX11_errorByBits 36 = .ok (.invokevirtual 241, 3) := by decide +kernel
theorem dX11_errorByBits_39 : decode cX11_errorByBits 39 = .ok (.lreturn, 1) := by decide +kernel
theorem dX11_worst_0 : decode cX11_worst 0 = .ok (.aload_n 0, 1) := by decide +kernel
theorem dX11_worst_1 : decode cX11_worst 1 = .ok (.getfield 26, 3) := by decide +kernel
theorem dX11_worst_4 : decode cX11_worst 4 = .ok (.iload_n 1, 1) := by decide +kernel
theorem dX11_worst_5 : decode cX11_worst 5 = .ok (.invokevirtual 227, 3) := by decide +kernel
theorem dX11_worst_8 : decode cX11_worst 8 = .ok (.ifCond .eq 20, 3) := by decide +kernel
theorem dX11_worst_28 : decode cX11_worst 28 = .ok (.ldc2_w 221, 3) := by decide +kernel
theorem dX11_worst_31 : decode cX11_worst 31 = .ok (.lreturn, 1) := by decide +kernel
theorem dX11_worst_11 : decode cX11_worst 11 = .ok (.iload_n 3, 1) := by decide +kernel
theorem dX11_worst_12 : decode cX11_worst 12 = .ok (.ifCond .lt 16, 3) := by decide +kernel
theorem dX11_worst_15 : decode cX11_worst 15 = .ok (.iload_n 3, 1) := by decide +kernel
theorem dX11_worst_16 : decode cX11_worst 16 = .ok (.iconst 1, 1) := by decide +kernel
theorem dX11_worst_17 : decode cX11_worst 17 = .ok (.if_icmp .gt 11, 3) := by decide +kernel
theorem dX11_worst_20 : decode cX11_worst 20 = .ok (.aload_n 0, 1) := by decide +kernel
theorem dX11_worst_21 : decode cX11_worst 21 = .ok (.iload_n 2, 1) := by decide +kernel
theorem dX11_worst_22 : decode cX11_worst 22 = .ok (.invokevirtual 209, 3) := by decide +kernel
theorem dX11_worst_25 : decode cX11_worst 25 = .ok (.ifCond .ne 7, 3) := by decide +kernel
theorem dX11_worst_32 : decode cX11_worst 32 = .ok (.lconst 0, 1) := by decide +kernel
theorem dX11_worst_33 : decode cX11_worst 33 = .ok (.lstore 4, 2) := by decide +kernel
theorem dX11_worst_35 : decode cX11_worst 35 = .ok (.iconst 0, 1) := by decide +kernel
theorem dX11_worst_36 : decode cX11_worst 36 = .ok (.istore 6, 2) := by decide +kernel
theorem dX11_worst_38 : decode cX11_worst 38 = .ok (.iconst 1, 1) := by decide +kernel
theorem dX11_worst_39 : decode cX11_worst 39 = .ok (.aload_n 0, 1) := by decide +kernel
theorem dX11_worst_40 : decode cX11_worst 40 = .ok (.getfield 26, 3) := by decide +kernel
theorem dX11_worst_43 : decode cX11_worst 43 = .ok (.invokevirtual 347, 3) := by decide +kernel
theorem dX11_worst_46 : decode cX11_worst 46 = .ok (.ishl, 1) := by decide +kernel
theorem dX11_worst_47 : decode cX11_worst 47 = .ok (.istore 7, 2) := by decide +kernel
theorem dX11_worst_49 : decode cX11_worst 49 = .ok (.iconst 0, 1) := by decide +kernel
theorem dX11_worst_50 : decode cX11_worst 50 = .ok (.istore 8, 2) := by decide +kernel
theorem dX11_worst_52 : decode cX11_worst 52 = .ok (.iload 8, 2) := by decide +kernel
theorem dX11_worst_54 : decode cX11_worst 54 = .ok (.iload 7, 2) := by decide +kernel
theorem dX11_worst_56 : decode cX11_worst 56 = .ok (.if_icmp .ge 40, 3) := by decide +kernel
theorem dX11_worst_96 : decode cX11_worst 96 = .ok (.iload_n 3, 1) := by decide +kernel
theorem dX11_worst_97 : decode cX11_worst 97 = .ok (.ifCond .ne 8, 3) := by decide +kernel
theorem dX11_worst_105 : decode cX11_worst 105 = .ok (.iload 6, 2) := by decide +kernel
theorem dX11_worst_107 : decode cX11_worst 107 = .ok (.i2l, 1) := by decide +kernel
theorem dX11_worst_108 : decode cX11_worst 108 = .ok (.lreturn, 1) := by decide +kernel
theorem dX11_worst_100 : decode cX11_worst 100 = .ok (.lload 4, 2) := by decide +kernel
theorem dX11_worst_102 : decode cX11_worst 102 = .ok (.goto 6, 3) := by decide +kernel
theorem dX11_worst_59 : decode cX11_worst 59 = .ok (.aload_n 0, 1) := by decide +kernel
theorem dX11_worst_60 : decode cX11_worst 60 = .ok (.iload_n 1, 1) := by decide +kernel
theorem dX11_worst_61 : decode cX11_worst 61 = .ok (.iload 8, 2) := by decide +kernel
theorem dX11_worst_63 : decode cX11_worst 63 = .ok (.invokevirtual 350, 3) := by decide +kernel
theorem dX11_worst_66 : decode cX11_worst 66 = .ok (.lstore 9, 2) := by decide +kernel
theorem dX11_worst_68 : decode cX11_worst 68 = .ok (.lload 9, 2) := by decide +kernel
theorem dX11_worst_70 : decode cX11_worst 70 = .ok (.invokestatic 244, 3) := by decide +kernel
theorem dX11_worst_73 : decode cX11_worst 73 = .ok (.lload 4, 2) := by decide +kernel
theorem dX11_worst_75 : decode cX11_worst 75 = .ok (.invokestatic 244, 3) := by decide +kernel
theorem dX11_worst_78 : decode cX11_worst 78 = .ok (.lcmp, 1) := by decide +kernel
theorem dX11_worst_79 : decode cX11_worst 79 = .ok (.ifCond .le 11, 3) := by decide +kernel
theorem dX11_worst_90 : decode cX11_worst 90 = .ok (.iinc 8 1, 3) := by decide +kernel
theorem dX11_worst_93 : decode cX11_worst 93 = .ok (.goto (-41), 3) := by decide +kernel
theorem dX11_worst_82 : decode cX11_worst 82 = .ok (.lload 9, 2) := by decide +kernel
theorem dX11_worst_84 : decode cX11_worst 84 = .ok (.lstore 4, 2) := by decide +kernel
theorem dX11_worst_86 : decode cX11_worst 86 = .ok (.iload 8, 2) := by decide +kernel
theorem dX11_worst_88 : decode cX11_worst 88 = .ok (.istore 6, 2) := by decide +kernel
theorem dX11_led_0 : decode cX11_led 0 = .ok (.aload_n 0, 1) := by decide +kernel
theorem dX11_led_1 : decode cX11_led 1 = .ok (.getfield 26, 3) := by decide +kernel
theorem dX11_led_4 : decode cX11_led 4 = .ok (.iload_n 1, 1) := by decide +kernel
theorem dX11_led_5 : decode cX11_led 5 = .ok (.invokevirtual 227, 3) := by decide +kernel
theorem dX11_led_8 : decode cX11_led 8 = .ok (.ifCond .eq 25, 3) := by decide +kernel
theorem dX11_led_33 : decode cX11_led 33 = .ok (.ldc2_w 221, 3) := by decide +kernel
theorem dX11_led_36 : decode cX11_led 36 = .ok (.lreturn, 1) := by decide +kernel
theorem dX11_led_11 : decode cX11_led 11 = .ok (.aload_n 0, 1) := by decide +kernel
theorem dX11_led_12 : decode cX11_led 12 = .ok (.getfield 33, 3) := by decide +kernel
theorem dX11_led_15 : decode cX11_led 15 = .ok (.iload_n 2, 1) := by decide +kernel
theorem dX11_led_16 : decode cX11_led 16 = .ok (.invokevirtual 167, 3) := by decide +kernel
theorem dX11_led_19 : decode cX11_led 19 = .ok (.ifCond .eq 14, 3) := by decide +kernel
theorem dX11_led_22 : decode cX11_led 22 = .ok (.aload_n 0, 1) := by decide +kernel
theorem dX11_led_23 : decode cX11_led 23 = .ok (.getfield 40, 3) := by decide +kernel
theorem dX11_led_26 : decode cX11_led 26 = .ok (.iload_n 3, 1) := by decide +kernel
theorem dX11_led_27 : decode cX11_led 27 = .ok (.invokevirtual 202, 3) := by decide +kernel
theorem dX11_led_30 : decode cX11_led 30 = .ok (.ifCond .ne 7, 3) := by decide +kernel
theorem dX11_led_37 : decode cX11_led 37 = .ok (.iload 4, 2) := by decide +kernel
theorem dX11_led_39 : decode cX11_led 39 = .ok (.ifCond .lt 24, 3) := by decide +kernel
theorem dX11_led_63 : decode cX11_led 63 = .ok (.ldc2_w 221, 3) := by decide +kernel
theorem dX11_led_66 : decode cX11_led 66 = .ok (.lreturn, 1) := by decide +kernel
theorem dX11_led_42 : decode cX11_led 42 = .ok (.iload 4, 2) := by decide +kernel
theorem dX11_led_44 : decode cX11_led 44 = .ok (.aload_n 0, 1) := by decide +kernel
theorem dX11_led_45 : decode cX11_led 45 = .ok (.getfield 40, 3) := by decide +kernel
theorem dX11_led_48 : decode cX11_led 48 = .ok (.getfield 190, 3) := by decide +kernel
theorem dX11_led_51 : decode cX11_led 51 = .ok (.if_icmp .ge 12, 3) := by decide +kernel
theorem dX11_led_54 : decode cX11_led 54 = .ok (.iload_n 3, 1) := by decide +kernel
theorem dX11_led_55 : decode cX11_led 55 = .ok (.iload 4, 2) := by decide +kernel
theorem dX11_led_57 : decode cX11_led 57 = .ok (.ishr, 1) := by decide +kernel
theorem dX11_led_58 : decode cX11_led 58 = .ok (.iconst 1, 1) := by decide +kernel
theorem dX11_led_59 : decode cX11_led 59 = .ok (.iand, 1) := by decide +kernel
theorem dX11_led_60 : decode cX11_led 60 = .ok (.ifCond .ne 7, 3) := by decide +kernel
theorem dX11_led_67 : decode cX11_led 67 = .ok (.iload_n 3, 1) := by decide +kernel
theorem dX11_led_68 : decode cX11_led 68 = .ok (.iconst 1, 1) := by decide +kernel
theorem dX11_led_69 : decode cX11_led 69 = .ok (.iload 4, 2) := by decide +kernel
theorem dX11_led_71 : decode cX11_led 71 = .ok (.ishl, 1) := by decide +kernel
theorem dX11_led_72 : decode cX11_led 72 = .ok (.iconst 1, 1) := by decide +kernel
theorem dX11_led_73 : decode cX11_led 73 = .ok (.isub, 1) := by decide +kernel
theorem dX11_led_74 : decode cX11_led 74 = .ok (.iand, 1) := by decide +kernel
theorem dX11_led_75 : decode cX11_led 75 = .ok (.istore 5, 2) := by decide +kernel
theorem dX11_led_77 : decode cX11_led 77 = .ok (.aload_n 0, 1) := by decide +kernel
theorem dX11_led_78 : decode cX11_led 78 = .ok (.iload 5, 2) := by decide +kernel
theorem dX11_led_80 : decode cX11_led 80 = .ok (.invokevirtual 209, 3) := by decide +kernel
theorem dX11_led_83 : decode cX11_led 83 = .ok (.ifCond .ne 7, 3) := by decide +kernel
theorem dX11_led_90 : decode cX11_led 90 = .ok (.aload_n 0, 1) := by decide +kernel
theorem dX11_led_91 : decode cX11_led 91 = .ok (.iload_n 1, 1) := by decide +kernel
theorem dX11_led_92 : decode cX11_led 92 = .ok (.iload_n 2, 1) := by decide +kernel
theorem dX11_led_93 : decode cX11_led 93 = .ok (.invokevirtual 241, 3) := by decide +kernel
theorem dX11_led_96 : decode cX11_led 96 = .ok (.lstore 6, 2) := by decide +kernel
theorem dX11_led_98 : decode cX11_led 98 = .ok (.aload_n 0, 1) := by decide +kernel
theorem dX11_led_99 : decode cX11_led 99 = .ok (.iload 5, 2) := by decide +kernel
theorem dX11_led_101 : decode cX11_led 101 = .ok (.iconst 1, 1) := by decide +kernel
theorem dX11_led_102 : decode cX11_led 102 = .ok (.iload 4, 2) := by decide +kernel
theorem dX11_led_104 : decode cX11_led 104 = .ok (.ishl, 1) := by decide +kernel
theorem dX11_led_105 : decode cX11_led 105 = .ok (.ior, 1) := by decide +kernel
theorem dX11_led_106 : decode cX11_led 106 = .ok (.invokevirtual 209, 3) := by decide +kernel
theorem dX11_led_109 : decode cX11_led 109 = .ok (.ifCond .eq 15, 3) := by decide +kernel
theorem dX11_led_124 : decode cX11_led 124 = .ok (.ldc2_w 221, 3) := by decide +kernel
theorem dX11_led_127 : decode cX11_led 127 = .ok (.lreturn, 1) := by decide +kernel
theorem dX11_led_112 : decode cX11_led 112 = .ok (.aload_n 0, 1) := by decide +kernel
theorem dX11_led_113 : decode cX11_led 113 = .ok (.iload_n 1, 1) := by decide +kernel
theorem dX11_led_114 : decode cX11_led 114 = .ok (.iload_n 2, 1) := by decide +kernel
theorem dX11_led_115 : decode cX11_led 115 = .ok (.invokevirtual 241, 3) := by decide +kernel
theorem dX11_led_118 : decode cX11_led 118 = .ok (.lload 6, 2) := by decide +kernel
theorem dX11_led_120 : decode cX11_led 120 = .ok (.lsub, 1) := by decide +kernel
theorem dX11_led_121 : decode cX11_led 121 = .ok (.goto 6, 3) := by decide +kernel
theorem dX11_led_86 : decode cX11_led 86 = .ok (.ldc2_w 221, 3) := by decide +kernel
theorem dX11_led_89 : decode cX11_led 89 = .ok (.lreturn, 1) := by decide +kernel
theorem dX11_purse_0 : decode cX11_purse 0 = .ok (.iload_n 1, 1) := by decide +kernel
theorem dX11_purse_1 : decode cX11_purse 1 = .ok (.ifCond .lt 10, 3) := by decide +kernel
theorem dX11_purse_11 : decode cX11_purse 11 = .ok (.iconst 0, 1) := by decide +kernel
theorem dX11_purse_12 : decode cX11_purse 12 = .ok (.ireturn, 1) := by decide +kernel
theorem dX11_purse_4 : decode cX11_purse 4 = .ok (.iload_n 1, 1) := by decide +kernel
theorem dX11_purse_5 : decode cX11_purse 5 = .ok (.ldc_w 353, 3) := by decide +kernel
theorem dX11_purse_8 : decode cX11_purse 8 = .ok (.if_icmp .le 5, 3) := by decide +kernel
theorem dX11_purse_13 : decode cX11_purse 13 = .ok (.aload_n 0, 1) := by decide +kernel
theorem dX11_purse_14 : decode cX11_purse 14 = .ok (.iload_n 1, 1) := by decide +kernel
theorem dX11_purse_15 : decode cX11_purse 15 = .ok (.putfield 75, 3) := by decide +kernel
theorem dX11_purse_18 : decode cX11_purse 18 = .ok (.iconst 1, 1) := by decide +kernel
theorem dX11_purse_19 : decode cX11_purse 19 = .ok (.ireturn, 1) := by decide +kernel
theorem dX11_day_0 : decode cX11_day 0 = .ok (.aload_n 0, 1) := by decide +kernel
theorem dX11_day_1 : decode cX11_day 1 = .ok (.getfield 26, 3) := by decide +kernel
theorem dX11_day_4 : decode cX11_day 4 = .ok (.iload_n 1, 1) := by decide +kernel
theorem dX11_day_5 : decode cX11_day 5 = .ok (.invokevirtual 227, 3) := by decide +kernel
theorem dX11_day_8 : decode cX11_day 8 = .ok (.ifCond .eq 22, 3) := by decide +kernel
theorem dX11_day_30 : decode cX11_day 30 = .ok (.iconst (-1), 1) := by decide +kernel
theorem dX11_day_31 : decode cX11_day 31 = .ok (.ireturn, 1) := by decide +kernel
theorem dX11_day_11 : decode cX11_day 11 = .ok (.aload_n 0, 1) := by decide +kernel
theorem dX11_day_12 : decode cX11_day 12 = .ok (.getfield 33, 3) := by decide +kernel
theorem dX11_day_15 : decode cX11_day 15 = .ok (.iload_n 2, 1) := by decide +kernel
theorem dX11_day_16 : decode cX11_day 16 = .ok (.invokevirtual 167, 3) := by decide +kernel
theorem dX11_day_19 : decode cX11_day 19 = .ok (.ifCond .eq 11, 3) := by decide +kernel
theorem dX11_day_22 : decode cX11_day 22 = .ok (.aload_n 0, 1) := by decide +kernel
theorem dX11_day_23 : decode cX11_day 23 = .ok (.iload_n 3, 1) := by decide +kernel
theorem dX11_day_24 : decode cX11_day 24 = .ok (.invokevirtual 209, 3) := by decide +kernel
theorem dX11_day_27 : decode cX11_day 27 = .ok (.ifCond .ne 5, 3) := by decide +kernel
theorem dX11_day_32 : decode cX11_day 32 = .ok (.aload_n 0, 1) := by decide +kernel
theorem dX11_day_33 : decode cX11_day 33 = .ok (.iload_n 1, 1) := by decide +kernel
theorem dX11_day_34 : decode cX11_day 34 = .ok (.iload_n 2, 1) := by decide +kernel
theorem dX11_day_35 : decode cX11_day 35 = .ok (.invokevirtual 241, 3) := by decide +kernel
theorem dX11_day_38 : decode cX11_day 38 = .ok (.invokestatic 244, 3) := by decide +kernel
theorem dX11_day_41 : decode cX11_day 41 = .ok (.lstore 4, 2) := by decide +kernel
theorem dX11_day_43 : decode cX11_day 43 = .ok (.lload 4, 2) := by decide +kernel
theorem dX11_day_45 : decode cX11_day 45 = .ok (.aload_n 0, 1) := by decide +kernel
theorem dX11_day_46 : decode cX11_day 46 = .ok (.getfield 75, 3) := by decide +kernel
theorem dX11_day_49 : decode cX11_day 49 = .ok (.i2l, 1) := by decide +kernel
theorem dX11_day_50 : decode cX11_day 50 = .ok (.lcmp, 1) := by decide +kernel
theorem dX11_day_51 : decode cX11_day 51 = .ok (.ifCond .le 6, 3) := by decide +kernel
theorem dX11_day_57 : decode cX11_day 57 = .ok (.aload_n 0, 1) := by decide +kernel
theorem dX11_day_58 : decode cX11_day 58 = .ok (.dup, 1) := by decide +kernel
theorem dX11_day_59 : decode cX11_day 59 = .ok (.getfield 75, 3) := by decide +kernel
theorem dX11_day_62 : decode cX11_day 62 = .ok (.lload 4, 2) := by decide +kernel
theorem dX11_day_64 : decode cX11_day 64 = .ok (.l2i, 1) := by decide +kernel
theorem dX11_day_65 : decode cX11_day 65 = .ok (.isub, 1) := by decide +kernel
theorem dX11_day_66 : decode cX11_day 66 = .ok (.putfield 75, 3) := by decide +kernel
theorem dX11_day_69 : decode cX11_day 69 = .ok (.aload_n 0, 1) := by decide +kernel
theorem dX11_day_70 : decode cX11_day 70 = .ok (.getfield 75, 3) := by decide +kernel
theorem dX11_day_73 : decode cX11_day 73 = .ok (.ireturn, 1) := by decide +kernel
theorem dX11_day_54 : decode cX11_day 54 = .ok (.bipush (-2), 2) := by decide +kernel
theorem dX11_day_56 : decode cX11_day 56 = .ok (.ireturn, 1) := by decide +kernel
theorem dX11_canPlan_0 : decode cX11_canPlan 0 = .ok (.aload_n 0, 1) := by decide +kernel
theorem dX11_canPlan_1 : decode cX11_canPlan 1 = .ok (.getfield 26, 3) := by decide +kernel
theorem dX11_canPlan_4 : decode cX11_canPlan 4 = .ok (.iload_n 1, 1) := by decide +kernel
theorem dX11_canPlan_5 : decode cX11_canPlan 5 = .ok (.invokevirtual 227, 3) := by decide +kernel
theorem dX11_canPlan_8 : decode cX11_canPlan 8 = .ok (.ifCond .eq 18, 3) := by decide +kernel
theorem dX11_canPlan_26 : decode cX11_canPlan 26 = .ok (.iconst 0, 1) := by decide +kernel
theorem dX11_canPlan_27 : decode cX11_canPlan 27 = .ok (.ireturn, 1) := by decide +kernel
theorem dX11_canPlan_11 : decode cX11_canPlan 11 = .ok (.iload_n 2, 1) := by decide +kernel
theorem dX11_canPlan_12 : decode cX11_canPlan 12 = .ok (.ifCond .lt 14, 3) := by decide +kernel
theorem dX11_canPlan_15 : decode cX11_canPlan 15 = .ok (.iload_n 2, 1) := by decide +kernel
theorem dX11_canPlan_16 : decode cX11_canPlan 16 = .ok (.sipush 400, 3) := by decide +kernel
theorem dX11_canPlan_19 : decode cX11_canPlan 19 = .ok (.if_icmp .gt 7, 3) := by decide +kernel
theorem dX11_canPlan_22 : decode cX11_canPlan 22 = .ok (.iconst 1, 1) := by decide +kernel
theorem dX11_canPlan_23 : decode cX11_canPlan 23 = .ok (.goto 4, 3) := by decide +kernel
theorem dX11_about_0 : decode cX11_about 0 = .ok (.iload_n 1, 1) := by decide +kernel
theorem dX11_about_1 : decode cX11_about 1 = .ok (.tableswitch 102 0 7 #[47, 55, 63, 71, 79, 87, 92, 97], 47) := by decide +kernel
theorem dX11_about_103 : decode cX11_about 103 = .ok (.iconst (-1), 1) := by decide +kernel
theorem dX11_about_104 : decode cX11_about 104 = .ok (.ireturn, 1) := by decide +kernel
theorem dX11_about_48 : decode cX11_about 48 = .ok (.aload_n 0, 1) := by decide +kernel
theorem dX11_about_49 : decode cX11_about 49 = .ok (.getfield 26, 3) := by decide +kernel
theorem dX11_about_52 : decode cX11_about 52 = .ok (.getfield 170, 3) := by decide +kernel
theorem dX11_about_55 : decode cX11_about 55 = .ok (.ireturn, 1) := by decide +kernel
theorem dX11_about_56 : decode cX11_about 56 = .ok (.aload_n 0, 1) := by decide +kernel
theorem dX11_about_57 : decode cX11_about 57 = .ok (.getfield 26, 3) := by decide +kernel
theorem dX11_about_60 : decode cX11_about 60 = .ok (.getfield 123, 3) := by decide +kernel
theorem dX11_about_63 : decode cX11_about 63 = .ok (.ireturn, 1) := by decide +kernel
theorem dX11_about_64 : decode cX11_about 64 = .ok (.aload_n 0, 1) := by decide +kernel
theorem dX11_about_65 : decode cX11_about 65 = .ok (.getfield 26, 3) := by decide +kernel
theorem dX11_about_68 : decode cX11_about 68 = .ok (.getfield 281, 3) := by decide +kernel
theorem dX11_about_71 : decode cX11_about 71 = .ok (.ireturn, 1) := by decide +kernel
theorem dX11_about_72 : decode cX11_about 72 = .ok (.aload_n 0, 1) := by decide +kernel
theorem dX11_about_73 : decode cX11_about 73 = .ok (.getfield 33, 3) := by decide +kernel
theorem dX11_about_76 : decode cX11_about 76 = .ok (.getfield 111, 3) := by decide +kernel
theorem dX11_about_79 : decode cX11_about 79 = .ok (.ireturn, 1) := by decide +kernel
theorem dX11_about_80 : decode cX11_about 80 = .ok (.aload_n 0, 1) := by decide +kernel
theorem dX11_about_81 : decode cX11_about 81 = .ok (.getfield 40, 3) := by decide +kernel
theorem dX11_about_84 : decode cX11_about 84 = .ok (.getfield 190, 3) := by decide +kernel
theorem dX11_about_87 : decode cX11_about 87 = .ok (.ireturn, 1) := by decide +kernel
theorem dX11_about_88 : decode cX11_about 88 = .ok (.aload_n 0, 1) := by decide +kernel
theorem dX11_about_89 : decode cX11_about 89 = .ok (.getfield 72, 3) := by decide +kernel
theorem dX11_about_92 : decode cX11_about 92 = .ok (.ireturn, 1) := by decide +kernel
theorem dX11_about_93 : decode cX11_about 93 = .ok (.aload_n 0, 1) := by decide +kernel
theorem dX11_about_94 : decode cX11_about 94 = .ok (.getfield 75, 3) := by decide +kernel
theorem dX11_about_97 : decode cX11_about 97 = .ok (.ireturn, 1) := by decide +kernel
theorem dX11_about_98 : decode cX11_about 98 = .ok (.aload_n 0, 1) := by decide +kernel
theorem dX11_about_99 : decode cX11_about 99 = .ok (.getfield 13, 3) := by decide +kernel
theorem dX11_about_102 : decode cX11_about 102 = .ok (.ireturn, 1) := by decide +kernel

def ow_k_guard : List Cond := [.fieldLink RX11 26 "NearEnough" "told" "LNearEnough$Program;", .fieldLink RX11 72 "NearEnough" "guards" "I", .fieldLink RX11 62 "NearEnough" "guardEnd" "[I", .fieldLink RX11 66 "NearEnough" "guardStep" "[I", .fieldLink RX11 69 "NearEnough" "guardWithin" "[I"]
def vs_k_guard : List Cond := .code yX11_guard cX11_guard 4 (some .int) :: (ow_k_guard ++ (([.methodLink RX11 227 yX3_hasEnd, .instanceMethod yX3_hasEnd, .selects RX3 yX3_hasEnd yX3_hasEnd, .initialized RX3] : List Cond) ++ (vs_k_hasEnd ++ (([.methodLink RX11 134 yX3_hasStep, .instanceMethod yX3_hasStep, .selects RX3 yX3_hasStep yX3_hasStep, .initialized RX3] : List Cond) ++ (vs_k_hasStep ++ (wsX110))))))
theorem vg_k_guard : vs_k_guard.all goodWord = true := by decide +kernel
theorem dd_k_guard : yX11_guard.cls = RX11 ∧ yX11_guard.cls ≠ "java/lang/invoke/MethodHandle" ∧ yX11_guard.cls ≠ "java/lang/invoke/VarHandle" ∧ (parseMethodDescriptor yX11_guard.desc).map (fun d => d.parameters.length) = some 3 := by decide +kernel
def rm_k_guard : Room := { frames := 1, cells := 0, slots := 0, locals := 21 }
theorem gd_k_guard_227_k_hasEnd : GoodIn vs_k_guard (wsV RX11 227 RX3 yX3_hasEnd vs_k_hasEnd) := goodIn_app (goodIn_sub (fun w h => (List.mem_cons_of_mem _ (List.mem_append_right _ (List.mem_append_left _ h)))) (by decide +kernel)) (goodIn_sub (fun w h => (List.mem_cons_of_mem _ (List.mem_append_right _ (List.mem_append_right _ (List.mem_append_left _ h))))) vg_k_hasEnd)
theorem gd_k_guard_134_k_hasStep : GoodIn vs_k_guard (wsV RX11 134 RX3 yX3_hasStep vs_k_hasStep) := goodIn_app (goodIn_sub (fun w h => (List.mem_cons_of_mem _ (List.mem_append_right _ (List.mem_append_right _ (List.mem_append_right _ (List.mem_append_left _ h)))))) (by decide +kernel)) (goodIn_sub (fun w h => (List.mem_cons_of_mem _ (List.mem_append_right _ (List.mem_append_right _ (List.mem_append_right _ (List.mem_append_right _ (List.mem_append_left _ h))))))) vg_k_hasStep)
set_option maxHeartbeats 4000000 in
set_option maxRecDepth 100000 in
theorem k_guard (l : Launch) (dC : Nat → ClassId) (dI : Nat → Nat → Nat) (κ : CE) (sz : Nat) (σ : MS) (x : Int32) (y : Int32) (z : Int32) (hk : PInv κ) (hI : CInv σ)  : Met l yX11_guard vs_k_guard rm_k_guard (va_Pc [.ref (kA κ 0), .int x, .int y, .int z] (wSy dC dI (cW κ σ) (cT κ) sz)) (va_Qi (fun (r : Int32) (τ : MS) => CInv τ ∧ True) (fun (τ : MS) => wEn dC dI (va_A (cW κ σ) sz) (cW κ τ) []) (va_A (cW κ σ) sz)) 0 0 (va_A (cW κ σ) sz) := by
  refine Met.ofW (cc := cX11_guard) (maxL := 4) (ret := (some .int)) (by decide +kernel) rfl ?_
  intro p e s m args below meth c s₁ B hml hv
  obtain ⟨rfl, hsz, hP, hK, hD0, hE⟩ := hv
  have hx := B.exec
  have hb := B.bytes
  have hr := B.returns
  have hts := atoms_spec (ws := vs_k_guard) B.pre
  have hown : s.vm.findClass RX11 = some m.cls := findClass_of_methodNamed B.named
  have hlocks := B.notSynchronized
  subst hsz
  have hD := hD0.self (sz := s.heap.size)
  generalize hAe : va_A (cW κ σ) s.heap.size = A at hD ⊢
  have hA : ∀ q : Nat, s.heap.size ≤ q → A q := fun q h => by rw [← hAe]; exact Or.inr h
  have hl := lv_entry ([.ref (kA κ 0), .int x, .int y, .int z]) (n := 4) (Nat.le_of_ble_eq_true rfl)
  rw [lg_entry_eq]
  generalize (lg_sl ([.ref (kA κ 0), .int x, .int y, .int z]) ++ List.replicate (4 - (lg_sl ([.ref (kA κ 0), .int x, .int y, .int z])).length) Slot.unset).toArray = ls at hl ⊢
  have hl : lv_has ls 4 [(0, .ref (kA κ 0)), (1, .int x), (2, .int y), (3, .int z)] := hl
  have ho := fun w (h : w ∈ ow_k_guard) => hts w (List.mem_cons_of_mem _ (List.mem_append_left _ h))
  have hin11 : ∀ w ∈ u_ws RX11 TX11 17, w ∈ vs_k_guard := fun w h => (List.mem_cons_of_mem _ (List.mem_append_right _ (List.mem_append_right _ (List.mem_append_right _ (List.mem_append_right _ (List.mem_append_right _ h))))))
  refine zQ (fun Q hQ => ?_)
  refine zH (A := A) (ws := (cW κ σ)) (fun H hP hS => ?_) hP
  have hk0 := hk.1
  have hk1 := hk.2.1
  have hk2 := hk.2.2.1
  refine lv_aload_n hx hb dX11_guard_0 rfl (lv_at hl 0 rfl) ?_
  refine va_get (D := (dC, dI)) (ci := 11) (v := .ref (kA κ 6)) (C := RX11) (T := TX11) (N := 17) hx hb hts hin11 hown hK hP 0 rfl rfl 4 (Nat.le_of_ble_eq_true rfl) (ho (.fieldLink RX11 26 "NearEnough" "told" "LNearEnough$Program;") (List.mem_of_getElem? (i := 0) rfl)) (fun _ h9 => h9) rfl dX11_guard_1 ?_
  refine lv_iload_n hx hb dX11_guard_4 rfl (lv_at hl 1 rfl) ?_
  refine zy_i (va_runV (As := [.int x]) (rest := []) ⟨hx, hb, hml, hown, hts⟩ (k_hasEnd l dC dI κ H.size σ x hk hI ) (cwV 1 hts gd_k_guard_227_k_hasEnd rfl rfl rfl dd_k_hasEnd ⟨Nat.le_of_ble_eq_true rfl, Nat.le_of_ble_eq_true rfl⟩) (preVy hP hK hD hE (ci := 3) (q0 := 6) rfl rfl) rfl rfl hl.1 rfl (lv_room (Nat.le_of_ble_eq_true rfl)) dX11_guard_5 ⟨Nat.le_of_ble_eq_true rfl, Nat.le_of_ble_eq_true rfl⟩) hD hS hA (fun z1_ τ2_ H locs hq hP hD hS => ?_)
  obtain ⟨hτ2_, q3_⟩ := hq
  rw [hτ2_] at hP hD
  have q3_ : (z1_.toInt = 1 ∧ 0 ≤ x.toInt ∧ x.toInt < (pI κ 2).toInt) ∨ z1_.toInt = 0 := q3_
  refine W.widen (k := 0) (n := 0) (Nat.le_of_ble_eq_true rfl) (Nat.le_of_ble_eq_true rfl) ?_
  refine lv_if_eq (tgt := 33) hx hb dX11_guard_8 rfl (fun c4_ => ?_) (fun c4_ => ?_)
  · have tc4_ := (show z1_.toInt = 0 from ti_eq rfl rg_11 c4_)
    refine lv_iconst (v := (-1)) hx hb dX11_guard_33 rg_53 ?_
    have kk5_ : ((-1) : Int32).toInt = (-1) := rg_489
    rw [hQ]
    exact W.iret (v := (-1)) hx hb hr (fun t ht hW => ⟨⟨(-1), σ, rfl, ⟨hI, trivial⟩, wEn_of hP (hK.sub [] rfl) hD ht hW⟩, hS.F ht⟩) hS.2.2 dX11_guard_34
  · have tc4_ := (show z1_.toInt ≠ 0 from ti_ne rfl rg_11 c4_)
    refine lv_aload_n hx hb dX11_guard_11 rfl (lv_at hl 0 rfl) ?_
    refine va_get (D := (dC, dI)) (ci := 11) (v := .ref (kA κ 6)) (C := RX11) (T := TX11) (N := 17) hx hb hts hin11 hown hK hP 0 rfl rfl 4 (Nat.le_of_ble_eq_true rfl) (ho (.fieldLink RX11 26 "NearEnough" "told" "LNearEnough$Program;") (List.mem_of_getElem? (i := 0) rfl)) (fun _ h9 => h9) rfl dX11_guard_12 ?_
    refine lv_iload_n hx hb dX11_guard_15 rfl (lv_at hl 2 rfl) ?_
    refine zy_i (va_runV (As := [.int y]) (rest := []) ⟨hx, hb, hml, hown, hts⟩ (k_hasStep l dC dI κ H.size σ y hk hI ) (cwV 1 hts gd_k_guard_134_k_hasStep rfl rfl rfl dd_k_hasStep ⟨Nat.le_of_ble_eq_true rfl, Nat.le_of_ble_eq_true rfl⟩) (preVy hP hK hD hE (ci := 3) (q0 := 6) rfl rfl) rfl rfl hl.1 rfl (lv_room (Nat.le_of_ble_eq_true rfl)) dX11_guard_16 ⟨Nat.le_of_ble_eq_true rfl, Nat.le_of_ble_eq_true rfl⟩) hD hS hA (fun z6_ τ7_ H locs hq hP hD hS => ?_)
    obtain ⟨hτ7_, q8_⟩ := hq
    rw [hτ7_] at hP hD
    have q8_ : (z6_.toInt = 1 ∧ 0 ≤ y.toInt ∧ y.toInt < (pI κ 1).toInt) ∨ z6_.toInt = 0 := q8_
    refine W.widen (k := 0) (n := 0) (Nat.le_of_ble_eq_true rfl) (Nat.le_of_ble_eq_true rfl) ?_
    refine lv_if_eq (tgt := 33) hx hb dX11_guard_19 rfl (fun c9_ => ?_) (fun c9_ => ?_)
    · have tc9_ := (show z6_.toInt = 0 from ti_eq rfl rg_11 c9_)
      refine lv_iconst (v := (-1)) hx hb dX11_guard_33 rg_53 ?_
      have kk10_ : ((-1) : Int32).toInt = (-1) := rg_489
      rw [hQ]
      exact W.iret (v := (-1)) hx hb hr (fun t ht hW => ⟨⟨(-1), σ, rfl, ⟨hI, trivial⟩, wEn_of hP (hK.sub [] rfl) hD ht hW⟩, hS.F ht⟩) hS.2.2 dX11_guard_34
    · have tc9_ := (show z6_.toInt ≠ 0 from ti_ne rfl rg_11 c9_)
      refine lv_iload_n hx hb dX11_guard_22 rfl (lv_at hl 3 rfl) ?_
      refine lv_if_lt (tgt := 33) hx hb dX11_guard_23 rfl (fun c11_ => ?_) (fun c11_ => ?_)
      · have tc11_ := (show z.toInt < 0 from ti_lt rfl rg_11 c11_)
        refine lv_iconst (v := (-1)) hx hb dX11_guard_33 rg_53 ?_
        have kk12_ : ((-1) : Int32).toInt = (-1) := rg_489
        rw [hQ]
        exact W.iret (v := (-1)) hx hb hr (fun t ht hW => ⟨⟨(-1), σ, rfl, ⟨hI, trivial⟩, wEn_of hP (hK.sub [] rfl) hD ht hW⟩, hS.F ht⟩) hS.2.2 dX11_guard_34
      · have tc11_ := (show 0 ≤ z.toInt from ti_nlt rfl rg_11 c11_)
        refine lv_iload_n hx hb dX11_guard_26 rfl (lv_at hl 3 rfl) ?_
        refine lv_sipush (v := 9999) hx hb dX11_guard_27 rg_385 ?_
        refine lv_icmp_le (tgt := 35) hx hb dX11_guard_30 rfl (fun c13_ => ?_) (fun c13_ => ?_)
        · have tc13_ := (show z.toInt ≤ 9999 from ti_le rfl rg_386 c13_)
          refine lv_aload_n hx hb dX11_guard_35 rfl (lv_at hl 0 rfl) ?_
          have bσ_7 : 0 ≤ (σ.1 7).toInt ∧ (σ.1 7).toInt ≤ 4 := hI.1 7
          refine va_get (D := (dC, dI)) (ci := 11) (v := .int (σ.1 7)) (C := RX11) (T := TX11) (N := 17) hx hb hts hin11 hown hK hP 0 rfl rfl 12 (Nat.le_of_ble_eq_true rfl) (ho (.fieldLink RX11 72 "NearEnough" "guards" "I") (List.mem_of_getElem? (i := 1) rfl)) (fun _ h9 => h9) rfl dX11_guard_36 ?_
          refine lv_iconst (v := 4) hx hb dX11_guard_39 rg_31 ?_
          refine lv_icmp_lt (tgt := 45) hx hb dX11_guard_40 rfl (fun c14_ => ?_) (fun c14_ => ?_)
          · have tc14_ := (show (σ.1 7).toInt < 4 from ti_lt rfl rg_32 c14_)
            refine lv_aload_n hx hb dX11_guard_45 rfl (lv_at hl 0 rfl) ?_
            refine va_get (D := (dC, dI)) (ci := 11) (v := .ref (kA κ 2)) (C := RX11) (T := TX11) (N := 17) hx hb hts hin11 hown hK hP 0 rfl rfl 9 (Nat.le_of_ble_eq_true rfl) (ho (.fieldLink RX11 62 "NearEnough" "guardEnd" "[I") (List.mem_of_getElem? (i := 2) rfl)) (fun _ h9 => h9) rfl dX11_guard_46 ?_
            refine lv_aload_n hx hb dX11_guard_49 rfl (lv_at hl 0 rfl) ?_
            have bσ_7 : 0 ≤ (σ.1 7).toInt ∧ (σ.1 7).toInt ≤ 4 := hI.1 7
            refine va_get (D := (dC, dI)) (ci := 11) (v := .int (σ.1 7)) (C := RX11) (T := TX11) (N := 17) hx hb hts hin11 hown hK hP 0 rfl rfl 12 (Nat.le_of_ble_eq_true rfl) (ho (.fieldLink RX11 72 "NearEnough" "guards" "I") (List.mem_of_getElem? (i := 1) rfl)) (fun _ h9 => h9) rfl dX11_guard_50 ?_
            refine lv_iload_n hx hb dX11_guard_53 rfl (lv_at hl 1 rfl) ?_
            have o1 : 0 ≤ (σ.1 7).toInt := by omega
            have o2 : (σ.1 7).toInt < ((4 : Nat) : Int) := by omega
            refine va_iast hx hb hK hP hD hS 2 1 rfl rfl (ti_inx o1 o2) dX11_guard_54 (fun H locs hP hD hS => ?_)
            obtain ⟨f15_, ef15_⟩ : ∃ f9 : Nat → Int32, f9 = upd (σ.2.1 4) (Int32.toNatClampNeg (σ.1 7)) x := ⟨_, rfl⟩
            have hP : va_P (dC, dI) vwCl (cW κ (sA σ 4 f15_)) H := by rw [ef15_]; exact hP
            have hD : va_D A (cW κ (sA σ 4 f15_)) := by rw [ef15_]; exact hD
            refine lv_aload_n hx hb dX11_guard_55 rfl (lv_at hl 0 rfl) ?_
            refine va_get (D := (dC, dI)) (ci := 11) (v := .ref (kA κ 3)) (C := RX11) (T := TX11) (N := 17) hx hb hts hin11 hown hK hP 0 rfl rfl 10 (Nat.le_of_ble_eq_true rfl) (ho (.fieldLink RX11 66 "NearEnough" "guardStep" "[I") (List.mem_of_getElem? (i := 3) rfl)) (fun _ h9 => h9) rfl dX11_guard_56 ?_
            refine lv_aload_n hx hb dX11_guard_59 rfl (lv_at hl 0 rfl) ?_
            have bσ_7 : 0 ≤ (σ.1 7).toInt ∧ (σ.1 7).toInt ≤ 4 := hI.1 7
            refine va_get (D := (dC, dI)) (ci := 11) (v := .int (σ.1 7)) (C := RX11) (T := TX11) (N := 17) hx hb hts hin11 hown hK hP 0 rfl rfl 12 (Nat.le_of_ble_eq_true rfl) (ho (.fieldLink RX11 72 "NearEnough" "guards" "I") (List.mem_of_getElem? (i := 1) rfl)) (fun _ h9 => h9) rfl dX11_guard_60 ?_
            refine lv_iload_n hx hb dX11_guard_63 rfl (lv_at hl 2 rfl) ?_
            refine va_iast hx hb hK hP hD hS 3 2 rfl rfl (ti_inx o1 o2) dX11_guard_64 (fun H locs hP hD hS => ?_)
            obtain ⟨f16_, ef16_⟩ : ∃ f9 : Nat → Int32, f9 = upd ((sA σ 4 f15_).2.1 5) (Int32.toNatClampNeg (σ.1 7)) y := ⟨_, rfl⟩
            have o3 : 0 ≤ y.toInt := by omega
            have o4 : y.toInt ≤ 11 := by omega
            have rf16_ : ∀ j, j < 4 → (0 : Int) ≤ (f16_ j).toInt ∧ (f16_ j).toInt ≤ 11 := by rw [ef16_]; exact rgu (hI.2 5) ⟨o3, o4⟩
            have hP : va_P (dC, dI) vwCl (cW κ (sA (sA σ 4 f15_) 5 f16_)) H := by rw [ef16_]; exact hP
            have hD : va_D A (cW κ (sA (sA σ 4 f15_) 5 f16_)) := by rw [ef16_]; exact hD
            refine lv_aload_n hx hb dX11_guard_65 rfl (lv_at hl 0 rfl) ?_
            refine va_get (D := (dC, dI)) (ci := 11) (v := .ref (kA κ 4)) (C := RX11) (T := TX11) (N := 17) hx hb hts hin11 hown hK hP 0 rfl rfl 11 (Nat.le_of_ble_eq_true rfl) (ho (.fieldLink RX11 69 "NearEnough" "guardWithin" "[I") (List.mem_of_getElem? (i := 4) rfl)) (fun _ h9 => h9) rfl dX11_guard_66 ?_
            refine lv_aload_n hx hb dX11_guard_69 rfl (lv_at hl 0 rfl) ?_
            have bσ_7 : 0 ≤ (σ.1 7).toInt ∧ (σ.1 7).toInt ≤ 4 := hI.1 7
            refine va_get (D := (dC, dI)) (ci := 11) (v := .int (σ.1 7)) (C := RX11) (T := TX11) (N := 17) hx hb hts hin11 hown hK hP 0 rfl rfl 12 (Nat.le_of_ble_eq_true rfl) (ho (.fieldLink RX11 72 "NearEnough" "guards" "I") (List.mem_of_getElem? (i := 1) rfl)) (fun _ h9 => h9) rfl dX11_guard_70 ?_
            refine lv_iload_n hx hb dX11_guard_73 rfl (lv_at hl 3 rfl) ?_
            refine va_iast hx hb hK hP hD hS 4 3 rfl rfl (ti_inx o1 o2) dX11_guard_74 (fun H locs hP hD hS => ?_)
            obtain ⟨f17_, ef17_⟩ : ∃ f9 : Nat → Int32, f9 = upd ((sA (sA σ 4 f15_) 5 f16_).2.1 6) (Int32.toNatClampNeg (σ.1 7)) z := ⟨_, rfl⟩
            have hP : va_P (dC, dI) vwCl (cW κ (sA (sA (sA σ 4 f15_) 5 f16_) 6 f17_)) H := by rw [ef17_]; exact hP
            have hD : va_D A (cW κ (sA (sA (sA σ 4 f15_) 5 f16_) 6 f17_)) := by rw [ef17_]; exact hD
            refine lv_aload_n hx hb dX11_guard_75 rfl (lv_at hl 0 rfl) ?_
            refine lv_dup hx hb dX11_guard_76 rfl ?_
            have bσ_7 : 0 ≤ (σ.1 7).toInt ∧ (σ.1 7).toInt ≤ 4 := hI.1 7
            refine va_get (D := (dC, dI)) (ci := 11) (v := .int (σ.1 7)) (C := RX11) (T := TX11) (N := 17) hx hb hts hin11 hown hK hP 0 rfl rfl 12 (Nat.le_of_ble_eq_true rfl) (ho (.fieldLink RX11 72 "NearEnough" "guards" "I") (List.mem_of_getElem? (i := 1) rfl)) (fun _ h9 => h9) rfl dX11_guard_77 ?_
            refine lv_iconst (v := 1) hx hb dX11_guard_80 rg_6 ?_
            refine lv_iadd hx hb dX11_guard_81 ?_
            refine lv_topi (fun z18_ ez18_ => ?_)
            have o5 : -2147483648 ≤ (σ.1 7).toInt + 1 := by omega
            have o6 : (σ.1 7).toInt + 1 ≤ 2147483647 := by omega
            have tz18_ : z18_.toInt = (σ.1 7).toInt + 1 := ti_add ez18_ rfl rg_18 o5 o6
            refine va_put (D := (dC, dI)) (ci := 11) (v := .int z18_) (ty := tyX11 12) (C := RX11) (T := TX11) (N := 17) hx hb hts hin11 tyX11 tyX11_ok nmX11 hown hK hP hD hS 0 rfl rfl 12 (Nat.le_of_ble_eq_true rfl) (ho (.fieldLink RX11 72 "NearEnough" "guards" "I") (List.mem_of_getElem? (i := 1) rfl)) (fun _ h9 => h9) rfl (tyX11_ok 12 (Nat.le_of_ble_eq_true rfl)) rfl rfl (Nat.le_of_ble_eq_true rfl) dX11_guard_82 (fun H locs hP hD hS => ?_)
            have hP : va_P (dC, dI) vwCl (cW κ (sA (sA (sA (sI σ 7 z18_) 4 f15_) 5 f16_) 6 f17_)) H := hP
            have hD : va_D A (cW κ (sA (sA (sA (sI σ 7 z18_) 4 f15_) 5 f16_) 6 f17_)) := hD
            refine lv_aload_n hx hb dX11_guard_85 rfl (lv_at hl 0 rfl) ?_
            refine va_get (D := (dC, dI)) (ci := 11) (v := .int z18_) (C := RX11) (T := TX11) (N := 17) hx hb hts hin11 hown hK hP 0 rfl rfl 12 (Nat.le_of_ble_eq_true rfl) (ho (.fieldLink RX11 72 "NearEnough" "guards" "I") (List.mem_of_getElem? (i := 1) rfl)) (fun _ h9 => h9) rfl dX11_guard_86 ?_
            refine lv_iconst (v := 1) hx hb dX11_guard_89 rg_6 ?_
            refine lv_isub hx hb dX11_guard_90 ?_
            refine lv_topi (fun z19_ ez19_ => ?_)
            have o7 : -2147483648 ≤ z18_.toInt - 1 := by omega
            have o8 : z18_.toInt - 1 ≤ 2147483647 := by omega
            have tz19_ : z19_.toInt = z18_.toInt - 1 := ti_sub ez19_ rfl rg_18 o7 o8
            have o9 : 0 ≤ z18_.toInt := by omega
            have o10 : z18_.toInt ≤ 4 := by omega
            rw [hQ]
            exact W.iret (v := z19_) hx hb hr (fun t ht hW => ⟨⟨z19_, (sA (sA (sA (sI σ 7 z18_) 4 f15_) 5 f16_) 6 f17_), rfl, ⟨(CInv.sA (k := 6) (f := f17_) (CInv.sA (k := 5) (f := f16_) (CInv.sA (k := 4) (f := f15_) (CInv.sI (k := 7) (v := z18_) hI ⟨o9, o10⟩) (fun j _ => Inv.any _)) rf16_) (fun j _ => Inv.any _)), trivial⟩, wEn_of hP (hK.sub [] rfl) hD ht hW⟩, hS.F ht⟩) hS.2.2 dX11_guard_91
          · have tc14_ := (show 4 ≤ (σ.1 7).toInt from ti_nlt rfl rg_32 c14_)
            refine lv_iconst (v := (-1)) hx hb dX11_guard_43 rg_53 ?_
            have kk20_ : ((-1) : Int32).toInt = (-1) := rg_489
            rw [hQ]
            exact W.iret (v := (-1)) hx hb hr (fun t ht hW => ⟨⟨(-1), σ, rfl, ⟨hI, trivial⟩, wEn_of hP (hK.sub [] rfl) hD ht hW⟩, hS.F ht⟩) hS.2.2 dX11_guard_44
        · have tc13_ := (show 9999 < z.toInt from ti_nle rfl rg_386 c13_)
          refine lv_iconst (v := (-1)) hx hb dX11_guard_33 rg_53 ?_
          have kk21_ : ((-1) : Int32).toInt = (-1) := rg_489
          rw [hQ]
          exact W.iret (v := (-1)) hx hb hr (fun t ht hW => ⟨⟨(-1), σ, rfl, ⟨hI, trivial⟩, wEn_of hP (hK.sub [] rfl) hD ht hW⟩, hS.F ht⟩) hS.2.2 dX11_guard_34
def ow_k_turnsBack : List Cond := [.fieldLink RX11 58 "NearEnough" "worker" "LNearEnough$Worker;", .fieldLink RX11 218 "NearEnough$Worker" "changed" "[J", .fieldLink RX11 26 "NearEnough" "told" "LNearEnough$Program;", .fieldLink RX11 230 "NearEnough$Program" "endStep" "[I", .fieldLink RX11 72 "NearEnough" "guards" "I", .fieldLink RX11 66 "NearEnough" "guardStep" "[I", .methodLink RX11 244 Lib.MathLoose.abs_long.x, .static Lib.MathLoose.abs_long.x, .initialized "java/lang/Math", .code Lib.MathLoose.abs_long.x Lib.MathLoose.abs_long.code 2 (some .long), .fieldLink RX11 62 "NearEnough" "guardEnd" "[I", .fieldLink RX11 69 "NearEnough" "guardWithin" "[I"]
def vs_k_turnsBack : List Cond := .code yX11_turnsBack cX11_turnsBack 9 (some .boolean) :: (ow_k_turnsBack ++ (wsX30 ++ (wsX100 ++ (wsX110))))
theorem vg_k_turnsBack : vs_k_turnsBack.all goodWord = true := by decide +kernel
theorem dd_k_turnsBack : yX11_turnsBack.cls = RX11 ∧ yX11_turnsBack.cls ≠ "java/lang/invoke/MethodHandle" ∧ yX11_turnsBack.cls ≠ "java/lang/invoke/VarHandle" ∧ (parseMethodDescriptor yX11_turnsBack.desc).map (fun d => d.parameters.length) = some 2 := by decide +kernel
def rm_k_turnsBack : Room := { frames := 1, cells := 0, slots := 0, locals := 24 }
set_option maxHeartbeats 4000000 in
set_option maxRecDepth 100000 in
theorem k_turnsBack (l : Launch) (dC : Nat → ClassId) (dI : Nat → Nat → Nat) (κ : CE) (sz : Nat) (σ : MS) (x : Int32) (y : Int32) (hk : PInv κ) (hI : CInv σ) (hx0 : 0 ≤ x.toInt ∧ x.toInt < (pI κ 2).toInt) (hy0 : 0 ≤ y.toInt ∧ y.toInt ≤ 40) : Met l yX11_turnsBack vs_k_turnsBack rm_k_turnsBack (va_Pc [.ref (kA κ 0), .int x, .int y] (wSy dC dI (cW κ σ) (cT κ) sz)) (va_Qi (fun (r : Int32) (τ : MS) => τ = σ ∧ (r.toInt = 0 ∨ r.toInt = 1)) (fun (τ : MS) => wEn dC dI (va_A (cW κ σ) sz) (cW κ τ) []) (va_A (cW κ σ) sz)) 0 0 (va_A (cW κ σ) sz) := by
  refine Met.ofW (cc := cX11_turnsBack) (maxL := 9) (ret := (some .boolean)) (by decide +kernel) rfl ?_
  intro p e s m args below meth c s₁ B hml hv
  obtain ⟨rfl, hsz, hP, hK, hD0, hE⟩ := hv
  have hx := B.exec
  have hb := B.bytes
  have hr := B.returns
  have hts := atoms_spec (ws := vs_k_turnsBack) B.pre
  have hown : s.vm.findClass RX11 = some m.cls := findClass_of_methodNamed B.named
  have hlocks := B.notSynchronized
  subst hsz
  have hD := hD0.self (sz := s.heap.size)
  generalize hAe : va_A (cW κ σ) s.heap.size = A at hD ⊢
  have hA : ∀ q : Nat, s.heap.size ≤ q → A q := fun q h => by rw [← hAe]; exact Or.inr h
  have hl := lv_entry ([.ref (kA κ 0), .int x, .int y]) (n := 9) (Nat.le_of_ble_eq_true rfl)
  rw [lg_entry_eq]
  generalize (lg_sl ([.ref (kA κ 0), .int x, .int y]) ++ List.replicate (9 - (lg_sl ([.ref (kA κ 0), .int x, .int y])).length) Slot.unset).toArray = ls at hl ⊢
  have hl : lv_has ls 9 [(0, .ref (kA κ 0)), (1, .int x), (2, .int y)] := hl
  have ho := fun w (h : w ∈ ow_k_turnsBack) => hts w (List.mem_cons_of_mem _ (List.mem_append_left _ h))
  have hin3 : ∀ w ∈ u_ws RX3 TX3 8, w ∈ vs_k_turnsBack := fun w h => (List.mem_cons_of_mem _ (List.mem_append_right _ (List.mem_append_left _ h)))
  have hin10 : ∀ w ∈ u_ws RX10 TX10 5, w ∈ vs_k_turnsBack := fun w h => (List.mem_cons_of_mem _ (List.mem_append_right _ (List.mem_append_right _ (List.mem_append_left _ h))))
  have hin11 : ∀ w ∈ u_ws RX11 TX11 17, w ∈ vs_k_turnsBack := fun w h => (List.mem_cons_of_mem _ (List.mem_append_right _ (List.mem_append_right _ (List.mem_append_right _ h))))
  refine zQ (fun Q hQ => ?_)
  refine zH (A := A) (ws := (cW κ σ)) (fun H hP hS => ?_) hP
  have hk0 := hk.1
  have hk1 := hk.2.1
  have hk2 := hk.2.2.1
  refine lv_iload_n hx hb dX11_turnsBack_0 rfl (lv_at hl 2 rfl) ?_
  refine lv_bipush (v := 12) hx hb dX11_turnsBack_1 rg_57 ?_
  refine lv_imul hx hb dX11_turnsBack_3 ?_
  refine lv_topi (fun z1_ ez1_ => ?_)
  have o1 : -2147483648 ≤ y.toInt * 12 := by omega
  have o2 : y.toInt * 12 ≤ 2147483647 := by omega
  have tz1_ : z1_.toInt = y.toInt * 12 := ti_mul ez1_ rfl rg_58 o1 o2
  refine lv_istore_n (lv' := [(3, .int z1_), (0, .ref (kA κ 0)), (1, .int x), (2, .int y)]) hx hb dX11_turnsBack_4 rfl hl (Nat.le_of_ble_eq_true rfl) rfl (fun ls hl => ?_)
  refine lv_aload_n hx hb dX11_turnsBack_5 rfl (lv_at hl 1 rfl) ?_
  refine va_get (D := (dC, dI)) (ci := 11) (v := .ref (kA κ 24)) (C := RX11) (T := TX11) (N := 17) hx hb hts hin11 hown hK hP 0 rfl rfl 8 (Nat.le_of_ble_eq_true rfl) (ho (.fieldLink RX11 58 "NearEnough" "worker" "LNearEnough$Worker;") (List.mem_of_getElem? (i := 0) rfl)) (fun _ h9 => h9) rfl dX11_turnsBack_6 ?_
  refine va_get (D := (dC, dI)) (ci := 10) (v := .ref (kA κ 26)) (C := RX10) (T := TX10) (N := 5) hx hb hts hin10 hown hK hP 24 rfl rfl 4 (Nat.le_of_ble_eq_true rfl) (ho (.fieldLink RX11 218 "NearEnough$Worker" "changed" "[J") (List.mem_of_getElem? (i := 1) rfl)) (fun _ h9 => h9) rfl dX11_turnsBack_9 ?_
  refine lv_iload_n hx hb dX11_turnsBack_12 rfl (lv_at hl 0 rfl) ?_
  refine lv_aload_n hx hb dX11_turnsBack_13 rfl (lv_at hl 1 rfl) ?_
  refine va_get (D := (dC, dI)) (ci := 11) (v := .ref (kA κ 6)) (C := RX11) (T := TX11) (N := 17) hx hb hts hin11 hown hK hP 0 rfl rfl 4 (Nat.le_of_ble_eq_true rfl) (ho (.fieldLink RX11 26 "NearEnough" "told" "LNearEnough$Program;") (List.mem_of_getElem? (i := 2) rfl)) (fun _ h9 => h9) rfl dX11_turnsBack_14 ?_
  refine va_get (D := (dC, dI)) (ci := 3) (v := .ref (kA κ 9)) (C := RX3) (T := TX3) (N := 8) hx hb hts hin3 hown hK hP 6 rfl rfl 2 (Nat.le_of_ble_eq_true rfl) (ho (.fieldLink RX11 230 "NearEnough$Program" "endStep" "[I") (List.mem_of_getElem? (i := 3) rfl)) (fun _ h9 => h9) rfl dX11_turnsBack_17 ?_
  refine lv_iload_n hx hb dX11_turnsBack_20 rfl (lv_at hl 2 rfl) ?_
  have o3 : 0 ≤ x.toInt := by omega
  have o4 : x.toInt < ((4 : Nat) : Int) := by omega
  refine va_iald hx hb hK hP 9 7 rfl rfl (ti_inx o3 o4) dX11_turnsBack_21 ?_
  refine lv_topi (fun z2_ ez2_ => ?_)
  have o5 : x.toInt < (pI κ 2).toInt := by omega
  have bz2_ := hk.en ez2_ o3 o5
  refine lv_iadd hx hb dX11_turnsBack_22 ?_
  refine lv_topi (fun z3_ ez3_ => ?_)
  have o6 : -2147483648 ≤ z1_.toInt + z2_.toInt := by omega
  have o7 : z1_.toInt + z2_.toInt ≤ 2147483647 := by omega
  have tz3_ : z3_.toInt = z1_.toInt + z2_.toInt := ti_add ez3_ rfl rfl o6 o7
  have o8 : 0 ≤ z3_.toInt := by omega
  have o9 : z3_.toInt < ((492 : Nat) : Int) := by omega
  refine va_lald hx hb hK hP 26 20 rfl rfl (ti_inx o8 o9) dX11_turnsBack_23 ?_
  refine lv_topl (fun y4_ ey4_ => ?_)
  refine lv_lstore (lv' := [(4, .long y4_), (3, .int z1_), (0, .ref (kA κ 0)), (1, .int x), (2, .int y)]) hx hb dX11_turnsBack_24 hl (Nat.le_of_ble_eq_true rfl) rfl (fun ls hl => ?_)
  refine lv_iconst (v := 0) hx hb dX11_turnsBack_26 rg_0 ?_
  refine lv_istore (lv' := [(6, .int 0), (4, .long y4_), (3, .int z1_), (0, .ref (kA κ 0)), (1, .int x), (2, .int y)]) hx hb dX11_turnsBack_27 hl (Nat.le_of_ble_eq_true rfl) rfl (fun ls hl => ?_)
  have pt29_ : ∀ (n29_ : Nat) (v6_ : Int32) (H : Heap) (locs : List Loc) (ls : Array Slot), (4 - v6_.toInt).toNat < n29_ → (0 ≤ v6_.toInt) → va_P (dC, dI) vwCl (cW κ σ) H → va_D A (cW κ σ) → va_S A s.heap H locs → lv_has ls 9 [(6, .int v6_), (4, .long y4_), (3, .int z1_), (0, .ref (kA κ 0)), (1, .int x)] → W p l e (headSpec vs_k_turnsBack rm_k_turnsBack).room s m #[Value.ref (kA κ 0), Value.int x, Value.int y] below meth c H locs 0 0 Q (F0 m 29 ls []) := by
    intro n29_
    induction n29_ with
    | zero => intro v6_ H locs ls hn29_ hf29_0_ hP hD hS hl; exact absurd hn29_ (Nat.not_lt_zero _)
    | succ n29_ ih29_ =>
      intro v6_ H locs ls hn29_ hf29_0_ hP hD hS hl
      refine lv_iload hx hb dX11_turnsBack_29 (lv_at hl 0 rfl) ?_
      refine lv_aload_n hx hb dX11_turnsBack_31 rfl (lv_at hl 3 rfl) ?_
      have bσ_7 : 0 ≤ (σ.1 7).toInt ∧ (σ.1 7).toInt ≤ 4 := hI.1 7
      refine va_get (D := (dC, dI)) (ci := 11) (v := .int (σ.1 7)) (C := RX11) (T := TX11) (N := 17) hx hb hts hin11 hown hK hP 0 rfl rfl 12 (Nat.le_of_ble_eq_true rfl) (ho (.fieldLink RX11 72 "NearEnough" "guards" "I") (List.mem_of_getElem? (i := 4) rfl)) (fun _ h9 => h9) rfl dX11_turnsBack_32 ?_
      refine lv_icmp_ge (tgt := 96) hx hb dX11_turnsBack_35 rfl (fun c5_ => ?_) (fun c5_ => ?_)
      · have tc5_ := (show (σ.1 7).toInt ≤ v6_.toInt from ti_le rfl rfl c5_)
        refine lv_iconst (v := 0) hx hb dX11_turnsBack_96 rg_0 ?_
        have kk6_ : (0 : Int32).toInt = 0 := rg_11
        have o10 : (0 : Int32).toInt = 0 ∨ (0 : Int32).toInt = 1 := by omega
        rw [hQ]
        exact W.zret (v := 0) hx hb hr rfl (fun t ht hW => ⟨⟨0, σ, rfl, ⟨rfl, o10⟩, wEn_of hP (hK.sub [] rfl) hD ht hW⟩, hS.F ht⟩) hS.2.2 dX11_turnsBack_97
      · have tc5_ := (show v6_.toInt < (σ.1 7).toInt from ti_nle rfl rfl c5_)
        refine lv_lload hx hb dX11_turnsBack_38 (lv_at hl 1 rfl) ?_
        refine lv_aload_n hx hb dX11_turnsBack_40 rfl (lv_at hl 3 rfl) ?_
        refine va_get (D := (dC, dI)) (ci := 11) (v := .ref (kA κ 24)) (C := RX11) (T := TX11) (N := 17) hx hb hts hin11 hown hK hP 0 rfl rfl 8 (Nat.le_of_ble_eq_true rfl) (ho (.fieldLink RX11 58 "NearEnough" "worker" "LNearEnough$Worker;") (List.mem_of_getElem? (i := 0) rfl)) (fun _ h9 => h9) rfl dX11_turnsBack_41 ?_
        refine va_get (D := (dC, dI)) (ci := 10) (v := .ref (kA κ 26)) (C := RX10) (T := TX10) (N := 5) hx hb hts hin10 hown hK hP 24 rfl rfl 4 (Nat.le_of_ble_eq_true rfl) (ho (.fieldLink RX11 218 "NearEnough$Worker" "changed" "[J") (List.mem_of_getElem? (i := 1) rfl)) (fun _ h9 => h9) rfl dX11_turnsBack_44 ?_
        refine lv_iload_n hx hb dX11_turnsBack_47 rfl (lv_at hl 2 rfl) ?_
        refine lv_aload_n hx hb dX11_turnsBack_48 rfl (lv_at hl 3 rfl) ?_
        refine va_get (D := (dC, dI)) (ci := 11) (v := .ref (kA κ 3)) (C := RX11) (T := TX11) (N := 17) hx hb hts hin11 hown hK hP 0 rfl rfl 10 (Nat.le_of_ble_eq_true rfl) (ho (.fieldLink RX11 66 "NearEnough" "guardStep" "[I") (List.mem_of_getElem? (i := 5) rfl)) (fun _ h9 => h9) rfl dX11_turnsBack_49 ?_
        refine lv_iload hx hb dX11_turnsBack_52 (lv_at hl 0 rfl) ?_
        have o11 : 0 ≤ v6_.toInt := by omega
        have o12 : v6_.toInt < ((4 : Nat) : Int) := by omega
        refine va_iald hx hb hK hP 3 2 rfl rfl (ti_inx o11 o12) dX11_turnsBack_54 ?_
        refine lv_topi (fun z7_ ez7_ => ?_)
        have bz7_ : 0 ≤ z7_.toInt ∧ z7_.toInt ≤ 11 := by rw [ez7_]; exact (hI.2 5) _ (cl_lt (n := 4) o11 o12)
        refine lv_iadd hx hb dX11_turnsBack_55 ?_
        refine lv_topi (fun z8_ ez8_ => ?_)
        have o13 : -2147483648 ≤ z1_.toInt + z7_.toInt := by omega
        have o14 : z1_.toInt + z7_.toInt ≤ 2147483647 := by omega
        have tz8_ : z8_.toInt = z1_.toInt + z7_.toInt := ti_add ez8_ rfl rfl o13 o14
        have o15 : 0 ≤ z8_.toInt := by omega
        have o16 : z8_.toInt < ((492 : Nat) : Int) := by omega
        refine va_lald hx hb hK hP 26 20 rfl rfl (ti_inx o15 o16) dX11_turnsBack_56 ?_
        refine lv_topl (fun y9_ ey9_ => ?_)
        refine lv_lsub hx hb dX11_turnsBack_57 ?_
        refine lv_topl (fun y10_ ey10_ => ?_)
        refine va_mabs_long hx hb (hml.trans hl.1.symm) hown (ho (.methodLink RX11 244 Lib.MathLoose.abs_long.x) (List.mem_of_getElem? (i := 6) rfl)) (ho (.static Lib.MathLoose.abs_long.x) (List.mem_of_getElem? (i := 7) rfl)) (ho (.initialized "java/lang/Math") (List.mem_of_getElem? (i := 8) rfl)) (ho (.code Lib.MathLoose.abs_long.x Lib.MathLoose.abs_long.code 2 (some .long)) (List.mem_of_getElem? (i := 9) rfl)) (Nat.le_of_ble_eq_true rfl) (Nat.le_of_ble_eq_true rfl) (Nat.le_of_ble_eq_true rfl) (Nat.le_of_ble_eq_true rfl) dX11_turnsBack_58 ?_
        refine lv_topl (fun y11_ ey11_ => ?_)
        refine lv_lstore (lv' := [(7, .long y11_), (6, .int v6_), (4, .long y4_), (3, .int z1_), (0, .ref (kA κ 0)), (1, .int x)]) hx hb dX11_turnsBack_61 hl (Nat.le_of_ble_eq_true rfl) rfl (fun ls hl => ?_)
        refine lv_aload_n hx hb dX11_turnsBack_63 rfl (lv_at hl 4 rfl) ?_
        refine va_get (D := (dC, dI)) (ci := 11) (v := .ref (kA κ 2)) (C := RX11) (T := TX11) (N := 17) hx hb hts hin11 hown hK hP 0 rfl rfl 9 (Nat.le_of_ble_eq_true rfl) (ho (.fieldLink RX11 62 "NearEnough" "guardEnd" "[I") (List.mem_of_getElem? (i := 10) rfl)) (fun _ h9 => h9) rfl dX11_turnsBack_64 ?_
        refine lv_iload hx hb dX11_turnsBack_67 (lv_at hl 1 rfl) ?_
        refine va_iald hx hb hK hP 2 1 rfl rfl (ti_inx o11 o12) dX11_turnsBack_69 ?_
        refine lv_topi (fun z12_ ez12_ => ?_)
        refine lv_iload_n hx hb dX11_turnsBack_70 rfl (lv_at hl 5 rfl) ?_
        refine lv_icmp_ne (tgt := 90) hx hb dX11_turnsBack_71 rfl (fun c13_ => ?_) (fun c13_ => ?_)
        · have tc13_ := (show z12_.toInt ≠ x.toInt from ti_ne rfl rfl c13_)
          obtain ⟨z14_, ez14_⟩ : ∃ y : Int32, y = v6_ + 1 := ⟨_, rfl⟩
          have o17 : -2147483648 ≤ v6_.toInt + 1 := by omega
          have o18 : v6_.toInt + 1 ≤ 2147483647 := by omega
          have tz14_ := ti_add ez14_ rfl rg_18 o17 o18
          refine lv_iinc (v := z14_) (lv' := [(6, .int z14_), (7, .long y11_), (4, .long y4_), (3, .int z1_), (0, .ref (kA κ 0)), (1, .int x)]) hx hb dX11_turnsBack_90 hl (k := 1) rfl (iincp ez14_ rg_6) (Nat.le_of_ble_eq_true rfl) rfl (fun ls hl => ?_)
          refine lv_goto (tgt := 29) hx hb dX11_turnsBack_93 rfl ?_
          have o19 : (4 - z14_.toInt).toNat < n29_ := by omega
          have o20 : 0 ≤ z14_.toInt := by omega
          exact ih29_  z14_ _ _ _ o19 o20 hP hD hS (lv_sub hl [0, 2, 3, 4, 5] rfl)
        · have tc13_ := (show z12_.toInt = x.toInt from ti_eq rfl rfl c13_)
          refine lv_lload hx hb dX11_turnsBack_74 (lv_at hl 0 rfl) ?_
          refine lv_aload_n hx hb dX11_turnsBack_76 rfl (lv_at hl 4 rfl) ?_
          refine va_get (D := (dC, dI)) (ci := 11) (v := .ref (kA κ 4)) (C := RX11) (T := TX11) (N := 17) hx hb hts hin11 hown hK hP 0 rfl rfl 11 (Nat.le_of_ble_eq_true rfl) (ho (.fieldLink RX11 69 "NearEnough" "guardWithin" "[I") (List.mem_of_getElem? (i := 11) rfl)) (fun _ h9 => h9) rfl dX11_turnsBack_77 ?_
          refine lv_iload hx hb dX11_turnsBack_80 (lv_at hl 1 rfl) ?_
          refine va_iald hx hb hK hP 4 3 rfl rfl (ti_inx o11 o12) dX11_turnsBack_82 ?_
          refine lv_topi (fun z15_ ez15_ => ?_)
          refine lv_i2l hx hb dX11_turnsBack_83 rfl ?_
          refine lv_topl (fun y16_ ey16_ => ?_)
          refine W.lcmp hx hb dX11_turnsBack_84 ?_
          refine lv_topi (fun z17_ ez17_ => ?_)
          refine lv_if_le (tgt := 90) hx hb dX11_turnsBack_85 rfl (fun c18_ => ?_) (fun c18_ => ?_)
          · have tc18_ := (show z17_.toInt ≤ 0 from ti_le rfl rg_11 c18_)
            have lc18_ : y11_ ≤ y16_ := (lg_cmp_le y11_ y16_).mp (by rw [← ez17_]; exact c18_)
            obtain ⟨z19_, ez19_⟩ : ∃ y : Int32, y = v6_ + 1 := ⟨_, rfl⟩
            have o21 : -2147483648 ≤ v6_.toInt + 1 := by omega
            have o22 : v6_.toInt + 1 ≤ 2147483647 := by omega
            have tz19_ := ti_add ez19_ rfl rg_18 o21 o22
            refine lv_iinc (v := z19_) (lv' := [(6, .int z19_), (7, .long y11_), (4, .long y4_), (3, .int z1_), (0, .ref (kA κ 0)), (1, .int x)]) hx hb dX11_turnsBack_90 hl (k := 1) rfl (iincp ez19_ rg_6) (Nat.le_of_ble_eq_true rfl) rfl (fun ls hl => ?_)
            refine lv_goto (tgt := 29) hx hb dX11_turnsBack_93 rfl ?_
            have o23 : (4 - z19_.toInt).toNat < n29_ := by omega
            have o24 : 0 ≤ z19_.toInt := by omega
            exact ih29_  z19_ _ _ _ o23 o24 hP hD hS (lv_sub hl [0, 2, 3, 4, 5] rfl)
          · have tc18_ := (show 0 < z17_.toInt from ti_nle rfl rg_11 c18_)
            have lc18_ : ¬ y11_ ≤ y16_ := fun h => c18_ (by rw [ez17_]; exact (lg_cmp_le y11_ y16_).mpr h)
            refine lv_iconst (v := 1) hx hb dX11_turnsBack_88 rg_6 ?_
            have kk20_ : (1 : Int32).toInt = 1 := rg_18
            have o25 : (1 : Int32).toInt = 0 ∨ (1 : Int32).toInt = 1 := by omega
            rw [hQ]
            exact W.zret (v := 1) hx hb hr rfl (fun t ht hW => ⟨⟨1, σ, rfl, ⟨rfl, o25⟩, wEn_of hP (hK.sub [] rfl) hD ht hW⟩, hS.F ht⟩) hS.2.2 dX11_turnsBack_89
  have kk21_ : (0 : Int32).toInt = 0 := rg_11
  have o26 : 0 ≤ (0 : Int32).toInt := by omega
  exact pt29_ _  0 _ _ _ (Nat.lt_succ_self _) o26 hP hD hS (lv_sub hl [0, 1, 2, 3, 4] rfl)
def ow_k_through : List Cond := [.fieldLink RX11 26 "NearEnough" "told" "LNearEnough$Program;", .fieldLink RX11 33 "NearEnough" "sheets" "LNearEnough$Sheets;", .fieldLink RX11 111 "NearEnough$Sheets" "count" "I", .fieldLink RX11 58 "NearEnough" "worker" "LNearEnough$Worker;", .fieldLink RX11 230 "NearEnough$Program" "endStep" "[I", .methodLink RX11 244 Lib.MathLoose.abs_long.x, .static Lib.MathLoose.abs_long.x, .initialized "java/lang/Math", .code Lib.MathLoose.abs_long.x Lib.MathLoose.abs_long.code 2 (some .long), .fieldLink RX11 287 "NearEnough$Program" "endOff" "[I"]
def vs_k_through : List Cond := .code yX11_through cX11_through 7 (some .int) :: (ow_k_through ++ (([.methodLink RX11 227 yX3_hasEnd, .instanceMethod yX3_hasEnd, .selects RX3 yX3_hasEnd yX3_hasEnd, .initialized RX3] : List Cond) ++ (vs_k_hasEnd ++ (([.methodLink RX11 209 yX11_stands, .instanceMethod yX11_stands, .selects RX11 yX11_stands yX11_stands, .initialized RX11] : List Cond) ++ (vs_k_stands ++ (([.methodLink RX11 159 yX11_lastStep, .instanceMethod yX11_lastStep, .selects RX11 yX11_lastStep yX11_lastStep, .initialized RX11] : List Cond) ++ (vs_k_lastStep ++ (([.methodLink RX11 214 yX10_workChanged, .instanceMethod yX10_workChanged, .selects RX10 yX10_workChanged yX10_workChanged, .initialized RX10] : List Cond) ++ (vs_k_workChanged ++ (([.methodLink RX11 237 yX10_errorAt, .instanceMethod yX10_errorAt, .selects RX10 yX10_errorAt yX10_errorAt, .initialized RX10] : List Cond) ++ (vs_k_errorAt ++ (([.methodLink RX11 343 yX11_turnsBack, .instanceMethod yX11_turnsBack, .selects RX11 yX11_turnsBack yX11_turnsBack, .initialized RX11] : List Cond) ++ (vs_k_turnsBack ++ (wsX30 ++ (wsX70 ++ (wsX110))))))))))))))))
theorem vg_k_through : vs_k_through.all goodWord = true := by decide +kernel
theorem dd_k_through : yX11_through.cls = RX11 ∧ yX11_through.cls ≠ "java/lang/invoke/MethodHandle" ∧ yX11_through.cls ≠ "java/lang/invoke/VarHandle" ∧ (parseMethodDescriptor yX11_through.desc).map (fun d => d.parameters.length) = some 2 := by decide +kernel
def rm_k_through : Room := { frames := 6, cells := 0, slots := 0, locals := 143 }
theorem gd_k_through_227_k_hasEnd : GoodIn vs_k_through (wsV RX11 227 RX3 yX3_hasEnd vs_k_hasEnd) := goodIn_app (goodIn_sub (fun w h => (List.mem_cons_of_mem _ (List.mem_append_right _ (List.mem_append_left _ h)))) (by decide +kernel)) (goodIn_sub (fun w h => (List.mem_cons_of_mem _ (List.mem_append_right _ (List.mem_append_right _ (List.mem_append_left _ h))))) vg_k_hasEnd)
theorem gd_k_through_209_k_stands : GoodIn vs_k_through (wsV RX11 209 RX11 yX11_stands vs_k_stands) := goodIn_app (goodIn_sub (fun w h => (List.mem_cons_of_mem _ (List.mem_append_right _ (List.mem_append_right _ (List.mem_append_right _ (List.mem_append_left _ h)))))) (by decide +kernel)) (goodIn_sub (fun w h => (List.mem_cons_of_mem _ (List.mem_append_right _ (List.mem_append_right _ (List.mem_append_right _ (List.mem_append_right _ (List.mem_append_left _ h))))))) vg_k_stands)
theorem gd_k_through_159_k_lastStep : GoodIn vs_k_through (wsV RX11 159 RX11 yX11_lastStep vs_k_lastStep) := goodIn_app (goodIn_sub (fun w h => (List.mem_cons_of_mem _ (List.mem_append_right _ (List.mem_append_right _ (List.mem_append_right _ (List.mem_append_right _ (List.mem_append_right _ (List.mem_append_left _ h)))))))) (by decide +kernel)) (goodIn_sub (fun w h => (List.mem_cons_of_mem _ (List.mem_append_right _ (List.mem_append_right _ (List.mem_append_right _ (List.mem_append_right _ (List.mem_append_right _ (List.mem_append_right _ (List.mem_append_left _ h))))))))) vg_k_lastStep)
theorem gd_k_through_214_k_workChanged : GoodIn vs_k_through (wsV RX11 214 RX10 yX10_workChanged vs_k_workChanged) := goodIn_app (goodIn_sub (fun w h => (List.mem_cons_of_mem _ (List.mem_append_right _ (List.mem_append_right _ (List.mem_append_right _ (List.mem_append_right _ (List.mem_append_right _ (List.mem_append_right _ (List.mem_append_right _ (List.mem_append_left _ h)))))))))) (by decide +kernel)) (goodIn_sub (fun w h => (List.mem_cons_of_mem _ (List.mem_append_right _ (List.mem_append_right _ (List.mem_append_right _ (List.mem_append_right _ (List.mem_append_right _ (List.mem_append_right _ (List.mem_append_right _ (List.mem_append_right _ (List.mem_append_left _ h))))))))))) vg_k_workChanged)
theorem gd_k_through_237_k_errorAt : GoodIn vs_k_through (wsV RX11 237 RX10 yX10_errorAt vs_k_errorAt) := goodIn_app (goodIn_sub (fun w h => (List.mem_cons_of_mem _ (List.mem_append_right _ (List.mem_append_right _ (List.mem_append_right _ (List.mem_append_right _ (List.mem_append_right _ (List.mem_append_right _ (List.mem_append_right _ (List.mem_append_right _ (List.mem_append_right _ (List.mem_append_left _ h)))))))))))) (by decide +kernel)) (goodIn_sub (fun w h => (List.mem_cons_of_mem _ (List.mem_append_right _ (List.mem_append_right _ (List.mem_append_right _ (List.mem_append_right _ (List.mem_append_right _ (List.mem_append_right _ (List.mem_append_right _ (List.mem_append_right _ (List.mem_append_right _ (List.mem_append_right _ (List.mem_append_left _ h))))))))))))) vg_k_errorAt)
theorem gd_k_through_343_k_turnsBack : GoodIn vs_k_through (wsV RX11 343 RX11 yX11_turnsBack vs_k_turnsBack) := goodIn_app (goodIn_sub (fun w h => (List.mem_cons_of_mem _ (List.mem_append_right _ (List.mem_append_right _ (List.mem_append_right _ (List.mem_append_right _ (List.mem_append_right _ (List.mem_append_right _ (List.mem_append_right _ (List.mem_append_right _ (List.mem_append_right _ (List.mem_append_right _ (List.mem_append_right _ (List.mem_append_left _ h)))))))))))))) (by decide +kernel)) (goodIn_sub (fun w h => (List.mem_cons_of_mem _ (List.mem_append_right _ (List.mem_append_right _ (List.mem_append_right _ (List.mem_append_right _ (List.mem_append_right _ (List.mem_append_right _ (List.mem_append_right _ (List.mem_append_right _ (List.mem_append_right _ (List.mem_append_right _ (List.mem_append_right _ (List.mem_append_right _ (List.mem_append_left _ h))))))))))))))) vg_k_turnsBack)
set_option maxHeartbeats 4000000 in
set_option maxRecDepth 100000 in
theorem k_through (l : Launch) (dC : Nat → ClassId) (dI : Nat → Nat → Nat) (κ : CE) (sz : Nat) (σ : MS) (x : Int32) (y : Int32) (hk : PInv κ) (hI : CInv σ)  : Met l yX11_through vs_k_through rm_k_through (va_Pc [.ref (kA κ 0), .int x, .int y] (wSy dC dI (cW κ σ) (cT κ) sz)) (va_Qi (fun (r : Int32) (τ : MS) => CInv τ ∧ True) (fun (τ : MS) => wEn dC dI (va_A (cW κ σ) sz) (cW κ τ) []) (va_A (cW κ σ) sz)) 0 0 (va_A (cW κ σ) sz) := by
  refine Met.ofW (cc := cX11_through) (maxL := 7) (ret := (some .int)) (by decide +kernel) rfl ?_
  intro p e s m args below meth c s₁ B hml hv
  obtain ⟨rfl, hsz, hP, hK, hD0, hE⟩ := hv
  have hx := B.exec
  have hb := B.bytes
  have hr := B.returns
  have hts := atoms_spec (ws := vs_k_through) B.pre
  have hown : s.vm.findClass RX11 = some m.cls := findClass_of_methodNamed B.named
  have hlocks := B.notSynchronized
  subst hsz
  have hD := hD0.self (sz := s.heap.size)
  generalize hAe : va_A (cW κ σ) s.heap.size = A at hD ⊢
  have hA : ∀ q : Nat, s.heap.size ≤ q → A q := fun q h => by rw [← hAe]; exact Or.inr h
  have hl := lv_entry ([.ref (kA κ 0), .int x, .int y]) (n := 7) (Nat.le_of_ble_eq_true rfl)
  rw [lg_entry_eq]
  generalize (lg_sl ([.ref (kA κ 0), .int x, .int y]) ++ List.replicate (7 - (lg_sl ([.ref (kA κ 0), .int x, .int y])).length) Slot.unset).toArray = ls at hl ⊢
  have hl : lv_has ls 7 [(0, .ref (kA κ 0)), (1, .int x), (2, .int y)] := hl
  have ho := fun w (h : w ∈ ow_k_through) => hts w (List.mem_cons_of_mem _ (List.mem_append_left _ h))
  have hin3 : ∀ w ∈ u_ws RX3 TX3 8, w ∈ vs_k_through := fun w h => (List.mem_cons_of_mem _ (List.mem_append_right _ (List.mem_append_right _ (List.mem_append_right _ (List.mem_append_right _ (List.mem_append_right _ (List.mem_append_right _ (List.mem_append_right _ (List.mem_append_right _ (List.mem_append_right _ (List.mem_append_right _ (List.mem_append_right _ (List.mem_append_right _ (List.mem_append_right _ (List.mem_append_left _ h)))))))))))))))
  have hin7 : ∀ w ∈ u_ws RX7 TX7 3, w ∈ vs_k_through := fun w h => (List.mem_cons_of_mem _ (List.mem_append_right _ (List.mem_append_right _ (List.mem_append_right _ (List.mem_append_right _ (List.mem_append_right _ (List.mem_append_right _ (List.mem_append_right _ (List.mem_append_right _ (List.mem_append_right _ (List.mem_append_right _ (List.mem_append_right _ (List.mem_append_right _ (List.mem_append_right _ (List.mem_append_right _ (List.mem_append_left _ h))))))))))))))))
  have hin11 : ∀ w ∈ u_ws RX11 TX11 17, w ∈ vs_k_through := fun w h => (List.mem_cons_of_mem _ (List.mem_append_right _ (List.mem_append_right _ (List.mem_append_right _ (List.mem_append_right _ (List.mem_append_right _ (List.mem_append_right _ (List.mem_append_right _ (List.mem_append_right _ (List.mem_append_right _ (List.mem_append_right _ (List.mem_append_right _ (List.mem_append_right _ (List.mem_append_right _ (List.mem_append_right _ (List.mem_append_right _ h))))))))))))))))
  refine zQ (fun Q hQ => ?_)
  refine zH (A := A) (ws := (cW κ σ)) (fun H hP hS => ?_) hP
  have hk0 := hk.1
  have hk1 := hk.2.1
  have hk2 := hk.2.2.1
  refine lv_aload_n hx hb dX11_through_0 rfl (lv_at hl 0 rfl) ?_
  refine va_get (D := (dC, dI)) (ci := 11) (v := .ref (kA κ 6)) (C := RX11) (T := TX11) (N := 17) hx hb hts hin11 hown hK hP 0 rfl rfl 4 (Nat.le_of_ble_eq_true rfl) (ho (.fieldLink RX11 26 "NearEnough" "told" "LNearEnough$Program;") (List.mem_of_getElem? (i := 0) rfl)) (fun _ h9 => h9) rfl dX11_through_1 ?_
  refine lv_iload_n hx hb dX11_through_4 rfl (lv_at hl 1 rfl) ?_
  refine zy_i (va_runV (As := [.int x]) (rest := []) ⟨hx, hb, hml, hown, hts⟩ (k_hasEnd l dC dI κ H.size σ x hk hI ) (cwV 1 hts gd_k_through_227_k_hasEnd rfl rfl rfl dd_k_hasEnd ⟨Nat.le_of_ble_eq_true rfl, Nat.le_of_ble_eq_true rfl⟩) (preVy hP hK hD hE (ci := 3) (q0 := 6) rfl rfl) rfl rfl hl.1 rfl (lv_room (Nat.le_of_ble_eq_true rfl)) dX11_through_5 ⟨Nat.le_of_ble_eq_true rfl, Nat.le_of_ble_eq_true rfl⟩) hD hS hA (fun z1_ τ2_ H locs hq hP hD hS => ?_)
  obtain ⟨hτ2_, q3_⟩ := hq
  rw [hτ2_] at hP hD
  have q3_ : (z1_.toInt = 1 ∧ 0 ≤ x.toInt ∧ x.toInt < (pI κ 2).toInt) ∨ z1_.toInt = 0 := q3_
  refine W.widen (k := 0) (n := 0) (Nat.le_of_ble_eq_true rfl) (Nat.le_of_ble_eq_true rfl) ?_
  refine lv_if_eq (tgt := 19) hx hb dX11_through_8 rfl (fun c4_ => ?_) (fun c4_ => ?_)
  · have tc4_ := (show z1_.toInt = 0 from ti_eq rfl rg_11 c4_)
    refine lv_iconst (v := (-1)) hx hb dX11_through_19 rg_53 ?_
    have kk5_ : ((-1) : Int32).toInt = (-1) := rg_489
    rw [hQ]
    exact W.iret (v := (-1)) hx hb hr (fun t ht hW => ⟨⟨(-1), σ, rfl, ⟨hI, trivial⟩, wEn_of hP (hK.sub [] rfl) hD ht hW⟩, hS.F ht⟩) hS.2.2 dX11_through_20
  · have tc4_ := (show z1_.toInt ≠ 0 from ti_ne rfl rg_11 c4_)
    refine lv_aload_n hx hb dX11_through_11 rfl (lv_at hl 0 rfl) ?_
    refine lv_iload_n hx hb dX11_through_12 rfl (lv_at hl 2 rfl) ?_
    refine zy_i (va_runV (As := [.int y]) (rest := []) ⟨hx, hb, hml, hown, hts⟩ (k_stands l dC dI κ H.size σ y hk hI ) (cwV 1 hts gd_k_through_209_k_stands rfl rfl rfl dd_k_stands ⟨Nat.le_of_ble_eq_true rfl, Nat.le_of_ble_eq_true rfl⟩) (preVy hP hK hD hE (ci := 11) (q0 := 0) rfl rfl) rfl rfl hl.1 rfl (lv_room (Nat.le_of_ble_eq_true rfl)) dX11_through_13 ⟨Nat.le_of_ble_eq_true rfl, Nat.le_of_ble_eq_true rfl⟩) hD hS hA (fun z6_ τ7_ H locs hq hP hD hS => ?_)
    obtain ⟨hτ7_, q8_⟩ := hq
    have q8_ : z6_.toInt = 0 ∨ z6_.toInt = 1 := q8_
    refine W.widen (k := 0) (n := 0) (Nat.le_of_ble_eq_true rfl) (Nat.le_of_ble_eq_true rfl) ?_
    refine lv_if_ne (tgt := 21) hx hb dX11_through_16 rfl (fun c9_ => ?_) (fun c9_ => ?_)
    · have tc9_ := (show z6_.toInt ≠ 0 from ti_ne rfl rg_11 c9_)
      refine lv_iconst (v := 0) hx hb dX11_through_21 rg_0 ?_
      refine lv_istore_n (lv' := [(3, .int 0), (0, .ref (kA κ 0)), (1, .int x), (2, .int y)]) hx hb dX11_through_22 rfl hl (Nat.le_of_ble_eq_true rfl) rfl (fun ls hl => ?_)
      refine lv_iconst (v := 0) hx hb dX11_through_23 rg_0 ?_
      refine lv_istore (lv' := [(4, .int 0), (3, .int 0), (0, .ref (kA κ 0)), (1, .int x), (2, .int y)]) hx hb dX11_through_24 hl (Nat.le_of_ble_eq_true rfl) rfl (fun ls hl => ?_)
      have pt26_ : ∀ (n26_ : Nat) (σ26_ : MS) (v3_ : Int32) (v4_ : Int32) (H : Heap) (locs : List Loc) (ls : Array Slot), (40 - v4_.toInt).toNat < n26_ → CInv σ26_ → (0 ≤ v4_.toInt) → va_P (dC, dI) vwCl (cW κ σ26_) H → va_D A (cW κ σ26_) → va_S A s.heap H locs → lv_has ls 7 [(3, .int v3_), (4, .int v4_), (0, .ref (kA κ 0)), (1, .int x)] → W p l e (headSpec vs_k_through rm_k_through).room s m #[Value.ref (kA κ 0), Value.int x, Value.int y] below meth c H locs 0 0 Q (F0 m 26 ls []) := by
        intro n26_
        induction n26_ with
        | zero => intro σ26_ v3_ v4_ H locs ls hn26_ hIσ26_ hf26_0_ hP hD hS hl; exact absurd hn26_ (Nat.not_lt_zero _)
        | succ n26_ ih26_ =>
          intro σ26_ v3_ v4_ H locs ls hn26_ hIσ26_ hf26_0_ hP hD hS hl
          refine lv_iload hx hb dX11_through_26 (lv_at hl 1 rfl) ?_
          refine lv_aload_n hx hb dX11_through_28 rfl (lv_at hl 2 rfl) ?_
          refine va_get (D := (dC, dI)) (ci := 11) (v := .ref (kA κ 12)) (C := RX11) (T := TX11) (N := 17) hx hb hts hin11 hown hK hP 0 rfl rfl 5 (Nat.le_of_ble_eq_true rfl) (ho (.fieldLink RX11 33 "NearEnough" "sheets" "LNearEnough$Sheets;") (List.mem_of_getElem? (i := 1) rfl)) (fun _ h9 => h9) rfl dX11_through_29 ?_
          have bσ26__12 : 0 ≤ (σ26_.1 12).toInt ∧ (σ26_.1 12).toInt ≤ 40 := hIσ26_.1 12
          refine va_get (D := (dC, dI)) (ci := 7) (v := .int (σ26_.1 12)) (C := RX7) (T := TX7) (N := 3) hx hb hts hin7 hown hK hP 12 rfl rfl 2 (Nat.le_of_ble_eq_true rfl) (ho (.fieldLink RX11 111 "NearEnough$Sheets" "count" "I") (List.mem_of_getElem? (i := 2) rfl)) (fun _ h9 => h9) rfl dX11_through_32 ?_
          refine lv_icmp_ge (tgt := 110) hx hb dX11_through_35 rfl (fun c10_ => ?_) (fun c10_ => ?_)
          · have tc10_ := (show (σ26_.1 12).toInt ≤ v4_.toInt from ti_le rfl rfl c10_)
            refine lv_iload_n hx hb dX11_through_110 rfl (lv_at hl 0 rfl) ?_
            rw [hQ]
            exact W.iret (v := v3_) hx hb hr (fun t ht hW => ⟨⟨v3_, σ26_, rfl, ⟨hIσ26_, trivial⟩, wEn_of hP (hK.sub [] rfl) hD ht hW⟩, hS.F ht⟩) hS.2.2 dX11_through_111
          · have tc10_ := (show v4_.toInt < (σ26_.1 12).toInt from ti_nle rfl rfl c10_)
            refine lv_aload_n hx hb dX11_through_38 rfl (lv_at hl 2 rfl) ?_
            refine va_get (D := (dC, dI)) (ci := 11) (v := .ref (kA κ 24)) (C := RX11) (T := TX11) (N := 17) hx hb hts hin11 hown hK hP 0 rfl rfl 8 (Nat.le_of_ble_eq_true rfl) (ho (.fieldLink RX11 58 "NearEnough" "worker" "LNearEnough$Worker;") (List.mem_of_getElem? (i := 3) rfl)) (fun _ h9 => h9) rfl dX11_through_39 ?_
            refine lv_iload hx hb dX11_through_42 (lv_at hl 1 rfl) ?_
            refine lv_iconst (v := 0) hx hb dX11_through_44 rg_0 ?_
            refine lv_aload_n hx hb dX11_through_45 rfl (lv_at hl 2 rfl) ?_
            refine zy_i (va_runV (As := []) (rest := [.int 0, .int v4_, .ref (kA κ 24)]) ⟨hx, hb, hml, hown, hts⟩ (k_lastStep l dC dI κ H.size σ26_  hk hIσ26_ ) (cwV 0 hts gd_k_through_159_k_lastStep rfl rfl rfl dd_k_lastStep ⟨Nat.le_of_ble_eq_true rfl, Nat.le_of_ble_eq_true rfl⟩) (preVy hP hK hD hE (ci := 11) (q0 := 0) rfl rfl) rfl rfl hl.1 rfl (lv_room (Nat.le_of_ble_eq_true rfl)) dX11_through_46 ⟨Nat.le_of_ble_eq_true rfl, Nat.le_of_ble_eq_true rfl⟩) hD hS hA (fun z11_ τ12_ H locs hq hP hD hS => ?_)
            obtain ⟨hτ12_, q13_⟩ := hq
            rw [hτ12_] at hP hD
            have q13_ : z11_.toInt = (pI κ 1).toInt - 1 := q13_
            refine W.widen (k := 0) (n := 0) (Nat.le_of_ble_eq_true rfl) (Nat.le_of_ble_eq_true rfl) ?_
            have kk14_ : (0 : Int32).toInt = 0 := rg_11
            have o1 : 0 ≤ v4_.toInt := by omega
            have o2 : v4_.toInt ≤ 40 := by omega
            have o3 : 0 ≤ (0 : Int32).toInt := by omega
            have o4 : (0 : Int32).toInt ≤ 12 := by omega
            have o5 : -1 ≤ z11_.toInt := by omega
            have o6 : z11_.toInt < (pI κ 1).toInt := by omega
            refine zy_v (va_runV (As := [.int v4_, .int 0, .int z11_]) (rest := []) ⟨hx, hb, hml, hown, hts⟩ (k_workChanged l dC dI κ H.size σ26_ v4_ 0 z11_ hk hIσ26_ ⟨o1, o2⟩ ⟨o3, o4⟩ ⟨o5, o6⟩) (cwV 3 hts gd_k_through_214_k_workChanged rfl rfl rfl dd_k_workChanged ⟨Nat.le_of_ble_eq_true rfl, Nat.le_of_ble_eq_true rfl⟩) (preVy hP hK hD hE (ci := 10) (q0 := 24) rfl rfl) rfl rfl hl.1 rfl (lv_room (Nat.le_of_ble_eq_true rfl)) dX11_through_49 ⟨Nat.le_of_ble_eq_true rfl, Nat.le_of_ble_eq_true rfl⟩) hD hS hA (fun τ16_ H locs hq hP hD hS => ?_)
            obtain ⟨hτ16_, q17_⟩ := hq
            refine W.widen (k := 0) (n := 0) (Nat.le_of_ble_eq_true rfl) (Nat.le_of_ble_eq_true rfl) ?_
            refine lv_aload_n hx hb dX11_through_52 rfl (lv_at hl 2 rfl) ?_
            refine va_get (D := (dC, dI)) (ci := 11) (v := .ref (kA κ 24)) (C := RX11) (T := TX11) (N := 17) hx hb hts hin11 hown hK hP 0 rfl rfl 8 (Nat.le_of_ble_eq_true rfl) (ho (.fieldLink RX11 58 "NearEnough" "worker" "LNearEnough$Worker;") (List.mem_of_getElem? (i := 3) rfl)) (fun _ h9 => h9) rfl dX11_through_53 ?_
            refine lv_iload hx hb dX11_through_56 (lv_at hl 1 rfl) ?_
            refine lv_aload_n hx hb dX11_through_58 rfl (lv_at hl 2 rfl) ?_
            refine va_get (D := (dC, dI)) (ci := 11) (v := .ref (kA κ 6)) (C := RX11) (T := TX11) (N := 17) hx hb hts hin11 hown hK hP 0 rfl rfl 4 (Nat.le_of_ble_eq_true rfl) (ho (.fieldLink RX11 26 "NearEnough" "told" "LNearEnough$Program;") (List.mem_of_getElem? (i := 0) rfl)) (fun _ h9 => h9) rfl dX11_through_59 ?_
            refine va_get (D := (dC, dI)) (ci := 3) (v := .ref (kA κ 9)) (C := RX3) (T := TX3) (N := 8) hx hb hts hin3 hown hK hP 6 rfl rfl 2 (Nat.le_of_ble_eq_true rfl) (ho (.fieldLink RX11 230 "NearEnough$Program" "endStep" "[I") (List.mem_of_getElem? (i := 4) rfl)) (fun _ h9 => h9) rfl dX11_through_62 ?_
            refine lv_iload_n hx hb dX11_through_65 rfl (lv_at hl 3 rfl) ?_
            have o7 : 0 ≤ x.toInt := by omega
            have o8 : x.toInt < ((4 : Nat) : Int) := by omega
            refine va_iald hx hb hK hP 9 7 rfl rfl (ti_inx o7 o8) dX11_through_66 ?_
            refine lv_topi (fun z18_ ez18_ => ?_)
            have o9 : x.toInt < (pI κ 2).toInt := by omega
            have bz18_ := hk.en ez18_ o7 o9
            have o10 : 0 ≤ z18_.toInt := by omega
            have o11 : z18_.toInt ≤ 11 := by omega
            refine zy_l (va_runV (As := [.int v4_, .int z18_]) (rest := []) ⟨hx, hb, hml, hown, hts⟩ (k_errorAt l dC dI κ H.size τ16_ v4_ z18_ hk hτ16_ ⟨o1, o2⟩ ⟨o10, o11⟩) (cwV 2 hts gd_k_through_237_k_errorAt rfl rfl rfl dd_k_errorAt ⟨Nat.le_of_ble_eq_true rfl, Nat.le_of_ble_eq_true rfl⟩) (preVy hP hK hD hE (ci := 10) (q0 := 24) rfl rfl) rfl rfl hl.1 rfl (lv_room (Nat.le_of_ble_eq_true rfl)) dX11_through_67 ⟨Nat.le_of_ble_eq_true rfl, Nat.le_of_ble_eq_true rfl⟩) hD hS hA (fun y19_ τ20_ H locs hq hP hD hS => ?_)
            obtain ⟨hτ20_, q21_⟩ := hq
            rw [hτ20_] at hP hD
            refine W.widen (k := 0) (n := 0) (Nat.le_of_ble_eq_true rfl) (Nat.le_of_ble_eq_true rfl) ?_
            refine va_mabs_long hx hb (hml.trans hl.1.symm) hown (ho (.methodLink RX11 244 Lib.MathLoose.abs_long.x) (List.mem_of_getElem? (i := 5) rfl)) (ho (.static Lib.MathLoose.abs_long.x) (List.mem_of_getElem? (i := 6) rfl)) (ho (.initialized "java/lang/Math") (List.mem_of_getElem? (i := 7) rfl)) (ho (.code Lib.MathLoose.abs_long.x Lib.MathLoose.abs_long.code 2 (some .long)) (List.mem_of_getElem? (i := 8) rfl)) (Nat.le_of_ble_eq_true rfl) (Nat.le_of_ble_eq_true rfl) (Nat.le_of_ble_eq_true rfl) (Nat.le_of_ble_eq_true rfl) dX11_through_70 ?_
            refine lv_topl (fun y22_ ey22_ => ?_)
            refine lv_lstore (lv' := [(5, .long y22_), (3, .int v3_), (4, .int v4_), (0, .ref (kA κ 0)), (1, .int x)]) hx hb dX11_through_73 hl (Nat.le_of_ble_eq_true rfl) rfl (fun ls hl => ?_)
            refine lv_lload hx hb dX11_through_75 (lv_at hl 0 rfl) ?_
            refine lv_aload_n hx hb dX11_through_77 rfl (lv_at hl 3 rfl) ?_
            refine va_get (D := (dC, dI)) (ci := 11) (v := .ref (kA κ 6)) (C := RX11) (T := TX11) (N := 17) hx hb hts hin11 hown hK hP 0 rfl rfl 4 (Nat.le_of_ble_eq_true rfl) (ho (.fieldLink RX11 26 "NearEnough" "told" "LNearEnough$Program;") (List.mem_of_getElem? (i := 0) rfl)) (fun _ h9 => h9) rfl dX11_through_78 ?_
            refine va_get (D := (dC, dI)) (ci := 3) (v := .ref (kA κ 10)) (C := RX3) (T := TX3) (N := 8) hx hb hts hin3 hown hK hP 6 rfl rfl 3 (Nat.le_of_ble_eq_true rfl) (ho (.fieldLink RX11 287 "NearEnough$Program" "endOff" "[I") (List.mem_of_getElem? (i := 9) rfl)) (fun _ h9 => h9) rfl dX11_through_81 ?_
            refine lv_iload_n hx hb dX11_through_84 rfl (lv_at hl 4 rfl) ?_
            refine va_iald hx hb hK hP 10 8 rfl rfl (ti_inx o7 o8) dX11_through_85 ?_
            refine lv_topi (fun z23_ ez23_ => ?_)
            refine lv_i2l hx hb dX11_through_86 rfl ?_
            refine lv_topl (fun y24_ ey24_ => ?_)
            refine W.lcmp hx hb dX11_through_87 ?_
            refine lv_topi (fun z25_ ez25_ => ?_)
            refine lv_if_le (tgt := 104) hx hb dX11_through_88 rfl (fun c26_ => ?_) (fun c26_ => ?_)
            · have tc26_ := (show z25_.toInt ≤ 0 from ti_le rfl rg_11 c26_)
              have lc26_ : y22_ ≤ y24_ := (lg_cmp_le y22_ y24_).mp (by rw [← ez25_]; exact c26_)
              obtain ⟨z27_, ez27_⟩ : ∃ y : Int32, y = v4_ + 1 := ⟨_, rfl⟩
              have o12 : -2147483648 ≤ v4_.toInt + 1 := by omega
              have o13 : v4_.toInt + 1 ≤ 2147483647 := by omega
              have tz27_ := ti_add ez27_ rfl rg_18 o12 o13
              refine lv_iinc (v := z27_) (lv' := [(4, .int z27_), (5, .long y22_), (3, .int v3_), (0, .ref (kA κ 0)), (1, .int x)]) hx hb dX11_through_104 hl (k := 2) rfl (iincp ez27_ rg_6) (Nat.le_of_ble_eq_true rfl) rfl (fun ls hl => ?_)
              refine lv_goto (tgt := 26) hx hb dX11_through_107 rfl ?_
              have o14 : (40 - z27_.toInt).toNat < n26_ := by omega
              have o15 : 0 ≤ z27_.toInt := by omega
              exact ih26_ τ16_ v3_ z27_ _ _ _ o14 hτ16_ o15 hP hD hS (lv_sub hl [2, 0, 3, 4] rfl)
            · have tc26_ := (show 0 < z25_.toInt from ti_nle rfl rg_11 c26_)
              have lc26_ : ¬ y22_ ≤ y24_ := fun h => c26_ (by rw [ez25_]; exact (lg_cmp_le y22_ y24_).mpr h)
              refine lv_aload_n hx hb dX11_through_91 rfl (lv_at hl 3 rfl) ?_
              refine lv_iload_n hx hb dX11_through_92 rfl (lv_at hl 4 rfl) ?_
              refine lv_iload hx hb dX11_through_93 (lv_at hl 2 rfl) ?_
              refine zy_i (va_runV (As := [.int x, .int v4_]) (rest := []) ⟨hx, hb, hml, hown, hts⟩ (k_turnsBack l dC dI κ H.size τ16_ x v4_ hk hτ16_ ⟨o7, o9⟩ ⟨o1, o2⟩) (cwV 2 hts gd_k_through_343_k_turnsBack rfl rfl rfl dd_k_turnsBack ⟨Nat.le_of_ble_eq_true rfl, Nat.le_of_ble_eq_true rfl⟩) (preVy hP hK hD hE (ci := 11) (q0 := 0) rfl rfl) rfl rfl hl.1 rfl (lv_room (Nat.le_of_ble_eq_true rfl)) dX11_through_95 ⟨Nat.le_of_ble_eq_true rfl, Nat.le_of_ble_eq_true rfl⟩) hD hS hA (fun z28_ τ29_ H locs hq hP hD hS => ?_)
              obtain ⟨hτ29_, q30_⟩ := hq
              rw [hτ29_] at hP hD
              have q30_ : z28_.toInt = 0 ∨ z28_.toInt = 1 := q30_
              refine W.widen (k := 0) (n := 0) (Nat.le_of_ble_eq_true rfl) (Nat.le_of_ble_eq_true rfl) ?_
              refine lv_if_ne (tgt := 104) hx hb dX11_through_98 rfl (fun c31_ => ?_) (fun c31_ => ?_)
              · have tc31_ := (show z28_.toInt ≠ 0 from ti_ne rfl rg_11 c31_)
                obtain ⟨z32_, ez32_⟩ : ∃ y : Int32, y = v4_ + 1 := ⟨_, rfl⟩
                have o16 : -2147483648 ≤ v4_.toInt + 1 := by omega
                have o17 : v4_.toInt + 1 ≤ 2147483647 := by omega
                have tz32_ := ti_add ez32_ rfl rg_18 o16 o17
                refine lv_iinc (v := z32_) (lv' := [(4, .int z32_), (5, .long y22_), (3, .int v3_), (0, .ref (kA κ 0)), (1, .int x)]) hx hb dX11_through_104 hl (k := 2) rfl (iincp ez32_ rg_6) (Nat.le_of_ble_eq_true rfl) rfl (fun ls hl => ?_)
                refine lv_goto (tgt := 26) hx hb dX11_through_107 rfl ?_
                have o18 : (40 - z32_.toInt).toNat < n26_ := by omega
                have o19 : 0 ≤ z32_.toInt := by omega
                exact ih26_ τ16_ v3_ z32_ _ _ _ o18 hτ16_ o19 hP hD hS (lv_sub hl [2, 0, 3, 4] rfl)
              · have tc31_ := (show z28_.toInt = 0 from ti_eq rfl rg_11 c31_)
                obtain ⟨z33_, ez33_⟩ : ∃ y : Int32, y = v3_ + 1 := ⟨_, rfl⟩
                refine lv_iinc (v := z33_) (lv' := [(3, .int z33_), (5, .long y22_), (4, .int v4_), (0, .ref (kA κ 0)), (1, .int x)]) hx hb dX11_through_101 hl (k := 1) rfl (iincp ez33_ rg_6) (Nat.le_of_ble_eq_true rfl) rfl (fun ls hl => ?_)
                obtain ⟨z34_, ez34_⟩ : ∃ y : Int32, y = v4_ + 1 := ⟨_, rfl⟩
                have o20 : -2147483648 ≤ v4_.toInt + 1 := by omega
                have o21 : v4_.toInt + 1 ≤ 2147483647 := by omega
                have tz34_ := ti_add ez34_ rfl rg_18 o20 o21
                refine lv_iinc (v := z34_) (lv' := [(4, .int z34_), (3, .int z33_), (5, .long y22_), (0, .ref (kA κ 0)), (1, .int x)]) hx hb dX11_through_104 hl (k := 2) rfl (iincp ez34_ rg_6) (Nat.le_of_ble_eq_true rfl) rfl (fun ls hl => ?_)
                refine lv_goto (tgt := 26) hx hb dX11_through_107 rfl ?_
                have o22 : (40 - z34_.toInt).toNat < n26_ := by omega
                have o23 : 0 ≤ z34_.toInt := by omega
                exact ih26_ τ16_ z33_ z34_ _ _ _ o22 hτ16_ o23 hP hD hS (lv_sub hl [1, 0, 3, 4] rfl)
      have kk35_ : (0 : Int32).toInt = 0 := rg_11
      have kk36_ : (0 : Int32).toInt = 0 := rg_11
      have o24 : 0 ≤ (0 : Int32).toInt := by omega
      exact pt26_ _ τ7_ 0 0 _ _ _ (Nat.lt_succ_self _) hτ7_ o24 hP hD hS (lv_sub hl [1, 0, 2, 3] rfl)
    · have tc9_ := (show z6_.toInt = 0 from ti_eq rfl rg_11 c9_)
      refine lv_iconst (v := (-1)) hx hb dX11_through_19 rg_53 ?_
      have kk37_ : ((-1) : Int32).toInt = (-1) := rg_489
      rw [hQ]
      exact W.iret (v := (-1)) hx hb hr (fun t ht hW => ⟨⟨(-1), τ7_, rfl, ⟨hτ7_, trivial⟩, wEn_of hP (hK.sub [] rfl) hD ht hW⟩, hS.F ht⟩) hS.2.2 dX11_through_20
def ow_k_turned : List Cond := [.fieldLink RX11 26 "NearEnough" "told" "LNearEnough$Program;", .fieldLink RX11 33 "NearEnough" "sheets" "LNearEnough$Sheets;", .fieldLink RX11 111 "NearEnough$Sheets" "count" "I", .fieldLink RX11 58 "NearEnough" "worker" "LNearEnough$Worker;"]
def vs_k_turned : List Cond := .code yX11_turned cX11_turned 5 (some .int) :: (ow_k_turned ++ (([.methodLink RX11 227 yX3_hasEnd, .instanceMethod yX3_hasEnd, .selects RX3 yX3_hasEnd yX3_hasEnd, .initialized RX3] : List Cond) ++ (vs_k_hasEnd ++ (([.methodLink RX11 209 yX11_stands, .instanceMethod yX11_stands, .selects RX11 yX11_stands yX11_stands, .initialized RX11] : List Cond) ++ (vs_k_stands ++ (([.methodLink RX11 159 yX11_lastStep, .instanceMethod yX11_lastStep, .selects RX11 yX11_lastStep yX11_lastStep, .initialized RX11] : List Cond) ++ (vs_k_lastStep ++ (([.methodLink RX11 214 yX10_workChanged, .instanceMethod yX10_workChanged, .selects RX10 yX10_workChanged yX10_workChanged, .initialized RX10] : List Cond) ++ (vs_k_workChanged ++ (([.methodLink RX11 343 yX11_turnsBack, .instanceMethod yX11_turnsBack, .selects RX11 yX11_turnsBack yX11_turnsBack, .initialized RX11] : List Cond) ++ (vs_k_turnsBack ++ (wsX70 ++ (wsX110)))))))))))))
theorem vg_k_turned : vs_k_turned.all goodWord = true := by decide +kernel
theorem dd_k_turned : yX11_turned.cls = RX11 ∧ yX11_turned.cls ≠ "java/lang/invoke/MethodHandle" ∧ yX11_turned.cls ≠ "java/lang/invoke/VarHandle" ∧ (parseMethodDescriptor yX11_turned.desc).map (fun d => d.parameters.length) = some 2 := by decide +kernel
def rm_k_turned : Room := { frames := 6, cells := 0, slots := 0, locals := 143 }
theorem gd_k_turned_227_k_hasEnd : GoodIn vs_k_turned (wsV RX11 227 RX3 yX3_hasEnd vs_k_hasEnd) := goodIn_app (goodIn_sub (fun w h => (List.mem_cons_of_mem _ (List.mem_append_right _ (List.mem_append_left _ h)))) (by decide +kernel)) (goodIn_sub (fun w h => (List.mem_cons_of_mem _ (List.mem_append_right _ (List.mem_append_right _ (List.mem_append_left _ h))))) vg_k_hasEnd)
theorem gd_k_turned_209_k_stands : GoodIn vs_k_turned (wsV RX11 209 RX11 yX11_stands vs_k_stands) := goodIn_app (goodIn_sub (fun w h => (List.mem_cons_of_mem _ (List.mem_append_right _ (List.mem_append_right _ (List.mem_append_right _ (List.mem_append_left _ h)))))) (by decide +kernel)) (goodIn_sub (fun w h => (List.mem_cons_of_mem _ (List.mem_append_right _ (List.mem_append_right _ (List.mem_append_right _ (List.mem_append_right _ (List.mem_append_left _ h))))))) vg_k_stands)
theorem gd_k_turned_159_k_lastStep : GoodIn vs_k_turned (wsV RX11 159 RX11 yX11_lastStep vs_k_lastStep) := goodIn_app (goodIn_sub (fun w h => (List.mem_cons_of_mem _ (List.mem_append_right _ (List.mem_append_right _ (List.mem_append_right _ (List.mem_append_right _ (List.mem_append_right _ (List.mem_append_left _ h)))))))) (by decide +kernel)) (goodIn_sub (fun w h => (List.mem_cons_of_mem _ (List.mem_append_right _ (List.mem_append_right _ (List.mem_append_right _ (List.mem_append_right _ (List.mem_append_right _ (List.mem_append_right _ (List.mem_append_left _ h))))))))) vg_k_lastStep)
theorem gd_k_turned_214_k_workChanged : GoodIn vs_k_turned (wsV RX11 214 RX10 yX10_workChanged vs_k_workChanged) := goodIn_app (goodIn_sub (fun w h => (List.mem_cons_of_mem _ (List.mem_append_right _ (List.mem_append_right _ (List.mem_append_right _ (List.mem_append_right _ (List.mem_append_right _ (List.mem_append_right _ (List.mem_append_right _ (List.mem_append_left _ h)))))))))) (by decide +kernel)) (goodIn_sub (fun w h => (List.mem_cons_of_mem _ (List.mem_append_right _ (List.mem_append_right _ (List.mem_append_right _ (List.mem_append_right _ (List.mem_append_right _ (List.mem_append_right _ (List.mem_append_right _ (List.mem_append_right _ (List.mem_append_left _ h))))))))))) vg_k_workChanged)
theorem gd_k_turned_343_k_turnsBack : GoodIn vs_k_turned (wsV RX11 343 RX11 yX11_turnsBack vs_k_turnsBack) := goodIn_app (goodIn_sub (fun w h => (List.mem_cons_of_mem _ (List.mem_append_right _ (List.mem_append_right _ (List.mem_append_right _ (List.mem_append_right _ (List.mem_append_right _ (List.mem_append_right _ (List.mem_append_right _ (List.mem_append_right _ (List.mem_append_right _ (List.mem_append_left _ h)))))))))))) (by decide +kernel)) (goodIn_sub (fun w h => (List.mem_cons_of_mem _ (List.mem_append_right _ (List.mem_append_right _ (List.mem_append_right _ (List.mem_append_right _ (List.mem_append_right _ (List.mem_append_right _ (List.mem_append_right _ (List.mem_append_right _ (List.mem_append_right _ (List.mem_append_right _ (List.mem_append_left _ h))))))))))))) vg_k_turnsBack)
set_option maxHeartbeats 4000000 in
set_option maxRecDepth 100000 in
theorem k_turned (l : Launch) (dC : Nat → ClassId) (dI : Nat → Nat → Nat) (κ : CE) (sz : Nat) (σ : MS) (x : Int32) (y : Int32) (hk : PInv κ) (hI : CInv σ)  : Met l yX11_turned vs_k_turned rm_k_turned (va_Pc [.ref (kA κ 0), .int x, .int y] (wSy dC dI (cW κ σ) (cT κ) sz)) (va_Qi (fun (r : Int32) (τ : MS) => CInv τ ∧ True) (fun (τ : MS) => wEn dC dI (va_A (cW κ σ) sz) (cW κ τ) []) (va_A (cW κ σ) sz)) 0 0 (va_A (cW κ σ) sz) := by
  refine Met.ofW (cc := cX11_turned) (maxL := 5) (ret := (some .int)) (by decide +kernel) rfl ?_
  intro p e s m args below meth c s₁ B hml hv
  obtain ⟨rfl, hsz, hP, hK, hD0, hE⟩ := hv
  have hx := B.exec
  have hb := B.bytes
  have hr := B.returns
  have hts := atoms_spec (ws := vs_k_turned) B.pre
  have hown : s.vm.findClass RX11 = some m.cls := findClass_of_methodNamed B.named
  have hlocks := B.notSynchronized
  subst hsz
  have hD := hD0.self (sz := s.heap.size)
  generalize hAe : va_A (cW κ σ) s.heap.size = A at hD ⊢
  have hA : ∀ q : Nat, s.heap.size ≤ q → A q := fun q h => by rw [← hAe]; exact Or.inr h
  have hl := lv_entry ([.ref (kA κ 0), .int x, .int y]) (n := 5) (Nat.le_of_ble_eq_true rfl)
  rw [lg_entry_eq]
  generalize (lg_sl ([.ref (kA κ 0), .int x, .int y]) ++ List.replicate (5 - (lg_sl ([.ref (kA κ 0), .int x, .int y])).length) Slot.unset).toArray = ls at hl ⊢
  have hl : lv_has ls 5 [(0, .ref (kA κ 0)), (1, .int x), (2, .int y)] := hl
  have ho := fun w (h : w ∈ ow_k_turned) => hts w (List.mem_cons_of_mem _ (List.mem_append_left _ h))
  have hin7 : ∀ w ∈ u_ws RX7 TX7 3, w ∈ vs_k_turned := fun w h => (List.mem_cons_of_mem _ (List.mem_append_right _ (List.mem_append_right _ (List.mem_append_right _ (List.mem_append_right _ (List.mem_append_right _ (List.mem_append_right _ (List.mem_append_right _ (List.mem_append_right _ (List.mem_append_right _ (List.mem_append_right _ (List.mem_append_right _ (List.mem_append_left _ h)))))))))))))
  have hin11 : ∀ w ∈ u_ws RX11 TX11 17, w ∈ vs_k_turned := fun w h => (List.mem_cons_of_mem _ (List.mem_append_right _ (List.mem_append_right _ (List.mem_append_right _ (List.mem_append_right _ (List.mem_append_right _ (List.mem_append_right _ (List.mem_append_right _ (List.mem_append_right _ (List.mem_append_right _ (List.mem_append_right _ (List.mem_append_right _ (List.mem_append_right _ h)))))))))))))
  refine zQ (fun Q hQ => ?_)
  refine zH (A := A) (ws := (cW κ σ)) (fun H hP hS => ?_) hP
  have hk0 := hk.1
  have hk1 := hk.2.1
  have hk2 := hk.2.2.1
  refine lv_aload_n hx hb dX11_turned_0 rfl (lv_at hl 0 rfl) ?_
  refine va_get (D := (dC, dI)) (ci := 11) (v := .ref (kA κ 6)) (C := RX11) (T := TX11) (N := 17) hx hb hts hin11 hown hK hP 0 rfl rfl 4 (Nat.le_of_ble_eq_true rfl) (ho (.fieldLink RX11 26 "NearEnough" "told" "LNearEnough$Program;") (List.mem_of_getElem? (i := 0) rfl)) (fun _ h9 => h9) rfl dX11_turned_1 ?_
  refine lv_iload_n hx hb dX11_turned_4 rfl (lv_at hl 1 rfl) ?_
  refine zy_i (va_runV (As := [.int x]) (rest := []) ⟨hx, hb, hml, hown, hts⟩ (k_hasEnd l dC dI κ H.size σ x hk hI ) (cwV 1 hts gd_k_turned_227_k_hasEnd rfl rfl rfl dd_k_hasEnd ⟨Nat.le_of_ble_eq_true rfl, Nat.le_of_ble_eq_true rfl⟩) (preVy hP hK hD hE (ci := 3) (q0 := 6) rfl rfl) rfl rfl hl.1 rfl (lv_room (Nat.le_of_ble_eq_true rfl)) dX11_turned_5 ⟨Nat.le_of_ble_eq_true rfl, Nat.le_of_ble_eq_true rfl⟩) hD hS hA (fun z1_ τ2_ H locs hq hP hD hS => ?_)
  obtain ⟨hτ2_, q3_⟩ := hq
  rw [hτ2_] at hP hD
  have q3_ : (z1_.toInt = 1 ∧ 0 ≤ x.toInt ∧ x.toInt < (pI κ 2).toInt) ∨ z1_.toInt = 0 := q3_
  refine W.widen (k := 0) (n := 0) (Nat.le_of_ble_eq_true rfl) (Nat.le_of_ble_eq_true rfl) ?_
  refine lv_if_eq (tgt := 19) hx hb dX11_turned_8 rfl (fun c4_ => ?_) (fun c4_ => ?_)
  · have tc4_ := (show z1_.toInt = 0 from ti_eq rfl rg_11 c4_)
    refine lv_iconst (v := (-1)) hx hb dX11_turned_19 rg_53 ?_
    have kk5_ : ((-1) : Int32).toInt = (-1) := rg_489
    rw [hQ]
    exact W.iret (v := (-1)) hx hb hr (fun t ht hW => ⟨⟨(-1), σ, rfl, ⟨hI, trivial⟩, wEn_of hP (hK.sub [] rfl) hD ht hW⟩, hS.F ht⟩) hS.2.2 dX11_turned_20
  · have tc4_ := (show z1_.toInt ≠ 0 from ti_ne rfl rg_11 c4_)
    refine lv_aload_n hx hb dX11_turned_11 rfl (lv_at hl 0 rfl) ?_
    refine lv_iload_n hx hb dX11_turned_12 rfl (lv_at hl 2 rfl) ?_
    refine zy_i (va_runV (As := [.int y]) (rest := []) ⟨hx, hb, hml, hown, hts⟩ (k_stands l dC dI κ H.size σ y hk hI ) (cwV 1 hts gd_k_turned_209_k_stands rfl rfl rfl dd_k_stands ⟨Nat.le_of_ble_eq_true rfl, Nat.le_of_ble_eq_true rfl⟩) (preVy hP hK hD hE (ci := 11) (q0 := 0) rfl rfl) rfl rfl hl.1 rfl (lv_room (Nat.le_of_ble_eq_true rfl)) dX11_turned_13 ⟨Nat.le_of_ble_eq_true rfl, Nat.le_of_ble_eq_true rfl⟩) hD hS hA (fun z6_ τ7_ H locs hq hP hD hS => ?_)
    obtain ⟨hτ7_, q8_⟩ := hq
    have q8_ : z6_.toInt = 0 ∨ z6_.toInt = 1 := q8_
    refine W.widen (k := 0) (n := 0) (Nat.le_of_ble_eq_true rfl) (Nat.le_of_ble_eq_true rfl) ?_
    refine lv_if_ne (tgt := 21) hx hb dX11_turned_16 rfl (fun c9_ => ?_) (fun c9_ => ?_)
    · have tc9_ := (show z6_.toInt ≠ 0 from ti_ne rfl rg_11 c9_)
      refine lv_iconst (v := 0) hx hb dX11_turned_21 rg_0 ?_
      refine lv_istore_n (lv' := [(3, .int 0), (0, .ref (kA κ 0)), (1, .int x), (2, .int y)]) hx hb dX11_turned_22 rfl hl (Nat.le_of_ble_eq_true rfl) rfl (fun ls hl => ?_)
      refine lv_iconst (v := 0) hx hb dX11_turned_23 rg_0 ?_
      refine lv_istore (lv' := [(4, .int 0), (3, .int 0), (0, .ref (kA κ 0)), (1, .int x), (2, .int y)]) hx hb dX11_turned_24 hl (Nat.le_of_ble_eq_true rfl) rfl (fun ls hl => ?_)
      have pt26_ : ∀ (n26_ : Nat) (σ26_ : MS) (v3_ : Int32) (v4_ : Int32) (H : Heap) (locs : List Loc) (ls : Array Slot), (40 - v4_.toInt).toNat < n26_ → CInv σ26_ → (0 ≤ v4_.toInt) → va_P (dC, dI) vwCl (cW κ σ26_) H → va_D A (cW κ σ26_) → va_S A s.heap H locs → lv_has ls 5 [(3, .int v3_), (4, .int v4_), (0, .ref (kA κ 0)), (1, .int x)] → W p l e (headSpec vs_k_turned rm_k_turned).room s m #[Value.ref (kA κ 0), Value.int x, Value.int y] below meth c H locs 0 0 Q (F0 m 26 ls []) := by
        intro n26_
        induction n26_ with
        | zero => intro σ26_ v3_ v4_ H locs ls hn26_ hIσ26_ hf26_0_ hP hD hS hl; exact absurd hn26_ (Nat.not_lt_zero _)
        | succ n26_ ih26_ =>
          intro σ26_ v3_ v4_ H locs ls hn26_ hIσ26_ hf26_0_ hP hD hS hl
          refine lv_iload hx hb dX11_turned_26 (lv_at hl 1 rfl) ?_
          refine lv_aload_n hx hb dX11_turned_28 rfl (lv_at hl 2 rfl) ?_
          refine va_get (D := (dC, dI)) (ci := 11) (v := .ref (kA κ 12)) (C := RX11) (T := TX11) (N := 17) hx hb hts hin11 hown hK hP 0 rfl rfl 5 (Nat.le_of_ble_eq_true rfl) (ho (.fieldLink RX11 33 "NearEnough" "sheets" "LNearEnough$Sheets;") (List.mem_of_getElem? (i := 1) rfl)) (fun _ h9 => h9) rfl dX11_turned_29 ?_
          have bσ26__12 : 0 ≤ (σ26_.1 12).toInt ∧ (σ26_.1 12).toInt ≤ 40 := hIσ26_.1 12
          refine va_get (D := (dC, dI)) (ci := 7) (v := .int (σ26_.1 12)) (C := RX7) (T := TX7) (N := 3) hx hb hts hin7 hown hK hP 12 rfl rfl 2 (Nat.le_of_ble_eq_true rfl) (ho (.fieldLink RX11 111 "NearEnough$Sheets" "count" "I") (List.mem_of_getElem? (i := 2) rfl)) (fun _ h9 => h9) rfl dX11_turned_32 ?_
          refine lv_icmp_ge (tgt := 71) hx hb dX11_turned_35 rfl (fun c10_ => ?_) (fun c10_ => ?_)
          · have tc10_ := (show (σ26_.1 12).toInt ≤ v4_.toInt from ti_le rfl rfl c10_)
            refine lv_iload_n hx hb dX11_turned_71 rfl (lv_at hl 0 rfl) ?_
            rw [hQ]
            exact W.iret (v := v3_) hx hb hr (fun t ht hW => ⟨⟨v3_, σ26_, rfl, ⟨hIσ26_, trivial⟩, wEn_of hP (hK.sub [] rfl) hD ht hW⟩, hS.F ht⟩) hS.2.2 dX11_turned_72
          · have tc10_ := (show v4_.toInt < (σ26_.1 12).toInt from ti_nle rfl rfl c10_)
            refine lv_aload_n hx hb dX11_turned_38 rfl (lv_at hl 2 rfl) ?_
            refine va_get (D := (dC, dI)) (ci := 11) (v := .ref (kA κ 24)) (C := RX11) (T := TX11) (N := 17) hx hb hts hin11 hown hK hP 0 rfl rfl 8 (Nat.le_of_ble_eq_true rfl) (ho (.fieldLink RX11 58 "NearEnough" "worker" "LNearEnough$Worker;") (List.mem_of_getElem? (i := 3) rfl)) (fun _ h9 => h9) rfl dX11_turned_39 ?_
            refine lv_iload hx hb dX11_turned_42 (lv_at hl 1 rfl) ?_
            refine lv_iconst (v := 0) hx hb dX11_turned_44 rg_0 ?_
            refine lv_aload_n hx hb dX11_turned_45 rfl (lv_at hl 2 rfl) ?_
            refine zy_i (va_runV (As := []) (rest := [.int 0, .int v4_, .ref (kA κ 24)]) ⟨hx, hb, hml, hown, hts⟩ (k_lastStep l dC dI κ H.size σ26_  hk hIσ26_ ) (cwV 0 hts gd_k_turned_159_k_lastStep rfl rfl rfl dd_k_lastStep ⟨Nat.le_of_ble_eq_true rfl, Nat.le_of_ble_eq_true rfl⟩) (preVy hP hK hD hE (ci := 11) (q0 := 0) rfl rfl) rfl rfl hl.1 rfl (lv_room (Nat.le_of_ble_eq_true rfl)) dX11_turned_46 ⟨Nat.le_of_ble_eq_true rfl, Nat.le_of_ble_eq_true rfl⟩) hD hS hA (fun z11_ τ12_ H locs hq hP hD hS => ?_)
            obtain ⟨hτ12_, q13_⟩ := hq
            rw [hτ12_] at hP hD
            have q13_ : z11_.toInt = (pI κ 1).toInt - 1 := q13_
            refine W.widen (k := 0) (n := 0) (Nat.le_of_ble_eq_true rfl) (Nat.le_of_ble_eq_true rfl) ?_
            have kk14_ : (0 : Int32).toInt = 0 := rg_11
            have o1 : 0 ≤ v4_.toInt := by omega
            have o2 : v4_.toInt ≤ 40 := by omega
            have o3 : 0 ≤ (0 : Int32).toInt := by omega
            have o4 : (0 : Int32).toInt ≤ 12 := by omega
            have o5 : -1 ≤ z11_.toInt := by omega
            have o6 : z11_.toInt < (pI κ 1).toInt := by omega
            refine zy_v (va_runV (As := [.int v4_, .int 0, .int z11_]) (rest := []) ⟨hx, hb, hml, hown, hts⟩ (k_workChanged l dC dI κ H.size σ26_ v4_ 0 z11_ hk hIσ26_ ⟨o1, o2⟩ ⟨o3, o4⟩ ⟨o5, o6⟩) (cwV 3 hts gd_k_turned_214_k_workChanged rfl rfl rfl dd_k_workChanged ⟨Nat.le_of_ble_eq_true rfl, Nat.le_of_ble_eq_true rfl⟩) (preVy hP hK hD hE (ci := 10) (q0 := 24) rfl rfl) rfl rfl hl.1 rfl (lv_room (Nat.le_of_ble_eq_true rfl)) dX11_turned_49 ⟨Nat.le_of_ble_eq_true rfl, Nat.le_of_ble_eq_true rfl⟩) hD hS hA (fun τ16_ H locs hq hP hD hS => ?_)
            obtain ⟨hτ16_, q17_⟩ := hq
            refine W.widen (k := 0) (n := 0) (Nat.le_of_ble_eq_true rfl) (Nat.le_of_ble_eq_true rfl) ?_
            refine lv_aload_n hx hb dX11_turned_52 rfl (lv_at hl 2 rfl) ?_
            refine lv_iload_n hx hb dX11_turned_53 rfl (lv_at hl 3 rfl) ?_
            refine lv_iload hx hb dX11_turned_54 (lv_at hl 1 rfl) ?_
            have o7 : 0 ≤ x.toInt := by omega
            have o8 : x.toInt < (pI κ 2).toInt := by omega
            refine zy_i (va_runV (As := [.int x, .int v4_]) (rest := []) ⟨hx, hb, hml, hown, hts⟩ (k_turnsBack l dC dI κ H.size τ16_ x v4_ hk hτ16_ ⟨o7, o8⟩ ⟨o1, o2⟩) (cwV 2 hts gd_k_turned_343_k_turnsBack rfl rfl rfl dd_k_turnsBack ⟨Nat.le_of_ble_eq_true rfl, Nat.le_of_ble_eq_true rfl⟩) (preVy hP hK hD hE (ci := 11) (q0 := 0) rfl rfl) rfl rfl hl.1 rfl (lv_room (Nat.le_of_ble_eq_true rfl)) dX11_turned_56 ⟨Nat.le_of_ble_eq_true rfl, Nat.le_of_ble_eq_true rfl⟩) hD hS hA (fun z18_ τ19_ H locs hq hP hD hS => ?_)
            obtain ⟨hτ19_, q20_⟩ := hq
            rw [hτ19_] at hP hD
            have q20_ : z18_.toInt = 0 ∨ z18_.toInt = 1 := q20_
            refine W.widen (k := 0) (n := 0) (Nat.le_of_ble_eq_true rfl) (Nat.le_of_ble_eq_true rfl) ?_
            refine lv_if_eq (tgt := 65) hx hb dX11_turned_59 rfl (fun c21_ => ?_) (fun c21_ => ?_)
            · have tc21_ := (show z18_.toInt = 0 from ti_eq rfl rg_11 c21_)
              obtain ⟨z22_, ez22_⟩ : ∃ y : Int32, y = v4_ + 1 := ⟨_, rfl⟩
              have o9 : -2147483648 ≤ v4_.toInt + 1 := by omega
              have o10 : v4_.toInt + 1 ≤ 2147483647 := by omega
              have tz22_ := ti_add ez22_ rfl rg_18 o9 o10
              refine lv_iinc (v := z22_) (lv' := [(4, .int z22_), (3, .int v3_), (0, .ref (kA κ 0)), (1, .int x)]) hx hb dX11_turned_65 hl (k := 1) rfl (iincp ez22_ rg_6) (Nat.le_of_ble_eq_true rfl) rfl (fun ls hl => ?_)
              refine lv_goto (tgt := 26) hx hb dX11_turned_68 rfl ?_
              have o11 : (40 - z22_.toInt).toNat < n26_ := by omega
              have o12 : 0 ≤ z22_.toInt := by omega
              exact ih26_ τ16_ v3_ z22_ _ _ _ o11 hτ16_ o12 hP hD hS (lv_sub hl [1, 0, 2, 3] rfl)
            · have tc21_ := (show z18_.toInt ≠ 0 from ti_ne rfl rg_11 c21_)
              obtain ⟨z23_, ez23_⟩ : ∃ y : Int32, y = v3_ + 1 := ⟨_, rfl⟩
              refine lv_iinc (v := z23_) (lv' := [(3, .int z23_), (4, .int v4_), (0, .ref (kA κ 0)), (1, .int x)]) hx hb dX11_turned_62 hl (k := 0) rfl (iincp ez23_ rg_6) (Nat.le_of_ble_eq_true rfl) rfl (fun ls hl => ?_)
              obtain ⟨z24_, ez24_⟩ : ∃ y : Int32, y = v4_ + 1 := ⟨_, rfl⟩
              have o13 : -2147483648 ≤ v4_.toInt + 1 := by omega
              have o14 : v4_.toInt + 1 ≤ 2147483647 := by omega
              have tz24_ := ti_add ez24_ rfl rg_18 o13 o14
              refine lv_iinc (v := z24_) (lv' := [(4, .int z24_), (3, .int z23_), (0, .ref (kA κ 0)), (1, .int x)]) hx hb dX11_turned_65 hl (k := 1) rfl (iincp ez24_ rg_6) (Nat.le_of_ble_eq_true rfl) rfl (fun ls hl => ?_)
              refine lv_goto (tgt := 26) hx hb dX11_turned_68 rfl ?_
              have o15 : (40 - z24_.toInt).toNat < n26_ := by omega
              have o16 : 0 ≤ z24_.toInt := by omega
              exact ih26_ τ16_ z23_ z24_ _ _ _ o15 hτ16_ o16 hP hD hS (lv_sub hl [1, 0, 2, 3] rfl)
      have kk25_ : (0 : Int32).toInt = 0 := rg_11
      have kk26_ : (0 : Int32).toInt = 0 := rg_11
      have o17 : 0 ≤ (0 : Int32).toInt := by omega
      exact pt26_ _ τ7_ 0 0 _ _ _ (Nat.lt_succ_self _) hτ7_ o17 hP hD hS (lv_sub hl [1, 0, 2, 3] rfl)
    · have tc9_ := (show z6_.toInt = 0 from ti_eq rfl rg_11 c9_)
      refine lv_iconst (v := (-1)) hx hb dX11_turned_19 rg_53 ?_
      have kk27_ : ((-1) : Int32).toInt = (-1) := rg_489
      rw [hQ]
      exact W.iret (v := (-1)) hx hb hr (fun t ht hW => ⟨⟨(-1), τ7_, rfl, ⟨hτ7_, trivial⟩, wEn_of hP (hK.sub [] rfl) hD ht hW⟩, hS.F ht⟩) hS.2.2 dX11_turned_20
def ow_k_errorByBits : List Cond := [.fieldLink RX11 33 "NearEnough" "sheets" "LNearEnough$Sheets;", .fieldLink RX11 26 "NearEnough" "told" "LNearEnough$Program;", .fieldLink RX11 58 "NearEnough" "worker" "LNearEnough$Worker;", .fieldLink RX11 230 "NearEnough$Program" "endStep" "[I"]
def vs_k_errorByBits : List Cond := .code yX11_errorByBits cX11_errorByBits 3 (some .long) :: (ow_k_errorByBits ++ (([.methodLink RX11 155 yX7_lay, .instanceMethod yX7_lay, .selects RX7 yX7_lay yX7_lay, .initialized RX7] : List Cond) ++ (vs_k_lay ++ (([.methodLink RX11 163 yX10_workPlain, .instanceMethod yX10_workPlain, .selects RX10 yX10_workPlain yX10_workPlain, .initialized RX10] : List Cond) ++ (vs_k_workPlain ++ (([.methodLink RX11 241 yX11_errorOn, .instanceMethod yX11_errorOn, .selects RX11 yX11_errorOn yX11_errorOn, .initialized RX11] : List Cond) ++ (vs_k_errorOn ++ (wsX30 ++ (wsX110)))))))))
theorem vg_k_errorByBits : vs_k_errorByBits.all goodWord = true := by decide +kernel
theorem dd_k_errorByBits : yX11_errorByBits.cls = RX11 ∧ yX11_errorByBits.cls ≠ "java/lang/invoke/MethodHandle" ∧ yX11_errorByBits.cls ≠ "java/lang/invoke/VarHandle" ∧ (parseMethodDescriptor yX11_errorByBits.desc).map (fun d => d.parameters.length) = some 2 := by decide +kernel
def rm_k_errorByBits : Room := { frames := 6, cells := 0, slots := 0, locals := 160 }
theorem gd_k_errorByBits_155_k_lay : GoodIn vs_k_errorByBits (wsV RX11 155 RX7 yX7_lay vs_k_lay) := goodIn_app (goodIn_sub (fun w h => (List.mem_cons_of_mem _ (List.mem_append_right _ (List.mem_append_left _ h)))) (by decide +kernel)) (goodIn_sub (fun w h => (List.mem_cons_of_mem _ (List.mem_append_right _ (List.mem_append_right _ (List.mem_append_left _ h))))) vg_k_lay)
theorem gd_k_errorByBits_163_k_workPlain : GoodIn vs_k_errorByBits (wsV RX11 163 RX10 yX10_workPlain vs_k_workPlain) := goodIn_app (goodIn_sub (fun w h => (List.mem_cons_of_mem _ (List.mem_append_right _ (List.mem_append_right _ (List.mem_append_right _ (List.mem_append_left _ h)))))) (by decide +kernel)) (goodIn_sub (fun w h => (List.mem_cons_of_mem _ (List.mem_append_right _ (List.mem_append_right _ (List.mem_append_right _ (List.mem_append_right _ (List.mem_append_left _ h))))))) vg_k_workPlain)
theorem gd_k_errorByBits_241_k_errorOn : GoodIn vs_k_errorByBits (wsV RX11 241 RX11 yX11_errorOn vs_k_errorOn) := goodIn_app (goodIn_sub (fun w h => (List.mem_cons_of_mem _ (List.mem_append_right _ (List.mem_append_right _ (List.mem_append_right _ (List.mem_append_right _ (List.mem_append_right _ (List.mem_append_left _ h)))))))) (by decide +kernel)) (goodIn_sub (fun w h => (List.mem_cons_of_mem _ (List.mem_append_right _ (List.mem_append_right _ (List.mem_append_right _ (List.mem_append_right _ (List.mem_append_right _ (List.mem_append_right _ (List.mem_append_left _ h))))))))) vg_k_errorOn)
set_option maxHeartbeats 4000000 in
set_option maxRecDepth 100000 in
theorem k_errorByBits (l : Launch) (dC : Nat → ClassId) (dI : Nat → Nat → Nat) (κ : CE) (sz : Nat) (σ : MS) (x : Int32) (y : Int32) (hk : PInv κ) (hI : CInv σ) (hx0 : 0 ≤ x.toInt ∧ x.toInt < (pI κ 2).toInt) : Met l yX11_errorByBits vs_k_errorByBits rm_k_errorByBits (va_Pc [.ref (kA κ 0), .int x, .int y] (wSy dC dI (cW κ σ) (cT κ) sz)) (va_Ql (fun (r : Int64) (τ : MS) => CInv τ ∧ True) (fun (τ : MS) => wEn dC dI (va_A (cW κ σ) sz) (cW κ τ) []) (va_A (cW κ σ) sz)) 0 0 (va_A (cW κ σ) sz) := by
  refine Met.ofW (cc := cX11_errorByBits) (maxL := 3) (ret := (some .long)) (by decide +kernel) rfl ?_
  intro p e s m args below meth c s₁ B hml hv
  obtain ⟨rfl, hsz, hP, hK, hD0, hE⟩ := hv
  have hx := B.exec
  have hb := B.bytes
  have hr := B.returns
  have hts := atoms_spec (ws := vs_k_errorByBits) B.pre
  have hown : s.vm.findClass RX11 = some m.cls := findClass_of_methodNamed B.named
  have hlocks := B.notSynchronized
  subst hsz
  have hD := hD0.self (sz := s.heap.size)
  generalize hAe : va_A (cW κ σ) s.heap.size = A at hD ⊢
  have hA : ∀ q : Nat, s.heap.size ≤ q → A q := fun q h => by rw [← hAe]; exact Or.inr h
  have hl := lv_entry ([.ref (kA κ 0), .int x, .int y]) (n := 3) (Nat.le_of_ble_eq_true rfl)
  rw [lg_entry_eq]
  generalize (lg_sl ([.ref (kA κ 0), .int x, .int y]) ++ List.replicate (3 - (lg_sl ([.ref (kA κ 0), .int x, .int y])).length) Slot.unset).toArray = ls at hl ⊢
  have hl : lv_has ls 3 [(0, .ref (kA κ 0)), (1, .int x), (2, .int y)] := hl
  have ho := fun w (h : w ∈ ow_k_errorByBits) => hts w (List.mem_cons_of_mem _ (List.mem_append_left _ h))
  have hin3 : ∀ w ∈ u_ws RX3 TX3 8, w ∈ vs_k_errorByBits := fun w h => (List.mem_cons_of_mem _ (List.mem_append_right _ (List.mem_append_right _ (List.mem_append_right _ (List.mem_append_right _ (List.mem_append_right _ (List.mem_append_right _ (List.mem_append_right _ (List.mem_append_left _ h)))))))))
  have hin11 : ∀ w ∈ u_ws RX11 TX11 17, w ∈ vs_k_errorByBits := fun w h => (List.mem_cons_of_mem _ (List.mem_append_right _ (List.mem_append_right _ (List.mem_append_right _ (List.mem_append_right _ (List.mem_append_right _ (List.mem_append_right _ (List.mem_append_right _ (List.mem_append_right _ h)))))))))
  refine zQ (fun Q hQ => ?_)
  refine zH (A := A) (ws := (cW κ σ)) (fun H hP hS => ?_) hP
  have hk0 := hk.1
  have hk1 := hk.2.1
  have hk2 := hk.2.2.1
  refine lv_aload_n hx hb dX11_errorByBits_0 rfl (lv_at hl 0 rfl) ?_
  refine va_get (D := (dC, dI)) (ci := 11) (v := .ref (kA κ 12)) (C := RX11) (T := TX11) (N := 17) hx hb hts hin11 hown hK hP 0 rfl rfl 5 (Nat.le_of_ble_eq_true rfl) (ho (.fieldLink RX11 33 "NearEnough" "sheets" "LNearEnough$Sheets;") (List.mem_of_getElem? (i := 0) rfl)) (fun _ h9 => h9) rfl dX11_errorByBits_1 ?_
  refine lv_bipush (v := 40) hx hb dX11_errorByBits_4 rg_73 ?_
  refine lv_iload_n hx hb dX11_errorByBits_6 rfl (lv_at hl 2 rfl) ?_
  refine lv_aload_n hx hb dX11_errorByBits_7 rfl (lv_at hl 0 rfl) ?_
  refine va_get (D := (dC, dI)) (ci := 11) (v := .ref (kA κ 6)) (C := RX11) (T := TX11) (N := 17) hx hb hts hin11 hown hK hP 0 rfl rfl 4 (Nat.le_of_ble_eq_true rfl) (ho (.fieldLink RX11 26 "NearEnough" "told" "LNearEnough$Program;") (List.mem_of_getElem? (i := 1) rfl)) (fun _ h9 => h9) rfl dX11_errorByBits_8 ?_
  have kk1_ : (40 : Int32).toInt = 40 := rg_74
  have o1 : 0 ≤ (40 : Int32).toInt := by omega
  have o2 : (40 : Int32).toInt ≤ 40 := by omega
  refine zy_v (va_runV (As := [.int 40, .int y, .ref (kA κ 6)]) (rest := []) ⟨hx, hb, hml, hown, hts⟩ (k_lay l dC dI κ H.size σ 40 y hk hI ⟨o1, o2⟩) (cwV 3 hts gd_k_errorByBits_155_k_lay rfl rfl rfl dd_k_lay ⟨Nat.le_of_ble_eq_true rfl, Nat.le_of_ble_eq_true rfl⟩) (preVy hP hK hD hE (ci := 7) (q0 := 12) rfl rfl) rfl rfl hl.1 rfl (lv_room (Nat.le_of_ble_eq_true rfl)) dX11_errorByBits_11 ⟨Nat.le_of_ble_eq_true rfl, Nat.le_of_ble_eq_true rfl⟩) hD hS hA (fun τ3_ H locs hq hP hD hS => ?_)
  obtain ⟨hτ3_, q4_⟩ := hq
  refine W.widen (k := 0) (n := 0) (Nat.le_of_ble_eq_true rfl) (Nat.le_of_ble_eq_true rfl) ?_
  refine lv_aload_n hx hb dX11_errorByBits_14 rfl (lv_at hl 0 rfl) ?_
  refine va_get (D := (dC, dI)) (ci := 11) (v := .ref (kA κ 24)) (C := RX11) (T := TX11) (N := 17) hx hb hts hin11 hown hK hP 0 rfl rfl 8 (Nat.le_of_ble_eq_true rfl) (ho (.fieldLink RX11 58 "NearEnough" "worker" "LNearEnough$Worker;") (List.mem_of_getElem? (i := 2) rfl)) (fun _ h9 => h9) rfl dX11_errorByBits_15 ?_
  refine lv_bipush (v := 40) hx hb dX11_errorByBits_18 rg_73 ?_
  refine lv_aload_n hx hb dX11_errorByBits_20 rfl (lv_at hl 0 rfl) ?_
  refine va_get (D := (dC, dI)) (ci := 11) (v := .ref (kA κ 6)) (C := RX11) (T := TX11) (N := 17) hx hb hts hin11 hown hK hP 0 rfl rfl 4 (Nat.le_of_ble_eq_true rfl) (ho (.fieldLink RX11 26 "NearEnough" "told" "LNearEnough$Program;") (List.mem_of_getElem? (i := 1) rfl)) (fun _ h9 => h9) rfl dX11_errorByBits_21 ?_
  refine va_get (D := (dC, dI)) (ci := 3) (v := .ref (kA κ 9)) (C := RX3) (T := TX3) (N := 8) hx hb hts hin3 hown hK hP 6 rfl rfl 2 (Nat.le_of_ble_eq_true rfl) (ho (.fieldLink RX11 230 "NearEnough$Program" "endStep" "[I") (List.mem_of_getElem? (i := 3) rfl)) (fun _ h9 => h9) rfl dX11_errorByBits_24 ?_
  refine lv_iload_n hx hb dX11_errorByBits_27 rfl (lv_at hl 1 rfl) ?_
  have o3 : 0 ≤ x.toInt := by omega
  have o4 : x.toInt < ((4 : Nat) : Int) := by omega
  refine va_iald hx hb hK hP 9 7 rfl rfl (ti_inx o3 o4) dX11_errorByBits_28 ?_
  refine lv_topi (fun z5_ ez5_ => ?_)
  have o5 : x.toInt < (pI κ 2).toInt := by omega
  have bz5_ := hk.en ez5_ o3 o5
  have kk6_ : (40 : Int32).toInt = 40 := rg_74
  have o6 : -1 ≤ z5_.toInt := by omega
  have o7 : z5_.toInt < (pI κ 1).toInt := by omega
  refine zy_v (va_runV (As := [.int 40, .int z5_]) (rest := []) ⟨hx, hb, hml, hown, hts⟩ (k_workPlain l dC dI κ H.size τ3_ 40 z5_ hk hτ3_ ⟨o1, o2⟩ ⟨o6, o7⟩) (cwV 2 hts gd_k_errorByBits_163_k_workPlain rfl rfl rfl dd_k_workPlain ⟨Nat.le_of_ble_eq_true rfl, Nat.le_of_ble_eq_true rfl⟩) (preVy hP hK hD hE (ci := 10) (q0 := 24) rfl rfl) rfl rfl hl.1 rfl (lv_room (Nat.le_of_ble_eq_true rfl)) dX11_errorByBits_29 ⟨Nat.le_of_ble_eq_true rfl, Nat.le_of_ble_eq_true rfl⟩) hD hS hA (fun τ8_ H locs hq hP hD hS => ?_)
  obtain ⟨hτ8_, q9_⟩ := hq
  refine W.widen (k := 0) (n := 0) (Nat.le_of_ble_eq_true rfl) (Nat.le_of_ble_eq_true rfl) ?_
  refine lv_aload_n hx hb dX11_errorByBits_32 rfl (lv_at hl 0 rfl) ?_
  refine lv_iload_n hx hb dX11_errorByBits_33 rfl (lv_at hl 1 rfl) ?_
  refine lv_bipush (v := 40) hx hb dX11_errorByBits_34 rg_73 ?_
  have kk10_ : (40 : Int32).toInt = 40 := rg_74
  refine zy_l (va_runV (As := [.int x, .int 40]) (rest := []) ⟨hx, hb, hml, hown, hts⟩ (k_errorOn l dC dI κ H.size τ8_ x 40 hk hτ8_ ⟨o3, o5⟩ ⟨o1, o2⟩) (cwV 2 hts gd_k_errorByBits_241_k_errorOn rfl rfl rfl dd_k_errorOn ⟨Nat.le_of_ble_eq_true rfl, Nat.le_of_ble_eq_true rfl⟩) (preVy hP hK hD hE (ci := 11) (q0 := 0) rfl rfl) rfl rfl hl.1 rfl (lv_room (Nat.le_of_ble_eq_true rfl)) dX11_errorByBits_36 ⟨Nat.le_of_ble_eq_true rfl, Nat.le_of_ble_eq_true rfl⟩) hD hS hA (fun y11_ τ12_ H locs hq hP hD hS => ?_)
  obtain ⟨hτ12_, q13_⟩ := hq
  refine W.widen (k := 0) (n := 0) (Nat.le_of_ble_eq_true rfl) (Nat.le_of_ble_eq_true rfl) ?_
  rw [hQ]
  exact W.lret (v := y11_) hx hb hr (fun t ht hW => ⟨⟨y11_, τ12_, rfl, ⟨hτ12_, trivial⟩, wEn_of hP (hK.sub [] rfl) hD ht hW⟩, hS.F ht⟩) hS.2.2 dX11_errorByBits_39
def ow_k_worst : List Cond := [.fieldLink RX11 26 "NearEnough" "told" "LNearEnough$Program;", .constantLong RX11 221 (-1000000000000), .methodLink RX11 244 Lib.MathLoose.abs_long.x, .static Lib.MathLoose.abs_long.x, .initialized "java/lang/Math", .code Lib.MathLoose.abs_long.x Lib.MathLoose.abs_long.code 2 (some .long)]
def vs_k_worst : List Cond := .code yX11_worst cX11_worst 11 (some .long) :: (ow_k_worst ++ (([.methodLink RX11 227 yX3_hasEnd, .instanceMethod yX3_hasEnd, .selects RX3 yX3_hasEnd yX3_hasEnd, .initialized RX3] : List Cond) ++ (vs_k_hasEnd ++ (([.methodLink RX11 209 yX11_stands, .instanceMethod yX11_stands, .selects RX11 yX11_stands yX11_stands, .initialized RX11] : List Cond) ++ (vs_k_stands ++ (([.methodLink RX11 347 yX3_placeCount, .instanceMethod yX3_placeCount, .selects RX3 yX3_placeCount yX3_placeCount, .initialized RX3] : List Cond) ++ (vs_k_placeCount ++ (([.methodLink RX11 350 yX11_errorByBits, .instanceMethod yX11_errorByBits, .selects RX11 yX11_errorByBits yX11_errorByBits, .initialized RX11] : List Cond) ++ (vs_k_errorByBits ++ (wsX110))))))))))
theorem vg_k_worst : vs_k_worst.all goodWord = true := by decide +kernel
theorem dd_k_worst : yX11_worst.cls = RX11 ∧ yX11_worst.cls ≠ "java/lang/invoke/MethodHandle" ∧ yX11_worst.cls ≠ "java/lang/invoke/VarHandle" ∧ (parseMethodDescriptor yX11_worst.desc).map (fun d => d.parameters.length) = some 3 := by decide +kernel
def rm_k_worst : Room := { frames := 7, cells := 0, slots := 0, locals := 182 }
theorem gd_k_worst_227_k_hasEnd : GoodIn vs_k_worst (wsV RX11 227 RX3 yX3_hasEnd vs_k_hasEnd) := goodIn_app (goodIn_sub (fun w h => (List.mem_cons_of_mem _ (List.mem_append_right _ (List.mem_append_left _ h)))) (by decide +kernel)) (goodIn_sub (fun w h => (List.mem_cons_of_mem _ (List.mem_append_right _ (List.mem_append_right _ (List.mem_append_left _ h))))) vg_k_hasEnd)
theorem gd_k_worst_209_k_stands : GoodIn vs_k_worst (wsV RX11 209 RX11 yX11_stands vs_k_stands) := goodIn_app (goodIn_sub (fun w h => (List.mem_cons_of_mem _ (List.mem_append_right _ (List.mem_append_right _ (List.mem_append_right _ (List.mem_append_left _ h)))))) (by decide +kernel)) (goodIn_sub (fun w h => (List.mem_cons_of_mem _ (List.mem_append_right _ (List.mem_append_right _ (List.mem_append_right _ (List.mem_append_right _ (List.mem_append_left _ h))))))) vg_k_stands)
theorem gd_k_worst_347_k_placeCount : GoodIn vs_k_worst (wsV RX11 347 RX3 yX3_placeCount vs_k_placeCount) := goodIn_app (goodIn_sub (fun w h => (List.mem_cons_of_mem _ (List.mem_append_right _ (List.mem_append_right _ (List.mem_append_right _ (List.mem_append_right _ (List.mem_append_right _ (List.mem_append_left _ h)))))))) (by decide +kernel)) (goodIn_sub (fun w h => (List.mem_cons_of_mem _ (List.mem_append_right _ (List.mem_append_right _ (List.mem_append_right _ (List.mem_append_right _ (List.mem_append_right _ (List.mem_append_right _ (List.mem_append_left _ h))))))))) vg_k_placeCount)
theorem gd_k_worst_350_k_errorByBits : GoodIn vs_k_worst (wsV RX11 350 RX11 yX11_errorByBits vs_k_errorByBits) := goodIn_app (goodIn_sub (fun w h => (List.mem_cons_of_mem _ (List.mem_append_right _ (List.mem_append_right _ (List.mem_append_right _ (List.mem_append_right _ (List.mem_append_right _ (List.mem_append_right _ (List.mem_append_right _ (List.mem_append_left _ h)))))))))) (by decide +kernel)) (goodIn_sub (fun w h => (List.mem_cons_of_mem _ (List.mem_append_right _ (List.mem_append_right _ (List.mem_append_right _ (List.mem_append_right _ (List.mem_append_right _ (List.mem_append_right _ (List.mem_append_right _ (List.mem_append_right _ (List.mem_append_left _ h))))))))))) vg_k_errorByBits)
set_option maxHeartbeats 4000000 in
set_option maxRecDepth 100000 in
theorem k_worst (l : Launch) (dC : Nat → ClassId) (dI : Nat → Nat → Nat) (κ : CE) (sz : Nat) (σ : MS) (x : Int32) (y : Int32) (z : Int32) (hk : PInv κ) (hI : CInv σ)  : Met l yX11_worst vs_k_worst rm_k_worst (va_Pc [.ref (kA κ 0), .int x, .int y, .int z] (wSy dC dI (cW κ σ) (cT κ) sz)) (va_Ql (fun (r : Int64) (τ : MS) => CInv τ ∧ True) (fun (τ : MS) => wEn dC dI (va_A (cW κ σ) sz) (cW κ τ) []) (va_A (cW κ σ) sz)) 0 0 (va_A (cW κ σ) sz) := by
  refine Met.ofW (cc := cX11_worst) (maxL := 11) (ret := (some .long)) (by decide +kernel) rfl ?_
  intro p e s m args below meth c s₁ B hml hv
  obtain ⟨rfl, hsz, hP, hK, hD0, hE⟩ := hv
  have hx := B.exec
  have hb := B.bytes
  have hr := B.returns
  have hts := atoms_spec (ws := vs_k_worst) B.pre
  have hown : s.vm.findClass RX11 = some m.cls := findClass_of_methodNamed B.named
  have hlocks := B.notSynchronized
  subst hsz
  have hD := hD0.self (sz := s.heap.size)
  generalize hAe : va_A (cW κ σ) s.heap.size = A at hD ⊢
  have hA : ∀ q : Nat, s.heap.size ≤ q → A q := fun q h => by rw [← hAe]; exact Or.inr h
  have hl := lv_entry ([.ref (kA κ 0), .int x, .int y, .int z]) (n := 11) (Nat.le_of_ble_eq_true rfl)
  rw [lg_entry_eq]
  generalize (lg_sl ([.ref (kA κ 0), .int x, .int y, .int z]) ++ List.replicate (11 - (lg_sl ([.ref (kA κ 0), .int x, .int y, .int z])).length) Slot.unset).toArray = ls at hl ⊢
  have hl : lv_has ls 11 [(0, .ref (kA κ 0)), (1, .int x), (2, .int y), (3, .int z)] := hl
  have ho := fun w (h : w ∈ ow_k_worst) => hts w (List.mem_cons_of_mem _ (List.mem_append_left _ h))
  have hin11 : ∀ w ∈ u_ws RX11 TX11 17, w ∈ vs_k_worst := fun w h => (List.mem_cons_of_mem _ (List.mem_append_right _ (List.mem_append_right _ (List.mem_append_right _ (List.mem_append_right _ (List.mem_append_right _ (List.mem_append_right _ (List.mem_append_right _ (List.mem_append_right _ (List.mem_append_right _ h))))))))))
  refine zQ (fun Q hQ => ?_)
  refine zH (A := A) (ws := (cW κ σ)) (fun H hP hS => ?_) hP
  have hk0 := hk.1
  have hk1 := hk.2.1
  have hk2 := hk.2.2.1
  refine lv_aload_n hx hb dX11_worst_0 rfl (lv_at hl 0 rfl) ?_
  refine va_get (D := (dC, dI)) (ci := 11) (v := .ref (kA κ 6)) (C := RX11) (T := TX11) (N := 17) hx hb hts hin11 hown hK hP 0 rfl rfl 4 (Nat.le_of_ble_eq_true rfl) (ho (.fieldLink RX11 26 "NearEnough" "told" "LNearEnough$Program;") (List.mem_of_getElem? (i := 0) rfl)) (fun _ h9 => h9) rfl dX11_worst_1 ?_
  refine lv_iload_n hx hb dX11_worst_4 rfl (lv_at hl 1 rfl) ?_
  refine zy_i (va_runV (As := [.int x]) (rest := []) ⟨hx, hb, hml, hown, hts⟩ (k_hasEnd l dC dI κ H.size σ x hk hI ) (cwV 1 hts gd_k_worst_227_k_hasEnd rfl rfl rfl dd_k_hasEnd ⟨Nat.le_of_ble_eq_true rfl, Nat.le_of_ble_eq_true rfl⟩) (preVy hP hK hD hE (ci := 3) (q0 := 6) rfl rfl) rfl rfl hl.1 rfl (lv_room (Nat.le_of_ble_eq_true rfl)) dX11_worst_5 ⟨Nat.le_of_ble_eq_true rfl, Nat.le_of_ble_eq_true rfl⟩) hD hS hA (fun z1_ τ2_ H locs hq hP hD hS => ?_)
  obtain ⟨hτ2_, q3_⟩ := hq
  rw [hτ2_] at hP hD
  have q3_ : (z1_.toInt = 1 ∧ 0 ≤ x.toInt ∧ x.toInt < (pI κ 2).toInt) ∨ z1_.toInt = 0 := q3_
  refine W.widen (k := 0) (n := 0) (Nat.le_of_ble_eq_true rfl) (Nat.le_of_ble_eq_true rfl) ?_
  refine lv_if_eq (tgt := 28) hx hb dX11_worst_8 rfl (fun c4_ => ?_) (fun c4_ => ?_)
  · have tc4_ := (show z1_.toInt = 0 from ti_eq rfl rg_11 c4_)
    refine lv_ldc2 (v := (-1000000000000)) hx hb hown (ho (.constantLong RX11 221 (-1000000000000)) (List.mem_of_getElem? (i := 1) rfl)) dX11_worst_28 ?_
    rw [hQ]
    exact W.lret (v := (-1000000000000)) hx hb hr (fun t ht hW => ⟨⟨(-1000000000000), σ, rfl, ⟨hI, trivial⟩, wEn_of hP (hK.sub [] rfl) hD ht hW⟩, hS.F ht⟩) hS.2.2 dX11_worst_31
  · have tc4_ := (show z1_.toInt ≠ 0 from ti_ne rfl rg_11 c4_)
    refine lv_iload_n hx hb dX11_worst_11 rfl (lv_at hl 3 rfl) ?_
    refine lv_if_lt (tgt := 28) hx hb dX11_worst_12 rfl (fun c5_ => ?_) (fun c5_ => ?_)
    · have tc5_ := (show z.toInt < 0 from ti_lt rfl rg_11 c5_)
      refine lv_ldc2 (v := (-1000000000000)) hx hb hown (ho (.constantLong RX11 221 (-1000000000000)) (List.mem_of_getElem? (i := 1) rfl)) dX11_worst_28 ?_
      rw [hQ]
      exact W.lret (v := (-1000000000000)) hx hb hr (fun t ht hW => ⟨⟨(-1000000000000), σ, rfl, ⟨hI, trivial⟩, wEn_of hP (hK.sub [] rfl) hD ht hW⟩, hS.F ht⟩) hS.2.2 dX11_worst_31
    · have tc5_ := (show 0 ≤ z.toInt from ti_nlt rfl rg_11 c5_)
      refine lv_iload_n hx hb dX11_worst_15 rfl (lv_at hl 3 rfl) ?_
      refine lv_iconst (v := 1) hx hb dX11_worst_16 rg_6 ?_
      refine lv_icmp_gt (tgt := 28) hx hb dX11_worst_17 rfl (fun c6_ => ?_) (fun c6_ => ?_)
      · have tc6_ := (show 1 < z.toInt from ti_lt rg_18 rfl c6_)
        refine lv_ldc2 (v := (-1000000000000)) hx hb hown (ho (.constantLong RX11 221 (-1000000000000)) (List.mem_of_getElem? (i := 1) rfl)) dX11_worst_28 ?_
        rw [hQ]
        exact W.lret (v := (-1000000000000)) hx hb hr (fun t ht hW => ⟨⟨(-1000000000000), σ, rfl, ⟨hI, trivial⟩, wEn_of hP (hK.sub [] rfl) hD ht hW⟩, hS.F ht⟩) hS.2.2 dX11_worst_31
      · have tc6_ := (show z.toInt ≤ 1 from ti_nlt rg_18 rfl c6_)
        refine lv_aload_n hx hb dX11_worst_20 rfl (lv_at hl 0 rfl) ?_
        refine lv_iload_n hx hb dX11_worst_21 rfl (lv_at hl 2 rfl) ?_
        refine zy_i (va_runV (As := [.int y]) (rest := []) ⟨hx, hb, hml, hown, hts⟩ (k_stands l dC dI κ H.size σ y hk hI ) (cwV 1 hts gd_k_worst_209_k_stands rfl rfl rfl dd_k_stands ⟨Nat.le_of_ble_eq_true rfl, Nat.le_of_ble_eq_true rfl⟩) (preVy hP hK hD hE (ci := 11) (q0 := 0) rfl rfl) rfl rfl hl.1 rfl (lv_room (Nat.le_of_ble_eq_true rfl)) dX11_worst_22 ⟨Nat.le_of_ble_eq_true rfl, Nat.le_of_ble_eq_true rfl⟩) hD hS hA (fun z7_ τ8_ H locs hq hP hD hS => ?_)
        obtain ⟨hτ8_, q9_⟩ := hq
        have q9_ : z7_.toInt = 0 ∨ z7_.toInt = 1 := q9_
        refine W.widen (k := 0) (n := 0) (Nat.le_of_ble_eq_true rfl) (Nat.le_of_ble_eq_true rfl) ?_
        refine lv_if_ne (tgt := 32) hx hb dX11_worst_25 rfl (fun c10_ => ?_) (fun c10_ => ?_)
        · have tc10_ := (show z7_.toInt ≠ 0 from ti_ne rfl rg_11 c10_)
          refine lv_lconst (v := 0) hx hb dX11_worst_32 (by decide) ?_
          refine lv_lstore (lv' := [(4, .long 0), (0, .ref (kA κ 0)), (1, .int x), (2, .int y), (3, .int z)]) hx hb dX11_worst_33 hl (Nat.le_of_ble_eq_true rfl) rfl (fun ls hl => ?_)
          refine lv_iconst (v := 0) hx hb dX11_worst_35 rg_0 ?_
          refine lv_istore (lv' := [(6, .int 0), (4, .long 0), (0, .ref (kA κ 0)), (1, .int x), (2, .int y), (3, .int z)]) hx hb dX11_worst_36 hl (Nat.le_of_ble_eq_true rfl) rfl (fun ls hl => ?_)
          refine lv_iconst (v := 1) hx hb dX11_worst_38 rg_6 ?_
          refine lv_aload_n hx hb dX11_worst_39 rfl (lv_at hl 2 rfl) ?_
          refine va_get (D := (dC, dI)) (ci := 11) (v := .ref (kA κ 6)) (C := RX11) (T := TX11) (N := 17) hx hb hts hin11 hown hK hP 0 rfl rfl 4 (Nat.le_of_ble_eq_true rfl) (ho (.fieldLink RX11 26 "NearEnough" "told" "LNearEnough$Program;") (List.mem_of_getElem? (i := 0) rfl)) (fun _ h9 => h9) rfl dX11_worst_40 ?_
          refine zy_i (va_runV (As := []) (rest := [.int 1]) ⟨hx, hb, hml, hown, hts⟩ (k_placeCount l dC dI κ H.size τ8_  hk hτ8_ ) (cwV 0 hts gd_k_worst_347_k_placeCount rfl rfl rfl dd_k_placeCount ⟨Nat.le_of_ble_eq_true rfl, Nat.le_of_ble_eq_true rfl⟩) (preVy hP hK hD hE (ci := 3) (q0 := 6) rfl rfl) rfl rfl hl.1 rfl (lv_room (Nat.le_of_ble_eq_true rfl)) dX11_worst_43 ⟨Nat.le_of_ble_eq_true rfl, Nat.le_of_ble_eq_true rfl⟩) hD hS hA (fun z11_ τ12_ H locs hq hP hD hS => ?_)
          obtain ⟨hτ12_, q13_⟩ := hq
          rw [hτ12_] at hP hD
          have q13_ : 0 ≤ z11_.toInt ∧ z11_.toInt ≤ 12 := q13_
          refine W.widen (k := 0) (n := 0) (Nat.le_of_ble_eq_true rfl) (Nat.le_of_ble_eq_true rfl) ?_
          refine lv_ishl hx hb dX11_worst_46 ?_
          refine lv_topi (fun z14_ ez14_ => ?_)
          have az14_ := Inv.any z14_
          refine lv_istore (lv' := [(7, .int z14_), (6, .int 0), (4, .long 0), (0, .ref (kA κ 0)), (1, .int x), (2, .int y), (3, .int z)]) hx hb dX11_worst_47 hl (Nat.le_of_ble_eq_true rfl) rfl (fun ls hl => ?_)
          refine lv_iconst (v := 0) hx hb dX11_worst_49 rg_0 ?_
          refine lv_istore (lv' := [(8, .int 0), (7, .int z14_), (6, .int 0), (4, .long 0), (0, .ref (kA κ 0)), (1, .int x), (2, .int y), (3, .int z)]) hx hb dX11_worst_50 hl (Nat.le_of_ble_eq_true rfl) rfl (fun ls hl => ?_)
          have pt52_ : ∀ (n52_ : Nat) (σ52_ : MS) (v4_ : Int64) (v6_ : Int32) (v8_ : Int32) (H : Heap) (locs : List Loc) (ls : Array Slot), (z14_.toInt - v8_.toInt).toNat < n52_ → CInv σ52_ → (0 ≤ v8_.toInt) → va_P (dC, dI) vwCl (cW κ σ52_) H → va_D A (cW κ σ52_) → va_S A s.heap H locs → lv_has ls 11 [(4, .long v4_), (6, .int v6_), (8, .int v8_), (7, .int z14_), (0, .ref (kA κ 0)), (1, .int x), (3, .int z)] → W p l e (headSpec vs_k_worst rm_k_worst).room s m #[Value.ref (kA κ 0), Value.int x, Value.int y, Value.int z] below meth c H locs 0 0 Q (F0 m 52 ls []) := by
            intro n52_
            induction n52_ with
            | zero => intro σ52_ v4_ v6_ v8_ H locs ls hn52_ hIσ52_ hf52_0_ hP hD hS hl; exact absurd hn52_ (Nat.not_lt_zero _)
            | succ n52_ ih52_ =>
              intro σ52_ v4_ v6_ v8_ H locs ls hn52_ hIσ52_ hf52_0_ hP hD hS hl
              refine lv_iload hx hb dX11_worst_52 (lv_at hl 2 rfl) ?_
              refine lv_iload hx hb dX11_worst_54 (lv_at hl 3 rfl) ?_
              refine lv_icmp_ge (tgt := 96) hx hb dX11_worst_56 rfl (fun c15_ => ?_) (fun c15_ => ?_)
              · have tc15_ := (show z14_.toInt ≤ v8_.toInt from ti_le rfl rfl c15_)
                refine lv_iload_n hx hb dX11_worst_96 rfl (lv_at hl 6 rfl) ?_
                refine lv_if_ne (tgt := 105) hx hb dX11_worst_97 rfl (fun c16_ => ?_) (fun c16_ => ?_)
                · have tc16_ := (show z.toInt ≠ 0 from ti_ne rfl rg_11 c16_)
                  refine lv_iload hx hb dX11_worst_105 (lv_at hl 1 rfl) ?_
                  refine lv_i2l hx hb dX11_worst_107 rfl ?_
                  refine lv_topl (fun y17_ ey17_ => ?_)
                  rw [hQ]
                  exact W.lret (v := y17_) hx hb hr (fun t ht hW => ⟨⟨y17_, σ52_, rfl, ⟨hIσ52_, trivial⟩, wEn_of hP (hK.sub [] rfl) hD ht hW⟩, hS.F ht⟩) hS.2.2 dX11_worst_108
                · have tc16_ := (show z.toInt = 0 from ti_eq rfl rg_11 c16_)
                  refine lv_lload hx hb dX11_worst_100 (lv_at hl 0 rfl) ?_
                  refine lv_goto (tgt := 108) hx hb dX11_worst_102 rfl ?_
                  rw [hQ]
                  exact W.lret (v := v4_) hx hb hr (fun t ht hW => ⟨⟨v4_, σ52_, rfl, ⟨hIσ52_, trivial⟩, wEn_of hP (hK.sub [] rfl) hD ht hW⟩, hS.F ht⟩) hS.2.2 dX11_worst_108
              · have tc15_ := (show v8_.toInt < z14_.toInt from ti_nle rfl rfl c15_)
                refine lv_aload_n hx hb dX11_worst_59 rfl (lv_at hl 4 rfl) ?_
                refine lv_iload_n hx hb dX11_worst_60 rfl (lv_at hl 5 rfl) ?_
                refine lv_iload hx hb dX11_worst_61 (lv_at hl 2 rfl) ?_
                have o1 : 0 ≤ x.toInt := by omega
                have o2 : x.toInt < (pI κ 2).toInt := by omega
                refine zy_l (va_runV (As := [.int x, .int v8_]) (rest := []) ⟨hx, hb, hml, hown, hts⟩ (k_errorByBits l dC dI κ H.size σ52_ x v8_ hk hIσ52_ ⟨o1, o2⟩) (cwV 2 hts gd_k_worst_350_k_errorByBits rfl rfl rfl dd_k_errorByBits ⟨Nat.le_of_ble_eq_true rfl, Nat.le_of_ble_eq_true rfl⟩) (preVy hP hK hD hE (ci := 11) (q0 := 0) rfl rfl) rfl rfl hl.1 rfl (lv_room (Nat.le_of_ble_eq_true rfl)) dX11_worst_63 ⟨Nat.le_of_ble_eq_true rfl, Nat.le_of_ble_eq_true rfl⟩) hD hS hA (fun y18_ τ19_ H locs hq hP hD hS => ?_)
                obtain ⟨hτ19_, q20_⟩ := hq
                refine W.widen (k := 0) (n := 0) (Nat.le_of_ble_eq_true rfl) (Nat.le_of_ble_eq_true rfl) ?_
                refine lv_lstore (lv' := [(9, .long y18_), (4, .long v4_), (6, .int v6_), (8, .int v8_), (7, .int z14_), (0, .ref (kA κ 0)), (1, .int x), (3, .int z)]) hx hb dX11_worst_66 hl (Nat.le_of_ble_eq_true rfl) rfl (fun ls hl => ?_)
                refine lv_lload hx hb dX11_worst_68 (lv_at hl 0 rfl) ?_
                refine va_mabs_long hx hb (hml.trans hl.1.symm) hown (ho (.methodLink RX11 244 Lib.MathLoose.abs_long.x) (List.mem_of_getElem? (i := 2) rfl)) (ho (.static Lib.MathLoose.abs_long.x) (List.mem_of_getElem? (i := 3) rfl)) (ho (.initialized "java/lang/Math") (List.mem_of_getElem? (i := 4) rfl)) (ho (.code Lib.MathLoose.abs_long.x Lib.MathLoose.abs_long.code 2 (some .long)) (List.mem_of_getElem? (i := 5) rfl)) (Nat.le_of_ble_eq_true rfl) (Nat.le_of_ble_eq_true rfl) (Nat.le_of_ble_eq_true rfl) (Nat.le_of_ble_eq_true rfl) dX11_worst_70 ?_
                refine lv_topl (fun y21_ ey21_ => ?_)
                refine lv_lload hx hb dX11_worst_73 (lv_at hl 1 rfl) ?_
                refine va_mabs_long hx hb (hml.trans hl.1.symm) hown (ho (.methodLink RX11 244 Lib.MathLoose.abs_long.x) (List.mem_of_getElem? (i := 2) rfl)) (ho (.static Lib.MathLoose.abs_long.x) (List.mem_of_getElem? (i := 3) rfl)) (ho (.initialized "java/lang/Math") (List.mem_of_getElem? (i := 4) rfl)) (ho (.code Lib.MathLoose.abs_long.x Lib.MathLoose.abs_long.code 2 (some .long)) (List.mem_of_getElem? (i := 5) rfl)) (Nat.le_of_ble_eq_true rfl) (Nat.le_of_ble_eq_true rfl) (Nat.le_of_ble_eq_true rfl) (Nat.le_of_ble_eq_true rfl) dX11_worst_75 ?_
                refine lv_topl (fun y22_ ey22_ => ?_)
                refine W.lcmp hx hb dX11_worst_78 ?_
                refine lv_topi (fun z23_ ez23_ => ?_)
                refine lv_if_le (tgt := 90) hx hb dX11_worst_79 rfl (fun c24_ => ?_) (fun c24_ => ?_)
                · have tc24_ := (show z23_.toInt ≤ 0 from ti_le rfl rg_11 c24_)
                  have lc24_ : y21_ ≤ y22_ := (lg_cmp_le y21_ y22_).mp (by rw [← ez23_]; exact c24_)
                  obtain ⟨z25_, ez25_⟩ : ∃ y : Int32, y = v8_ + 1 := ⟨_, rfl⟩
                  have o3 : -2147483648 ≤ v8_.toInt + 1 := by omega
                  have o4 : v8_.toInt + 1 ≤ 2147483647 := by omega
                  have tz25_ := ti_add ez25_ rfl rg_18 o3 o4
                  refine lv_iinc (v := z25_) (lv' := [(8, .int z25_), (9, .long y18_), (4, .long v4_), (6, .int v6_), (7, .int z14_), (0, .ref (kA κ 0)), (1, .int x), (3, .int z)]) hx hb dX11_worst_90 hl (k := 3) rfl (iincp ez25_ rg_6) (Nat.le_of_ble_eq_true rfl) rfl (fun ls hl => ?_)
                  refine lv_goto (tgt := 52) hx hb dX11_worst_93 rfl ?_
                  have o5 : (z14_.toInt - z25_.toInt).toNat < n52_ := by omega
                  have o6 : 0 ≤ z25_.toInt := by omega
                  exact ih52_ τ19_ v4_ v6_ z25_ _ _ _ o5 hτ19_ o6 hP hD hS (lv_sub hl [2, 3, 0, 4, 5, 6, 7] rfl)
                · have tc24_ := (show 0 < z23_.toInt from ti_nle rfl rg_11 c24_)
                  have lc24_ : ¬ y21_ ≤ y22_ := fun h => c24_ (by rw [ez23_]; exact (lg_cmp_le y21_ y22_).mpr h)
                  refine lv_lload hx hb dX11_worst_82 (lv_at hl 0 rfl) ?_
                  refine lv_lstore (lv' := [(4, .long y18_), (9, .long y18_), (6, .int v6_), (8, .int v8_), (7, .int z14_), (0, .ref (kA κ 0)), (1, .int x), (3, .int z)]) hx hb dX11_worst_84 hl (Nat.le_of_ble_eq_true rfl) rfl (fun ls hl => ?_)
                  refine lv_iload hx hb dX11_worst_86 (lv_at hl 3 rfl) ?_
                  refine lv_istore (lv' := [(6, .int v8_), (4, .long y18_), (9, .long y18_), (8, .int v8_), (7, .int z14_), (0, .ref (kA κ 0)), (1, .int x), (3, .int z)]) hx hb dX11_worst_88 hl (Nat.le_of_ble_eq_true rfl) rfl (fun ls hl => ?_)
                  obtain ⟨z26_, ez26_⟩ : ∃ y : Int32, y = v8_ + 1 := ⟨_, rfl⟩
                  have o7 : -2147483648 ≤ v8_.toInt + 1 := by omega
                  have o8 : v8_.toInt + 1 ≤ 2147483647 := by omega
                  have tz26_ := ti_add ez26_ rfl rg_18 o7 o8
                  refine lv_iinc (v := z26_) (lv' := [(8, .int z26_), (6, .int v8_), (4, .long y18_), (9, .long y18_), (7, .int z14_), (0, .ref (kA κ 0)), (1, .int x), (3, .int z)]) hx hb dX11_worst_90 hl (k := 3) rfl (iincp ez26_ rg_6) (Nat.le_of_ble_eq_true rfl) rfl (fun ls hl => ?_)
                  refine lv_goto (tgt := 52) hx hb dX11_worst_93 rfl ?_
                  have o9 : (z14_.toInt - z26_.toInt).toNat < n52_ := by omega
                  have o10 : 0 ≤ z26_.toInt := by omega
                  exact ih52_ τ19_ y18_ v8_ z26_ _ _ _ o9 hτ19_ o10 hP hD hS (lv_sub hl [2, 1, 0, 4, 5, 6, 7] rfl)
          have kk27_ : (0 : Int32).toInt = 0 := rg_11
          have kk28_ : (0 : Int32).toInt = 0 := rg_11
          have o11 : 0 ≤ (0 : Int32).toInt := by omega
          exact pt52_ _ τ8_ 0 0 0 _ _ _ (Nat.lt_succ_self _) hτ8_ o11 hP hD hS (lv_sub hl [3, 2, 0, 1, 4, 5, 7] rfl)
        · have tc10_ := (show z7_.toInt = 0 from ti_eq rfl rg_11 c10_)
          refine lv_ldc2 (v := (-1000000000000)) hx hb hown (ho (.constantLong RX11 221 (-1000000000000)) (List.mem_of_getElem? (i := 1) rfl)) dX11_worst_28 ?_
          rw [hQ]
          exact W.lret (v := (-1000000000000)) hx hb hr (fun t ht hW => ⟨⟨(-1000000000000), τ8_, rfl, ⟨hτ8_, trivial⟩, wEn_of hP (hK.sub [] rfl) hD ht hW⟩, hS.F ht⟩) hS.2.2 dX11_worst_31
def ow_k_led : List Cond := [.fieldLink RX11 26 "NearEnough" "told" "LNearEnough$Program;", .constantLong RX11 221 (-1000000000000), .fieldLink RX11 33 "NearEnough" "sheets" "LNearEnough$Sheets;", .fieldLink RX11 40 "NearEnough" "changes" "LNearEnough$Changes;", .fieldLink RX11 190 "NearEnough$Changes" "count" "I"]
def vs_k_led : List Cond := .code yX11_led cX11_led 8 (some .long) :: (ow_k_led ++ (([.methodLink RX11 227 yX3_hasEnd, .instanceMethod yX3_hasEnd, .selects RX3 yX3_hasEnd yX3_hasEnd, .initialized RX3] : List Cond) ++ (vs_k_hasEnd ++ (([.methodLink RX11 167 yX7_has, .instanceMethod yX7_has, .selects RX7 yX7_has yX7_has, .initialized RX7] : List Cond) ++ (vs_k_has ++ (([.methodLink RX11 202 yX0_take, .instanceMethod yX0_take, .selects RX0 yX0_take yX0_take, .initialized RX0] : List Cond) ++ (vs_k_take ++ (([.methodLink RX11 209 yX11_stands, .instanceMethod yX11_stands, .selects RX11 yX11_stands yX11_stands, .initialized RX11] : List Cond) ++ (vs_k_stands ++ (([.methodLink RX11 241 yX11_errorOn, .instanceMethod yX11_errorOn, .selects RX11 yX11_errorOn yX11_errorOn, .initialized RX11] : List Cond) ++ (vs_k_errorOn ++ (wsX00 ++ (wsX110)))))))))))))
theorem vg_k_led : vs_k_led.all goodWord = true := by decide +kernel
theorem dd_k_led : yX11_led.cls = RX11 ∧ yX11_led.cls ≠ "java/lang/invoke/MethodHandle" ∧ yX11_led.cls ≠ "java/lang/invoke/VarHandle" ∧ (parseMethodDescriptor yX11_led.desc).map (fun d => d.parameters.length) = some 4 := by decide +kernel
def rm_k_led : Room := { frames := 6, cells := 0, slots := 0, locals := 160 }
theorem gd_k_led_227_k_hasEnd : GoodIn vs_k_led (wsV RX11 227 RX3 yX3_hasEnd vs_k_hasEnd) := goodIn_app (goodIn_sub (fun w h => (List.mem_cons_of_mem _ (List.mem_append_right _ (List.mem_append_left _ h)))) (by decide +kernel)) (goodIn_sub (fun w h => (List.mem_cons_of_mem _ (List.mem_append_right _ (List.mem_append_right _ (List.mem_append_left _ h))))) vg_k_hasEnd)
theorem gd_k_led_167_k_has : GoodIn vs_k_led (wsV RX11 167 RX7 yX7_has vs_k_has) := goodIn_app (goodIn_sub (fun w h => (List.mem_cons_of_mem _ (List.mem_append_right _ (List.mem_append_right _ (List.mem_append_right _ (List.mem_append_left _ h)))))) (by decide +kernel)) (goodIn_sub (fun w h => (List.mem_cons_of_mem _ (List.mem_append_right _ (List.mem_append_right _ (List.mem_append_right _ (List.mem_append_right _ (List.mem_append_left _ h))))))) vg_k_has)
theorem gd_k_led_202_k_take : GoodIn vs_k_led (wsV RX11 202 RX0 yX0_take vs_k_take) := goodIn_app (goodIn_sub (fun w h => (List.mem_cons_of_mem _ (List.mem_append_right _ (List.mem_append_right _ (List.mem_append_right _ (List.mem_append_right _ (List.mem_append_right _ (List.mem_append_left _ h)))))))) (by decide +kernel)) (goodIn_sub (fun w h => (List.mem_cons_of_mem _ (List.mem_append_right _ (List.mem_append_right _ (List.mem_append_right _ (List.mem_append_right _ (List.mem_append_right _ (List.mem_append_right _ (List.mem_append_left _ h))))))))) vg_k_take)
theorem gd_k_led_209_k_stands : GoodIn vs_k_led (wsV RX11 209 RX11 yX11_stands vs_k_stands) := goodIn_app (goodIn_sub (fun w h => (List.mem_cons_of_mem _ (List.mem_append_right _ (List.mem_append_right _ (List.mem_append_right _ (List.mem_append_right _ (List.mem_append_right _ (List.mem_append_right _ (List.mem_append_right _ (List.mem_append_left _ h)))))))))) (by decide +kernel)) (goodIn_sub (fun w h => (List.mem_cons_of_mem _ (List.mem_append_right _ (List.mem_append_right _ (List.mem_append_right _ (List.mem_append_right _ (List.mem_append_right _ (List.mem_append_right _ (List.mem_append_right _ (List.mem_append_right _ (List.mem_append_left _ h))))))))))) vg_k_stands)
theorem gd_k_led_241_k_errorOn : GoodIn vs_k_led (wsV RX11 241 RX11 yX11_errorOn vs_k_errorOn) := goodIn_app (goodIn_sub (fun w h => (List.mem_cons_of_mem _ (List.mem_append_right _ (List.mem_append_right _ (List.mem_append_right _ (List.mem_append_right _ (List.mem_append_right _ (List.mem_append_right _ (List.mem_append_right _ (List.mem_append_right _ (List.mem_append_right _ (List.mem_append_left _ h)))))))))))) (by decide +kernel)) (goodIn_sub (fun w h => (List.mem_cons_of_mem _ (List.mem_append_right _ (List.mem_append_right _ (List.mem_append_right _ (List.mem_append_right _ (List.mem_append_right _ (List.mem_append_right _ (List.mem_append_right _ (List.mem_append_right _ (List.mem_append_right _ (List.mem_append_right _ (List.mem_append_left _ h))))))))))))) vg_k_errorOn)
set_option maxHeartbeats 4000000 in
set_option maxRecDepth 100000 in
theorem k_led (l : Launch) (dC : Nat → ClassId) (dI : Nat → Nat → Nat) (κ : CE) (sz : Nat) (σ : MS) (x : Int32) (y : Int32) (z : Int32) (v : Int32) (hk : PInv κ) (hI : CInv σ)  : Met l yX11_led vs_k_led rm_k_led (va_Pc [.ref (kA κ 0), .int x, .int y, .int z, .int v] (wSy dC dI (cW κ σ) (cT κ) sz)) (va_Ql (fun (r : Int64) (τ : MS) => CInv τ ∧ True) (fun (τ : MS) => wEn dC dI (va_A (cW κ σ) sz) (cW κ τ) []) (va_A (cW κ σ) sz)) 0 0 (va_A (cW κ σ) sz) := by
  refine Met.ofW (cc := cX11_led) (maxL := 8) (ret := (some .long)) (by decide +kernel) rfl ?_
  intro p e s m args below meth c s₁ B hml hv
  obtain ⟨rfl, hsz, hP, hK, hD0, hE⟩ := hv
  have hx := B.exec
  have hb := B.bytes
  have hr := B.returns
  have hts := atoms_spec (ws := vs_k_led) B.pre
  have hown : s.vm.findClass RX11 = some m.cls := findClass_of_methodNamed B.named
  have hlocks := B.notSynchronized
  subst hsz
  have hD := hD0.self (sz := s.heap.size)
  generalize hAe : va_A (cW κ σ) s.heap.size = A at hD ⊢
  have hA : ∀ q : Nat, s.heap.size ≤ q → A q := fun q h => by rw [← hAe]; exact Or.inr h
  have hl := lv_entry ([.ref (kA κ 0), .int x, .int y, .int z, .int v]) (n := 8) (Nat.le_of_ble_eq_true rfl)
  rw [lg_entry_eq]
  generalize (lg_sl ([.ref (kA κ 0), .int x, .int y, .int z, .int v]) ++ List.replicate (8 - (lg_sl ([.ref (kA κ 0), .int x, .int y, .int z, .int v])).length) Slot.unset).toArray = ls at hl ⊢
  have hl : lv_has ls 8 [(0, .ref (kA κ 0)), (1, .int x), (2, .int y), (3, .int z), (4, .int v)] := hl
  have ho := fun w (h : w ∈ ow_k_led) => hts w (List.mem_cons_of_mem _ (List.mem_append_left _ h))
  have hin0 : ∀ w ∈ u_ws RX0 TX0 7, w ∈ vs_k_led := fun w h => (List.mem_cons_of_mem _ (List.mem_append_right _ (List.mem_append_right _ (List.mem_append_right _ (List.mem_append_right _ (List.mem_append_right _ (List.mem_append_right _ (List.mem_append_right _ (List.mem_append_right _ (List.mem_append_right _ (List.mem_append_right _ (List.mem_append_right _ (List.mem_append_left _ h)))))))))))))
  have hin11 : ∀ w ∈ u_ws RX11 TX11 17, w ∈ vs_k_led := fun w h => (List.mem_cons_of_mem _ (List.mem_append_right _ (List.mem_append_right _ (List.mem_append_right _ (List.mem_append_right _ (List.mem_append_right _ (List.mem_append_right _ (List.mem_append_right _ (List.mem_append_right _ (List.mem_append_right _ (List.mem_append_right _ (List.mem_append_right _ (List.mem_append_right _ h)))))))))))))
  refine zQ (fun Q hQ => ?_)
  refine zH (A := A) (ws := (cW κ σ)) (fun H hP hS => ?_) hP
  have hk0 := hk.1
  have hk1 := hk.2.1
  have hk2 := hk.2.2.1
  refine lv_aload_n hx hb dX11_led_0 rfl (lv_at hl 0 rfl) ?_
  refine va_get (D := (dC, dI)) (ci := 11) (v := .ref (kA κ 6)) (C := RX11) (T := TX11) (N := 17) hx hb hts hin11 hown hK hP 0 rfl rfl 4 (Nat.le_of_ble_eq_true rfl) (ho (.fieldLink RX11 26 "NearEnough" "told" "LNearEnough$Program;") (List.mem_of_getElem? (i := 0) rfl)) (fun _ h9 => h9) rfl dX11_led_1 ?_
  refine lv_iload_n hx hb dX11_led_4 rfl (lv_at hl 1 rfl) ?_
  refine zy_i (va_runV (As := [.int x]) (rest := []) ⟨hx, hb, hml, hown, hts⟩ (k_hasEnd l dC dI κ H.size σ x hk hI ) (cwV 1 hts gd_k_led_227_k_hasEnd rfl rfl rfl dd_k_hasEnd ⟨Nat.le_of_ble_eq_true rfl, Nat.le_of_ble_eq_true rfl⟩) (preVy hP hK hD hE (ci := 3) (q0 := 6) rfl rfl) rfl rfl hl.1 rfl (lv_room (Nat.le_of_ble_eq_true rfl)) dX11_led_5 ⟨Nat.le_of_ble_eq_true rfl, Nat.le_of_ble_eq_true rfl⟩) hD hS hA (fun z1_ τ2_ H locs hq hP hD hS => ?_)
  obtain ⟨hτ2_, q3_⟩ := hq
  rw [hτ2_] at hP hD
  have q3_ : (z1_.toInt = 1 ∧ 0 ≤ x.toInt ∧ x.toInt < (pI κ 2).toInt) ∨ z1_.toInt = 0 := q3_
  refine W.widen (k := 0) (n := 0) (Nat.le_of_ble_eq_true rfl) (Nat.le_of_ble_eq_true rfl) ?_
  refine lv_if_eq (tgt := 33) hx hb dX11_led_8 rfl (fun c4_ => ?_) (fun c4_ => ?_)
  · have tc4_ := (show z1_.toInt = 0 from ti_eq rfl rg_11 c4_)
    refine lv_ldc2 (v := (-1000000000000)) hx hb hown (ho (.constantLong RX11 221 (-1000000000000)) (List.mem_of_getElem? (i := 1) rfl)) dX11_led_33 ?_
    rw [hQ]
    exact W.lret (v := (-1000000000000)) hx hb hr (fun t ht hW => ⟨⟨(-1000000000000), σ, rfl, ⟨hI, trivial⟩, wEn_of hP (hK.sub [] rfl) hD ht hW⟩, hS.F ht⟩) hS.2.2 dX11_led_36
  · have tc4_ := (show z1_.toInt ≠ 0 from ti_ne rfl rg_11 c4_)
    refine lv_aload_n hx hb dX11_led_11 rfl (lv_at hl 0 rfl) ?_
    refine va_get (D := (dC, dI)) (ci := 11) (v := .ref (kA κ 12)) (C := RX11) (T := TX11) (N := 17) hx hb hts hin11 hown hK hP 0 rfl rfl 5 (Nat.le_of_ble_eq_true rfl) (ho (.fieldLink RX11 33 "NearEnough" "sheets" "LNearEnough$Sheets;") (List.mem_of_getElem? (i := 2) rfl)) (fun _ h9 => h9) rfl dX11_led_12 ?_
    refine lv_iload_n hx hb dX11_led_15 rfl (lv_at hl 2 rfl) ?_
    refine zy_i (va_runV (As := [.int y]) (rest := []) ⟨hx, hb, hml, hown, hts⟩ (k_has l dC dI κ H.size σ y hk hI ) (cwV 1 hts gd_k_led_167_k_has rfl rfl rfl dd_k_has ⟨Nat.le_of_ble_eq_true rfl, Nat.le_of_ble_eq_true rfl⟩) (preVy hP hK hD hE (ci := 7) (q0 := 12) rfl rfl) rfl rfl hl.1 rfl (lv_room (Nat.le_of_ble_eq_true rfl)) dX11_led_16 ⟨Nat.le_of_ble_eq_true rfl, Nat.le_of_ble_eq_true rfl⟩) hD hS hA (fun z5_ τ6_ H locs hq hP hD hS => ?_)
    obtain ⟨hτ6_, q7_⟩ := hq
    rw [hτ6_] at hP hD
    have q7_ : (z5_.toInt = 1 ∧ 0 ≤ y.toInt ∧ y.toInt < 40) ∨ z5_.toInt = 0 := q7_
    refine W.widen (k := 0) (n := 0) (Nat.le_of_ble_eq_true rfl) (Nat.le_of_ble_eq_true rfl) ?_
    refine lv_if_eq (tgt := 33) hx hb dX11_led_19 rfl (fun c8_ => ?_) (fun c8_ => ?_)
    · have tc8_ := (show z5_.toInt = 0 from ti_eq rfl rg_11 c8_)
      refine lv_ldc2 (v := (-1000000000000)) hx hb hown (ho (.constantLong RX11 221 (-1000000000000)) (List.mem_of_getElem? (i := 1) rfl)) dX11_led_33 ?_
      rw [hQ]
      exact W.lret (v := (-1000000000000)) hx hb hr (fun t ht hW => ⟨⟨(-1000000000000), σ, rfl, ⟨hI, trivial⟩, wEn_of hP (hK.sub [] rfl) hD ht hW⟩, hS.F ht⟩) hS.2.2 dX11_led_36
    · have tc8_ := (show z5_.toInt ≠ 0 from ti_ne rfl rg_11 c8_)
      refine lv_aload_n hx hb dX11_led_22 rfl (lv_at hl 0 rfl) ?_
      refine va_get (D := (dC, dI)) (ci := 11) (v := .ref (kA κ 15)) (C := RX11) (T := TX11) (N := 17) hx hb hts hin11 hown hK hP 0 rfl rfl 6 (Nat.le_of_ble_eq_true rfl) (ho (.fieldLink RX11 40 "NearEnough" "changes" "LNearEnough$Changes;") (List.mem_of_getElem? (i := 3) rfl)) (fun _ h9 => h9) rfl dX11_led_23 ?_
      refine lv_iload_n hx hb dX11_led_26 rfl (lv_at hl 3 rfl) ?_
      refine zy_i (va_runV (As := [.int z]) (rest := []) ⟨hx, hb, hml, hown, hts⟩ (k_take l dC dI κ H.size σ z hk hI ) (cwV 1 hts gd_k_led_202_k_take rfl rfl rfl dd_k_take ⟨Nat.le_of_ble_eq_true rfl, Nat.le_of_ble_eq_true rfl⟩) (preVy hP hK hD hE (ci := 0) (q0 := 15) rfl rfl) rfl rfl hl.1 rfl (lv_room (Nat.le_of_ble_eq_true rfl)) dX11_led_27 ⟨Nat.le_of_ble_eq_true rfl, Nat.le_of_ble_eq_true rfl⟩) hD hS hA (fun z9_ τ10_ H locs hq hP hD hS => ?_)
      obtain ⟨hτ10_, q11_⟩ := hq
      have q11_ : z9_.toInt = 0 ∨ z9_.toInt = 1 := q11_
      refine W.widen (k := 0) (n := 0) (Nat.le_of_ble_eq_true rfl) (Nat.le_of_ble_eq_true rfl) ?_
      refine lv_if_ne (tgt := 37) hx hb dX11_led_30 rfl (fun c12_ => ?_) (fun c12_ => ?_)
      · have tc12_ := (show z9_.toInt ≠ 0 from ti_ne rfl rg_11 c12_)
        refine lv_iload hx hb dX11_led_37 (lv_at hl 4 rfl) ?_
        refine lv_if_lt (tgt := 63) hx hb dX11_led_39 rfl (fun c13_ => ?_) (fun c13_ => ?_)
        · have tc13_ := (show v.toInt < 0 from ti_lt rfl rg_11 c13_)
          refine lv_ldc2 (v := (-1000000000000)) hx hb hown (ho (.constantLong RX11 221 (-1000000000000)) (List.mem_of_getElem? (i := 1) rfl)) dX11_led_63 ?_
          rw [hQ]
          exact W.lret (v := (-1000000000000)) hx hb hr (fun t ht hW => ⟨⟨(-1000000000000), τ10_, rfl, ⟨hτ10_, trivial⟩, wEn_of hP (hK.sub [] rfl) hD ht hW⟩, hS.F ht⟩) hS.2.2 dX11_led_66
        · have tc13_ := (show 0 ≤ v.toInt from ti_nlt rfl rg_11 c13_)
          refine lv_iload hx hb dX11_led_42 (lv_at hl 4 rfl) ?_
          refine lv_aload_n hx hb dX11_led_44 rfl (lv_at hl 0 rfl) ?_
          refine va_get (D := (dC, dI)) (ci := 11) (v := .ref (kA κ 15)) (C := RX11) (T := TX11) (N := 17) hx hb hts hin11 hown hK hP 0 rfl rfl 6 (Nat.le_of_ble_eq_true rfl) (ho (.fieldLink RX11 40 "NearEnough" "changes" "LNearEnough$Changes;") (List.mem_of_getElem? (i := 3) rfl)) (fun _ h9 => h9) rfl dX11_led_45 ?_
          have bτ10__18 : 0 ≤ (τ10_.1 18).toInt ∧ (τ10_.1 18).toInt ≤ 12 := hτ10_.1 18
          refine va_get (D := (dC, dI)) (ci := 0) (v := .int (τ10_.1 18)) (C := RX0) (T := TX0) (N := 7) hx hb hts hin0 hown hK hP 15 rfl rfl 5 (Nat.le_of_ble_eq_true rfl) (ho (.fieldLink RX11 190 "NearEnough$Changes" "count" "I") (List.mem_of_getElem? (i := 4) rfl)) (fun _ h9 => h9) rfl dX11_led_48 ?_
          refine lv_icmp_ge (tgt := 63) hx hb dX11_led_51 rfl (fun c14_ => ?_) (fun c14_ => ?_)
          · have tc14_ := (show (τ10_.1 18).toInt ≤ v.toInt from ti_le rfl rfl c14_)
            refine lv_ldc2 (v := (-1000000000000)) hx hb hown (ho (.constantLong RX11 221 (-1000000000000)) (List.mem_of_getElem? (i := 1) rfl)) dX11_led_63 ?_
            rw [hQ]
            exact W.lret (v := (-1000000000000)) hx hb hr (fun t ht hW => ⟨⟨(-1000000000000), τ10_, rfl, ⟨hτ10_, trivial⟩, wEn_of hP (hK.sub [] rfl) hD ht hW⟩, hS.F ht⟩) hS.2.2 dX11_led_66
          · have tc14_ := (show v.toInt < (τ10_.1 18).toInt from ti_nle rfl rfl c14_)
            refine lv_iload_n hx hb dX11_led_54 rfl (lv_at hl 3 rfl) ?_
            refine lv_iload hx hb dX11_led_55 (lv_at hl 4 rfl) ?_
            refine lv_ishr hx hb dX11_led_57 ?_
            refine lv_topi (fun z15_ ez15_ => ?_)
            refine lv_iconst (v := 1) hx hb dX11_led_58 rg_6 ?_
            refine lv_iand hx hb dX11_led_59 ?_
            refine lv_topi (fun z16_ ez16_ => ?_)
            refine lv_if_ne (tgt := 67) hx hb dX11_led_60 rfl (fun c17_ => ?_) (fun c17_ => ?_)
            · have tc17_ := (show z16_.toInt ≠ 0 from ti_ne rfl rg_11 c17_)
              refine lv_iload_n hx hb dX11_led_67 rfl (lv_at hl 3 rfl) ?_
              refine lv_iconst (v := 1) hx hb dX11_led_68 rg_6 ?_
              refine lv_iload hx hb dX11_led_69 (lv_at hl 4 rfl) ?_
              refine lv_ishl hx hb dX11_led_71 ?_
              refine lv_topi (fun z18_ ez18_ => ?_)
              refine lv_iconst (v := 1) hx hb dX11_led_72 rg_6 ?_
              refine lv_isub hx hb dX11_led_73 ?_
              refine lv_topi (fun z19_ ez19_ => ?_)
              refine lv_iand hx hb dX11_led_74 ?_
              refine lv_topi (fun z20_ ez20_ => ?_)
              refine lv_istore (lv' := [(5, .int z20_), (0, .ref (kA κ 0)), (1, .int x), (2, .int y), (3, .int z), (4, .int v)]) hx hb dX11_led_75 hl (Nat.le_of_ble_eq_true rfl) rfl (fun ls hl => ?_)
              refine lv_aload_n hx hb dX11_led_77 rfl (lv_at hl 1 rfl) ?_
              refine lv_iload hx hb dX11_led_78 (lv_at hl 0 rfl) ?_
              refine zy_i (va_runV (As := [.int z20_]) (rest := []) ⟨hx, hb, hml, hown, hts⟩ (k_stands l dC dI κ H.size τ10_ z20_ hk hτ10_ ) (cwV 1 hts gd_k_led_209_k_stands rfl rfl rfl dd_k_stands ⟨Nat.le_of_ble_eq_true rfl, Nat.le_of_ble_eq_true rfl⟩) (preVy hP hK hD hE (ci := 11) (q0 := 0) rfl rfl) rfl rfl hl.1 rfl (lv_room (Nat.le_of_ble_eq_true rfl)) dX11_led_80 ⟨Nat.le_of_ble_eq_true rfl, Nat.le_of_ble_eq_true rfl⟩) hD hS hA (fun z21_ τ22_ H locs hq hP hD hS => ?_)
              obtain ⟨hτ22_, q23_⟩ := hq
              have q23_ : z21_.toInt = 0 ∨ z21_.toInt = 1 := q23_
              refine W.widen (k := 0) (n := 0) (Nat.le_of_ble_eq_true rfl) (Nat.le_of_ble_eq_true rfl) ?_
              refine lv_if_ne (tgt := 90) hx hb dX11_led_83 rfl (fun c24_ => ?_) (fun c24_ => ?_)
              · have tc24_ := (show z21_.toInt ≠ 0 from ti_ne rfl rg_11 c24_)
                refine lv_aload_n hx hb dX11_led_90 rfl (lv_at hl 1 rfl) ?_
                refine lv_iload_n hx hb dX11_led_91 rfl (lv_at hl 2 rfl) ?_
                refine lv_iload_n hx hb dX11_led_92 rfl (lv_at hl 3 rfl) ?_
                have o1 : 0 ≤ x.toInt := by omega
                have o2 : x.toInt < (pI κ 2).toInt := by omega
                have o3 : 0 ≤ y.toInt := by omega
                have o4 : y.toInt ≤ 40 := by omega
                refine zy_l (va_runV (As := [.int x, .int y]) (rest := []) ⟨hx, hb, hml, hown, hts⟩ (k_errorOn l dC dI κ H.size τ22_ x y hk hτ22_ ⟨o1, o2⟩ ⟨o3, o4⟩) (cwV 2 hts gd_k_led_241_k_errorOn rfl rfl rfl dd_k_errorOn ⟨Nat.le_of_ble_eq_true rfl, Nat.le_of_ble_eq_true rfl⟩) (preVy hP hK hD hE (ci := 11) (q0 := 0) rfl rfl) rfl rfl hl.1 rfl (lv_room (Nat.le_of_ble_eq_true rfl)) dX11_led_93 ⟨Nat.le_of_ble_eq_true rfl, Nat.le_of_ble_eq_true rfl⟩) hD hS hA (fun y25_ τ26_ H locs hq hP hD hS => ?_)
                obtain ⟨hτ26_, q27_⟩ := hq
                refine W.widen (k := 0) (n := 0) (Nat.le_of_ble_eq_true rfl) (Nat.le_of_ble_eq_true rfl) ?_
                refine lv_lstore (lv' := [(6, .long y25_), (5, .int z20_), (0, .ref (kA κ 0)), (1, .int x), (2, .int y), (3, .int z), (4, .int v)]) hx hb dX11_led_96 hl (Nat.le_of_ble_eq_true rfl) rfl (fun ls hl => ?_)
                refine lv_aload_n hx hb dX11_led_98 rfl (lv_at hl 2 rfl) ?_
                refine lv_iload hx hb dX11_led_99 (lv_at hl 1 rfl) ?_
                refine lv_iconst (v := 1) hx hb dX11_led_101 rg_6 ?_
                refine lv_iload hx hb dX11_led_102 (lv_at hl 6 rfl) ?_
                refine lv_ishl hx hb dX11_led_104 ?_
                refine lv_topi (fun z28_ ez28_ => ?_)
                refine lv_ior hx hb dX11_led_105 ?_
                refine lv_topi (fun z29_ ez29_ => ?_)
                refine zy_i (va_runV (As := [.int z29_]) (rest := []) ⟨hx, hb, hml, hown, hts⟩ (k_stands l dC dI κ H.size τ26_ z29_ hk hτ26_ ) (cwV 1 hts gd_k_led_209_k_stands rfl rfl rfl dd_k_stands ⟨Nat.le_of_ble_eq_true rfl, Nat.le_of_ble_eq_true rfl⟩) (preVy hP hK hD hE (ci := 11) (q0 := 0) rfl rfl) rfl rfl hl.1 rfl (lv_room (Nat.le_of_ble_eq_true rfl)) dX11_led_106 ⟨Nat.le_of_ble_eq_true rfl, Nat.le_of_ble_eq_true rfl⟩) hD hS hA (fun z30_ τ31_ H locs hq hP hD hS => ?_)
                obtain ⟨hτ31_, q32_⟩ := hq
                have q32_ : z30_.toInt = 0 ∨ z30_.toInt = 1 := q32_
                refine W.widen (k := 0) (n := 0) (Nat.le_of_ble_eq_true rfl) (Nat.le_of_ble_eq_true rfl) ?_
                refine lv_if_eq (tgt := 124) hx hb dX11_led_109 rfl (fun c33_ => ?_) (fun c33_ => ?_)
                · have tc33_ := (show z30_.toInt = 0 from ti_eq rfl rg_11 c33_)
                  refine lv_ldc2 (v := (-1000000000000)) hx hb hown (ho (.constantLong RX11 221 (-1000000000000)) (List.mem_of_getElem? (i := 1) rfl)) dX11_led_124 ?_
                  rw [hQ]
                  exact W.lret (v := (-1000000000000)) hx hb hr (fun t ht hW => ⟨⟨(-1000000000000), τ31_, rfl, ⟨hτ31_, trivial⟩, wEn_of hP (hK.sub [] rfl) hD ht hW⟩, hS.F ht⟩) hS.2.2 dX11_led_127
                · have tc33_ := (show z30_.toInt ≠ 0 from ti_ne rfl rg_11 c33_)
                  refine lv_aload_n hx hb dX11_led_112 rfl (lv_at hl 2 rfl) ?_
                  refine lv_iload_n hx hb dX11_led_113 rfl (lv_at hl 3 rfl) ?_
                  refine lv_iload_n hx hb dX11_led_114 rfl (lv_at hl 4 rfl) ?_
                  refine zy_l (va_runV (As := [.int x, .int y]) (rest := []) ⟨hx, hb, hml, hown, hts⟩ (k_errorOn l dC dI κ H.size τ31_ x y hk hτ31_ ⟨o1, o2⟩ ⟨o3, o4⟩) (cwV 2 hts gd_k_led_241_k_errorOn rfl rfl rfl dd_k_errorOn ⟨Nat.le_of_ble_eq_true rfl, Nat.le_of_ble_eq_true rfl⟩) (preVy hP hK hD hE (ci := 11) (q0 := 0) rfl rfl) rfl rfl hl.1 rfl (lv_room (Nat.le_of_ble_eq_true rfl)) dX11_led_115 ⟨Nat.le_of_ble_eq_true rfl, Nat.le_of_ble_eq_true rfl⟩) hD hS hA (fun y34_ τ35_ H locs hq hP hD hS => ?_)
                  obtain ⟨hτ35_, q36_⟩ := hq
                  refine W.widen (k := 0) (n := 0) (Nat.le_of_ble_eq_true rfl) (Nat.le_of_ble_eq_true rfl) ?_
                  refine lv_lload hx hb dX11_led_118 (lv_at hl 0 rfl) ?_
                  refine lv_lsub hx hb dX11_led_120 ?_
                  refine lv_topl (fun y37_ ey37_ => ?_)
                  refine lv_goto (tgt := 127) hx hb dX11_led_121 rfl ?_
                  rw [hQ]
                  exact W.lret (v := y37_) hx hb hr (fun t ht hW => ⟨⟨y37_, τ35_, rfl, ⟨hτ35_, trivial⟩, wEn_of hP (hK.sub [] rfl) hD ht hW⟩, hS.F ht⟩) hS.2.2 dX11_led_127
              · have tc24_ := (show z21_.toInt = 0 from ti_eq rfl rg_11 c24_)
                refine lv_ldc2 (v := (-1000000000000)) hx hb hown (ho (.constantLong RX11 221 (-1000000000000)) (List.mem_of_getElem? (i := 1) rfl)) dX11_led_86 ?_
                rw [hQ]
                exact W.lret (v := (-1000000000000)) hx hb hr (fun t ht hW => ⟨⟨(-1000000000000), τ22_, rfl, ⟨hτ22_, trivial⟩, wEn_of hP (hK.sub [] rfl) hD ht hW⟩, hS.F ht⟩) hS.2.2 dX11_led_89
            · have tc17_ := (show z16_.toInt = 0 from ti_eq rfl rg_11 c17_)
              refine lv_ldc2 (v := (-1000000000000)) hx hb hown (ho (.constantLong RX11 221 (-1000000000000)) (List.mem_of_getElem? (i := 1) rfl)) dX11_led_63 ?_
              rw [hQ]
              exact W.lret (v := (-1000000000000)) hx hb hr (fun t ht hW => ⟨⟨(-1000000000000), τ10_, rfl, ⟨hτ10_, trivial⟩, wEn_of hP (hK.sub [] rfl) hD ht hW⟩, hS.F ht⟩) hS.2.2 dX11_led_66
      · have tc12_ := (show z9_.toInt = 0 from ti_eq rfl rg_11 c12_)
        refine lv_ldc2 (v := (-1000000000000)) hx hb hown (ho (.constantLong RX11 221 (-1000000000000)) (List.mem_of_getElem? (i := 1) rfl)) dX11_led_33 ?_
        rw [hQ]
        exact W.lret (v := (-1000000000000)) hx hb hr (fun t ht hW => ⟨⟨(-1000000000000), τ10_, rfl, ⟨hτ10_, trivial⟩, wEn_of hP (hK.sub [] rfl) hD ht hW⟩, hS.F ht⟩) hS.2.2 dX11_led_36
def ow_k_purse : List Cond := [.constant RX11 353 (99999), .fieldLink RX11 75 "NearEnough" "left" "I"]
def vs_k_purse : List Cond := .code yX11_purse cX11_purse 2 (some .boolean) :: (ow_k_purse ++ (wsX110))
theorem vg_k_purse : vs_k_purse.all goodWord = true := by decide +kernel
theorem dd_k_purse : yX11_purse.cls = RX11 ∧ yX11_purse.cls ≠ "java/lang/invoke/MethodHandle" ∧ yX11_purse.cls ≠ "java/lang/invoke/VarHandle" ∧ (parseMethodDescriptor yX11_purse.desc).map (fun d => d.parameters.length) = some 1 := by decide +kernel
def rm_k_purse : Room := { frames := 0, cells := 0, slots := 0, locals := 0 }
set_option maxHeartbeats 4000000 in
set_option maxRecDepth 100000 in
theorem k_purse (l : Launch) (dC : Nat → ClassId) (dI : Nat → Nat → Nat) (κ : CE) (sz : Nat) (σ : MS) (x : Int32) (hk : PInv κ) (hI : CInv σ)  : Met l yX11_purse vs_k_purse rm_k_purse (va_Pc [.ref (kA κ 0), .int x] (wSy dC dI (cW κ σ) (cT κ) sz)) (va_Qi (fun (r : Int32) (τ : MS) => CInv τ ∧ ((r.toInt = 1 ∧ 0 ≤ x.toInt ∧ x.toInt ≤ 99999) ∨ (r.toInt = 0 ∧ (x.toInt < 0 ∨ 99999 < x.toInt)))) (fun (τ : MS) => wEn dC dI (va_A (cW κ σ) sz) (cW κ τ) []) (va_A (cW κ σ) sz)) 0 0 (va_A (cW κ σ) sz) := by
  refine Met.ofW (cc := cX11_purse) (maxL := 2) (ret := (some .boolean)) (by decide +kernel) rfl ?_
  intro p e s m args below meth c s₁ B hml hv
  obtain ⟨rfl, hsz, hP, hK, hD0, hE⟩ := hv
  have hx := B.exec
  have hb := B.bytes
  have hr := B.returns
  have hts := atoms_spec (ws := vs_k_purse) B.pre
  have hown : s.vm.findClass RX11 = some m.cls := findClass_of_methodNamed B.named
  have hlocks := B.notSynchronized
  subst hsz
  have hD := hD0.self (sz := s.heap.size)
  generalize hAe : va_A (cW κ σ) s.heap.size = A at hD ⊢
  have hA : ∀ q : Nat, s.heap.size ≤ q → A q := fun q h => by rw [← hAe]; exact Or.inr h
  have hl := lv_entry ([.ref (kA κ 0), .int x]) (n := 2) (Nat.le_of_ble_eq_true rfl)
  rw [lg_entry_eq]
  generalize (lg_sl ([.ref (kA κ 0), .int x]) ++ List.replicate (2 - (lg_sl ([.ref (kA κ 0), .int x])).length) Slot.unset).toArray = ls at hl ⊢
  have hl : lv_has ls 2 [(0, .ref (kA κ 0)), (1, .int x)] := hl
  have ho := fun w (h : w ∈ ow_k_purse) => hts w (List.mem_cons_of_mem _ (List.mem_append_left _ h))
  have hin11 : ∀ w ∈ u_ws RX11 TX11 17, w ∈ vs_k_purse := fun w h => (List.mem_cons_of_mem _ (List.mem_append_right _ h))
  refine zQ (fun Q hQ => ?_)
  refine zH (A := A) (ws := (cW κ σ)) (fun H hP hS => ?_) hP
  have hk0 := hk.1
  have hk1 := hk.2.1
  have hk2 := hk.2.2.1
  refine lv_iload_n hx hb dX11_purse_0 rfl (lv_at hl 1 rfl) ?_
  refine lv_if_lt (tgt := 11) hx hb dX11_purse_1 rfl (fun c1_ => ?_) (fun c1_ => ?_)
  · have tc1_ := (show x.toInt < 0 from ti_lt rfl rg_11 c1_)
    refine lv_iconst (v := 0) hx hb dX11_purse_11 rg_0 ?_
    have kk2_ : (0 : Int32).toInt = 0 := rg_11
    have o1 : ((0 : Int32).toInt = 1 ∧ 0 ≤ x.toInt ∧ x.toInt ≤ 99999) ∨ ((0 : Int32).toInt = 0 ∧ (x.toInt < 0 ∨ 99999 < x.toInt)) := by omega
    rw [hQ]
    exact W.zret (v := 0) hx hb hr rfl (fun t ht hW => ⟨⟨0, σ, rfl, ⟨hI, o1⟩, wEn_of hP (hK.sub [] rfl) hD ht hW⟩, hS.F ht⟩) hS.2.2 dX11_purse_12
  · have tc1_ := (show 0 ≤ x.toInt from ti_nlt rfl rg_11 c1_)
    refine lv_iload_n hx hb dX11_purse_4 rfl (lv_at hl 1 rfl) ?_
    refine lv_ldcw (v := (99999)) hx hb hown (ho (.constant RX11 353 (99999)) (List.mem_of_getElem? (i := 0) rfl)) dX11_purse_5 ?_
    refine lv_icmp_le (tgt := 13) hx hb dX11_purse_8 rfl (fun c3_ => ?_) (fun c3_ => ?_)
    · have tc3_ := (show x.toInt ≤ 99999 from ti_le rfl rg_624 c3_)
      refine lv_aload_n hx hb dX11_purse_13 rfl (lv_at hl 0 rfl) ?_
      refine lv_iload_n hx hb dX11_purse_14 rfl (lv_at hl 1 rfl) ?_
      refine va_put (D := (dC, dI)) (ci := 11) (v := .int x) (ty := tyX11 13) (C := RX11) (T := TX11) (N := 17) hx hb hts hin11 tyX11 tyX11_ok nmX11 hown hK hP hD hS 0 rfl rfl 13 (Nat.le_of_ble_eq_true rfl) (ho (.fieldLink RX11 75 "NearEnough" "left" "I") (List.mem_of_getElem? (i := 1) rfl)) (fun _ h9 => h9) rfl (tyX11_ok 13 (Nat.le_of_ble_eq_true rfl)) rfl rfl (Nat.le_of_ble_eq_true rfl) dX11_purse_15 (fun H locs hP hD hS => ?_)
      have hP : va_P (dC, dI) vwCl (cW κ (sI σ 8 x)) H := hP
      have hD : va_D A (cW κ (sI σ 8 x)) := hD
      refine lv_iconst (v := 1) hx hb dX11_purse_18 rg_6 ?_
      have kk4_ : (1 : Int32).toInt = 1 := rg_18
      have o2 : ((1 : Int32).toInt = 1 ∧ 0 ≤ x.toInt ∧ x.toInt ≤ 99999) ∨ ((1 : Int32).toInt = 0 ∧ (x.toInt < 0 ∨ 99999 < x.toInt)) := by omega
      rw [hQ]
      exact W.zret (v := 1) hx hb hr rfl (fun t ht hW => ⟨⟨1, (sI σ 8 x), rfl, ⟨(CInv.sI (k := 8) (v := x) hI (Inv.any x)), o2⟩, wEn_of hP (hK.sub [] rfl) hD ht hW⟩, hS.F ht⟩) hS.2.2 dX11_purse_19
    · have tc3_ := (show 99999 < x.toInt from ti_nle rfl rg_624 c3_)
      refine lv_iconst (v := 0) hx hb dX11_purse_11 rg_0 ?_
      have kk5_ : (0 : Int32).toInt = 0 := rg_11
      have o3 : ((0 : Int32).toInt = 1 ∧ 0 ≤ x.toInt ∧ x.toInt ≤ 99999) ∨ ((0 : Int32).toInt = 0 ∧ (x.toInt < 0 ∨ 99999 < x.toInt)) := by omega
      rw [hQ]
      exact W.zret (v := 0) hx hb hr rfl (fun t ht hW => ⟨⟨0, σ, rfl, ⟨hI, o3⟩, wEn_of hP (hK.sub [] rfl) hD ht hW⟩, hS.F ht⟩) hS.2.2 dX11_purse_12
def ow_k_day : List Cond := [.fieldLink RX11 26 "NearEnough" "told" "LNearEnough$Program;", .fieldLink RX11 33 "NearEnough" "sheets" "LNearEnough$Sheets;", .methodLink RX11 244 Lib.MathLoose.abs_long.x, .static Lib.MathLoose.abs_long.x, .initialized "java/lang/Math", .code Lib.MathLoose.abs_long.x Lib.MathLoose.abs_long.code 2 (some .long), .fieldLink RX11 75 "NearEnough" "left" "I"]
def vs_k_day : List Cond := .code yX11_day cX11_day 6 (some .int) :: (ow_k_day ++ (([.methodLink RX11 227 yX3_hasEnd, .instanceMethod yX3_hasEnd, .selects RX3 yX3_hasEnd yX3_hasEnd, .initialized RX3] : List Cond) ++ (vs_k_hasEnd ++ (([.methodLink RX11 167 yX7_has, .instanceMethod yX7_has, .selects RX7 yX7_has yX7_has, .initialized RX7] : List Cond) ++ (vs_k_has ++ (([.methodLink RX11 209 yX11_stands, .instanceMethod yX11_stands, .selects RX11 yX11_stands yX11_stands, .initialized RX11] : List Cond) ++ (vs_k_stands ++ (([.methodLink RX11 241 yX11_errorOn, .instanceMethod yX11_errorOn, .selects RX11 yX11_errorOn yX11_errorOn, .initialized RX11] : List Cond) ++ (vs_k_errorOn ++ (wsX110))))))))))
theorem vg_k_day : vs_k_day.all goodWord = true := by decide +kernel
theorem dd_k_day : yX11_day.cls = RX11 ∧ yX11_day.cls ≠ "java/lang/invoke/MethodHandle" ∧ yX11_day.cls ≠ "java/lang/invoke/VarHandle" ∧ (parseMethodDescriptor yX11_day.desc).map (fun d => d.parameters.length) = some 3 := by decide +kernel
def rm_k_day : Room := { frames := 6, cells := 0, slots := 0, locals := 160 }
theorem gd_k_day_227_k_hasEnd : GoodIn vs_k_day (wsV RX11 227 RX3 yX3_hasEnd vs_k_hasEnd) := goodIn_app (goodIn_sub (fun w h => (List.mem_cons_of_mem _ (List.mem_append_right _ (List.mem_append_left _ h)))) (by decide +kernel)) (goodIn_sub (fun w h => (List.mem_cons_of_mem _ (List.mem_append_right _ (List.mem_append_right _ (List.mem_append_left _ h))))) vg_k_hasEnd)
theorem gd_k_day_167_k_has : GoodIn vs_k_day (wsV RX11 167 RX7 yX7_has vs_k_has) := goodIn_app (goodIn_sub (fun w h => (List.mem_cons_of_mem _ (List.mem_append_right _ (List.mem_append_right _ (List.mem_append_right _ (List.mem_append_left _ h)))))) (by decide +kernel)) (goodIn_sub (fun w h => (List.mem_cons_of_mem _ (List.mem_append_right _ (List.mem_append_right _ (List.mem_append_right _ (List.mem_append_right _ (List.mem_append_left _ h))))))) vg_k_has)
theorem gd_k_day_209_k_stands : GoodIn vs_k_day (wsV RX11 209 RX11 yX11_stands vs_k_stands) := goodIn_app (goodIn_sub (fun w h => (List.mem_cons_of_mem _ (List.mem_append_right _ (List.mem_append_right _ (List.mem_append_right _ (List.mem_append_right _ (List.mem_append_right _ (List.mem_append_left _ h)))))))) (by decide +kernel)) (goodIn_sub (fun w h => (List.mem_cons_of_mem _ (List.mem_append_right _ (List.mem_append_right _ (List.mem_append_right _ (List.mem_append_right _ (List.mem_append_right _ (List.mem_append_right _ (List.mem_append_left _ h))))))))) vg_k_stands)
theorem gd_k_day_241_k_errorOn : GoodIn vs_k_day (wsV RX11 241 RX11 yX11_errorOn vs_k_errorOn) := goodIn_app (goodIn_sub (fun w h => (List.mem_cons_of_mem _ (List.mem_append_right _ (List.mem_append_right _ (List.mem_append_right _ (List.mem_append_right _ (List.mem_append_right _ (List.mem_append_right _ (List.mem_append_right _ (List.mem_append_left _ h)))))))))) (by decide +kernel)) (goodIn_sub (fun w h => (List.mem_cons_of_mem _ (List.mem_append_right _ (List.mem_append_right _ (List.mem_append_right _ (List.mem_append_right _ (List.mem_append_right _ (List.mem_append_right _ (List.mem_append_right _ (List.mem_append_right _ (List.mem_append_left _ h))))))))))) vg_k_errorOn)
set_option maxHeartbeats 4000000 in
set_option maxRecDepth 100000 in
theorem k_day (l : Launch) (dC : Nat → ClassId) (dI : Nat → Nat → Nat) (κ : CE) (sz : Nat) (σ : MS) (x : Int32) (y : Int32) (z : Int32) (hk : PInv κ) (hI : CInv σ)  : Met l yX11_day vs_k_day rm_k_day (va_Pc [.ref (kA κ 0), .int x, .int y, .int z] (wSy dC dI (cW κ σ) (cT κ) sz)) (va_Qi (fun (r : Int32) (τ : MS) => CInv τ ∧ True) (fun (τ : MS) => wEn dC dI (va_A (cW κ σ) sz) (cW κ τ) []) (va_A (cW κ σ) sz)) 0 0 (va_A (cW κ σ) sz) := by
  refine Met.ofW (cc := cX11_day) (maxL := 6) (ret := (some .int)) (by decide +kernel) rfl ?_
  intro p e s m args below meth c s₁ B hml hv
  obtain ⟨rfl, hsz, hP, hK, hD0, hE⟩ := hv
  have hx := B.exec
  have hb := B.bytes
  have hr := B.returns
  have hts := atoms_spec (ws := vs_k_day) B.pre
  have hown : s.vm.findClass RX11 = some m.cls := findClass_of_methodNamed B.named
  have hlocks := B.notSynchronized
  subst hsz
  have hD := hD0.self (sz := s.heap.size)
  generalize hAe : va_A (cW κ σ) s.heap.size = A at hD ⊢
  have hA : ∀ q : Nat, s.heap.size ≤ q → A q := fun q h => by rw [← hAe]; exact Or.inr h
  have hl := lv_entry ([.ref (kA κ 0), .int x, .int y, .int z]) (n := 6) (Nat.le_of_ble_eq_true rfl)
  rw [lg_entry_eq]
  generalize (lg_sl ([.ref (kA κ 0), .int x, .int y, .int z]) ++ List.replicate (6 - (lg_sl ([.ref (kA κ 0), .int x, .int y, .int z])).length) Slot.unset).toArray = ls at hl ⊢
  have hl : lv_has ls 6 [(0, .ref (kA κ 0)), (1, .int x), (2, .int y), (3, .int z)] := hl
  have ho := fun w (h : w ∈ ow_k_day) => hts w (List.mem_cons_of_mem _ (List.mem_append_left _ h))
  have hin11 : ∀ w ∈ u_ws RX11 TX11 17, w ∈ vs_k_day := fun w h => (List.mem_cons_of_mem _ (List.mem_append_right _ (List.mem_append_right _ (List.mem_append_right _ (List.mem_append_right _ (List.mem_append_right _ (List.mem_append_right _ (List.mem_append_right _ (List.mem_append_right _ (List.mem_append_right _ h))))))))))
  refine zQ (fun Q hQ => ?_)
  refine zH (A := A) (ws := (cW κ σ)) (fun H hP hS => ?_) hP
  have hk0 := hk.1
  have hk1 := hk.2.1
  have hk2 := hk.2.2.1
  refine lv_aload_n hx hb dX11_day_0 rfl (lv_at hl 0 rfl) ?_
  refine va_get (D := (dC, dI)) (ci := 11) (v := .ref (kA κ 6)) (C := RX11) (T := TX11) (N := 17) hx hb hts hin11 hown hK hP 0 rfl rfl 4 (Nat.le_of_ble_eq_true rfl) (ho (.fieldLink RX11 26 "NearEnough" "told" "LNearEnough$Program;") (List.mem_of_getElem? (i := 0) rfl)) (fun _ h9 => h9) rfl dX11_day_1 ?_
  refine lv_iload_n hx hb dX11_day_4 rfl (lv_at hl 1 rfl) ?_
  refine zy_i (va_runV (As := [.int x]) (rest := []) ⟨hx, hb, hml, hown, hts⟩ (k_hasEnd l dC dI κ H.size σ x hk hI ) (cwV 1 hts gd_k_day_227_k_hasEnd rfl rfl rfl dd_k_hasEnd ⟨Nat.le_of_ble_eq_true rfl, Nat.le_of_ble_eq_true rfl⟩) (preVy hP hK hD hE (ci := 3) (q0 := 6) rfl rfl) rfl rfl hl.1 rfl (lv_room (Nat.le_of_ble_eq_true rfl)) dX11_day_5 ⟨Nat.le_of_ble_eq_true rfl, Nat.le_of_ble_eq_true rfl⟩) hD hS hA (fun z1_ τ2_ H locs hq hP hD hS => ?_)
  obtain ⟨hτ2_, q3_⟩ := hq
  rw [hτ2_] at hP hD
  have q3_ : (z1_.toInt = 1 ∧ 0 ≤ x.toInt ∧ x.toInt < (pI κ 2).toInt) ∨ z1_.toInt = 0 := q3_
  refine W.widen (k := 0) (n := 0) (Nat.le_of_ble_eq_true rfl) (Nat.le_of_ble_eq_true rfl) ?_
  refine lv_if_eq (tgt := 30) hx hb dX11_day_8 rfl (fun c4_ => ?_) (fun c4_ => ?_)
  · have tc4_ := (show z1_.toInt = 0 from ti_eq rfl rg_11 c4_)
    refine lv_iconst (v := (-1)) hx hb dX11_day_30 rg_53 ?_
    have kk5_ : ((-1) : Int32).toInt = (-1) := rg_489
    rw [hQ]
    exact W.iret (v := (-1)) hx hb hr (fun t ht hW => ⟨⟨(-1), σ, rfl, ⟨hI, trivial⟩, wEn_of hP (hK.sub [] rfl) hD ht hW⟩, hS.F ht⟩) hS.2.2 dX11_day_31
  · have tc4_ := (show z1_.toInt ≠ 0 from ti_ne rfl rg_11 c4_)
    refine lv_aload_n hx hb dX11_day_11 rfl (lv_at hl 0 rfl) ?_
    refine va_get (D := (dC, dI)) (ci := 11) (v := .ref (kA κ 12)) (C := RX11) (T := TX11) (N := 17) hx hb hts hin11 hown hK hP 0 rfl rfl 5 (Nat.le_of_ble_eq_true rfl) (ho (.fieldLink RX11 33 "NearEnough" "sheets" "LNearEnough$Sheets;") (List.mem_of_getElem? (i := 1) rfl)) (fun _ h9 => h9) rfl dX11_day_12 ?_
    refine lv_iload_n hx hb dX11_day_15 rfl (lv_at hl 2 rfl) ?_
    refine zy_i (va_runV (As := [.int y]) (rest := []) ⟨hx, hb, hml, hown, hts⟩ (k_has l dC dI κ H.size σ y hk hI ) (cwV 1 hts gd_k_day_167_k_has rfl rfl rfl dd_k_has ⟨Nat.le_of_ble_eq_true rfl, Nat.le_of_ble_eq_true rfl⟩) (preVy hP hK hD hE (ci := 7) (q0 := 12) rfl rfl) rfl rfl hl.1 rfl (lv_room (Nat.le_of_ble_eq_true rfl)) dX11_day_16 ⟨Nat.le_of_ble_eq_true rfl, Nat.le_of_ble_eq_true rfl⟩) hD hS hA (fun z6_ τ7_ H locs hq hP hD hS => ?_)
    obtain ⟨hτ7_, q8_⟩ := hq
    rw [hτ7_] at hP hD
    have q8_ : (z6_.toInt = 1 ∧ 0 ≤ y.toInt ∧ y.toInt < 40) ∨ z6_.toInt = 0 := q8_
    refine W.widen (k := 0) (n := 0) (Nat.le_of_ble_eq_true rfl) (Nat.le_of_ble_eq_true rfl) ?_
    refine lv_if_eq (tgt := 30) hx hb dX11_day_19 rfl (fun c9_ => ?_) (fun c9_ => ?_)
    · have tc9_ := (show z6_.toInt = 0 from ti_eq rfl rg_11 c9_)
      refine lv_iconst (v := (-1)) hx hb dX11_day_30 rg_53 ?_
      have kk10_ : ((-1) : Int32).toInt = (-1) := rg_489
      rw [hQ]
      exact W.iret (v := (-1)) hx hb hr (fun t ht hW => ⟨⟨(-1), σ, rfl, ⟨hI, trivial⟩, wEn_of hP (hK.sub [] rfl) hD ht hW⟩, hS.F ht⟩) hS.2.2 dX11_day_31
    · have tc9_ := (show z6_.toInt ≠ 0 from ti_ne rfl rg_11 c9_)
      refine lv_aload_n hx hb dX11_day_22 rfl (lv_at hl 0 rfl) ?_
      refine lv_iload_n hx hb dX11_day_23 rfl (lv_at hl 3 rfl) ?_
      refine zy_i (va_runV (As := [.int z]) (rest := []) ⟨hx, hb, hml, hown, hts⟩ (k_stands l dC dI κ H.size σ z hk hI ) (cwV 1 hts gd_k_day_209_k_stands rfl rfl rfl dd_k_stands ⟨Nat.le_of_ble_eq_true rfl, Nat.le_of_ble_eq_true rfl⟩) (preVy hP hK hD hE (ci := 11) (q0 := 0) rfl rfl) rfl rfl hl.1 rfl (lv_room (Nat.le_of_ble_eq_true rfl)) dX11_day_24 ⟨Nat.le_of_ble_eq_true rfl, Nat.le_of_ble_eq_true rfl⟩) hD hS hA (fun z11_ τ12_ H locs hq hP hD hS => ?_)
      obtain ⟨hτ12_, q13_⟩ := hq
      have q13_ : z11_.toInt = 0 ∨ z11_.toInt = 1 := q13_
      refine W.widen (k := 0) (n := 0) (Nat.le_of_ble_eq_true rfl) (Nat.le_of_ble_eq_true rfl) ?_
      refine lv_if_ne (tgt := 32) hx hb dX11_day_27 rfl (fun c14_ => ?_) (fun c14_ => ?_)
      · have tc14_ := (show z11_.toInt ≠ 0 from ti_ne rfl rg_11 c14_)
        refine lv_aload_n hx hb dX11_day_32 rfl (lv_at hl 0 rfl) ?_
        refine lv_iload_n hx hb dX11_day_33 rfl (lv_at hl 1 rfl) ?_
        refine lv_iload_n hx hb dX11_day_34 rfl (lv_at hl 2 rfl) ?_
        have o1 : 0 ≤ x.toInt := by omega
        have o2 : x.toInt < (pI κ 2).toInt := by omega
        have o3 : 0 ≤ y.toInt := by omega
        have o4 : y.toInt ≤ 40 := by omega
        refine zy_l (va_runV (As := [.int x, .int y]) (rest := []) ⟨hx, hb, hml, hown, hts⟩ (k_errorOn l dC dI κ H.size τ12_ x y hk hτ12_ ⟨o1, o2⟩ ⟨o3, o4⟩) (cwV 2 hts gd_k_day_241_k_errorOn rfl rfl rfl dd_k_errorOn ⟨Nat.le_of_ble_eq_true rfl, Nat.le_of_ble_eq_true rfl⟩) (preVy hP hK hD hE (ci := 11) (q0 := 0) rfl rfl) rfl rfl hl.1 rfl (lv_room (Nat.le_of_ble_eq_true rfl)) dX11_day_35 ⟨Nat.le_of_ble_eq_true rfl, Nat.le_of_ble_eq_true rfl⟩) hD hS hA (fun y15_ τ16_ H locs hq hP hD hS => ?_)
        obtain ⟨hτ16_, q17_⟩ := hq
        refine W.widen (k := 0) (n := 0) (Nat.le_of_ble_eq_true rfl) (Nat.le_of_ble_eq_true rfl) ?_
        refine va_mabs_long hx hb (hml.trans hl.1.symm) hown (ho (.methodLink RX11 244 Lib.MathLoose.abs_long.x) (List.mem_of_getElem? (i := 2) rfl)) (ho (.static Lib.MathLoose.abs_long.x) (List.mem_of_getElem? (i := 3) rfl)) (ho (.initialized "java/lang/Math") (List.mem_of_getElem? (i := 4) rfl)) (ho (.code Lib.MathLoose.abs_long.x Lib.MathLoose.abs_long.code 2 (some .long)) (List.mem_of_getElem? (i := 5) rfl)) (Nat.le_of_ble_eq_true rfl) (Nat.le_of_ble_eq_true rfl) (Nat.le_of_ble_eq_true rfl) (Nat.le_of_ble_eq_true rfl) dX11_day_38 ?_
        refine lv_topl (fun y18_ ey18_ => ?_)
        refine lv_lstore (lv' := [(4, .long y18_), (0, .ref (kA κ 0)), (1, .int x), (2, .int y), (3, .int z)]) hx hb dX11_day_41 hl (Nat.le_of_ble_eq_true rfl) rfl (fun ls hl => ?_)
        refine lv_lload hx hb dX11_day_43 (lv_at hl 0 rfl) ?_
        refine lv_aload_n hx hb dX11_day_45 rfl (lv_at hl 1 rfl) ?_
        refine va_get (D := (dC, dI)) (ci := 11) (v := .int (τ16_.1 8)) (C := RX11) (T := TX11) (N := 17) hx hb hts hin11 hown hK hP 0 rfl rfl 13 (Nat.le_of_ble_eq_true rfl) (ho (.fieldLink RX11 75 "NearEnough" "left" "I") (List.mem_of_getElem? (i := 6) rfl)) (fun _ h9 => h9) rfl dX11_day_46 ?_
        refine lv_i2l hx hb dX11_day_49 rfl ?_
        refine lv_topl (fun y19_ ey19_ => ?_)
        refine W.lcmp hx hb dX11_day_50 ?_
        refine lv_topi (fun z20_ ez20_ => ?_)
        refine lv_if_le (tgt := 57) hx hb dX11_day_51 rfl (fun c21_ => ?_) (fun c21_ => ?_)
        · have tc21_ := (show z20_.toInt ≤ 0 from ti_le rfl rg_11 c21_)
          have lc21_ : y18_ ≤ y19_ := (lg_cmp_le y18_ y19_).mp (by rw [← ez20_]; exact c21_)
          refine lv_aload_n hx hb dX11_day_57 rfl (lv_at hl 1 rfl) ?_
          refine lv_dup hx hb dX11_day_58 rfl ?_
          refine va_get (D := (dC, dI)) (ci := 11) (v := .int (τ16_.1 8)) (C := RX11) (T := TX11) (N := 17) hx hb hts hin11 hown hK hP 0 rfl rfl 13 (Nat.le_of_ble_eq_true rfl) (ho (.fieldLink RX11 75 "NearEnough" "left" "I") (List.mem_of_getElem? (i := 6) rfl)) (fun _ h9 => h9) rfl dX11_day_59 ?_
          refine lv_lload hx hb dX11_day_62 (lv_at hl 0 rfl) ?_
          refine lv_l2i hx hb dX11_day_64 rfl ?_
          refine lv_topi (fun z22_ ez22_ => ?_)
          refine lv_isub hx hb dX11_day_65 ?_
          refine lv_topi (fun z23_ ez23_ => ?_)
          refine va_put (D := (dC, dI)) (ci := 11) (v := .int z23_) (ty := tyX11 13) (C := RX11) (T := TX11) (N := 17) hx hb hts hin11 tyX11 tyX11_ok nmX11 hown hK hP hD hS 0 rfl rfl 13 (Nat.le_of_ble_eq_true rfl) (ho (.fieldLink RX11 75 "NearEnough" "left" "I") (List.mem_of_getElem? (i := 6) rfl)) (fun _ h9 => h9) rfl (tyX11_ok 13 (Nat.le_of_ble_eq_true rfl)) rfl rfl (Nat.le_of_ble_eq_true rfl) dX11_day_66 (fun H locs hP hD hS => ?_)
          have hP : va_P (dC, dI) vwCl (cW κ (sI τ16_ 8 z23_)) H := hP
          have hD : va_D A (cW κ (sI τ16_ 8 z23_)) := hD
          refine lv_aload_n hx hb dX11_day_69 rfl (lv_at hl 1 rfl) ?_
          refine va_get (D := (dC, dI)) (ci := 11) (v := .int z23_) (C := RX11) (T := TX11) (N := 17) hx hb hts hin11 hown hK hP 0 rfl rfl 13 (Nat.le_of_ble_eq_true rfl) (ho (.fieldLink RX11 75 "NearEnough" "left" "I") (List.mem_of_getElem? (i := 6) rfl)) (fun _ h9 => h9) rfl dX11_day_70 ?_
          rw [hQ]
          exact W.iret (v := z23_) hx hb hr (fun t ht hW => ⟨⟨z23_, (sI τ16_ 8 z23_), rfl, ⟨(CInv.sI (k := 8) (v := z23_) hτ16_ (Inv.any z23_)), trivial⟩, wEn_of hP (hK.sub [] rfl) hD ht hW⟩, hS.F ht⟩) hS.2.2 dX11_day_73
        · have tc21_ := (show 0 < z20_.toInt from ti_nle rfl rg_11 c21_)
          have lc21_ : ¬ y18_ ≤ y19_ := fun h => c21_ (by rw [ez20_]; exact (lg_cmp_le y18_ y19_).mpr h)
          refine lv_bipush (v := (-2)) hx hb dX11_day_54 rg_579 ?_
          have kk24_ : ((-2) : Int32).toInt = (-2) := rx_024479cf98
          rw [hQ]
          exact W.iret (v := (-2)) hx hb hr (fun t ht hW => ⟨⟨(-2), τ16_, rfl, ⟨hτ16_, trivial⟩, wEn_of hP (hK.sub [] rfl) hD ht hW⟩, hS.F ht⟩) hS.2.2 dX11_day_56
      · have tc14_ := (show z11_.toInt = 0 from ti_eq rfl rg_11 c14_)
        refine lv_iconst (v := (-1)) hx hb dX11_day_30 rg_53 ?_
        have kk25_ : ((-1) : Int32).toInt = (-1) := rg_489
        rw [hQ]
        exact W.iret (v := (-1)) hx hb hr (fun t ht hW => ⟨⟨(-1), τ12_, rfl, ⟨hτ12_, trivial⟩, wEn_of hP (hK.sub [] rfl) hD ht hW⟩, hS.F ht⟩) hS.2.2 dX11_day_31
def ow_k_canPlan : List Cond := [.fieldLink RX11 26 "NearEnough" "told" "LNearEnough$Program;"]
def vs_k_canPlan : List Cond := .code yX11_canPlan cX11_canPlan 3 (some .boolean) :: (ow_k_canPlan ++ (([.methodLink RX11 227 yX3_hasEnd, .instanceMethod yX3_hasEnd, .selects RX3 yX3_hasEnd yX3_hasEnd, .initialized RX3] : List Cond) ++ (vs_k_hasEnd ++ (wsX110))))
theorem vg_k_canPlan : vs_k_canPlan.all goodWord = true := by decide +kernel
theorem dd_k_canPlan : yX11_canPlan.cls = RX11 ∧ yX11_canPlan.cls ≠ "java/lang/invoke/MethodHandle" ∧ yX11_canPlan.cls ≠ "java/lang/invoke/VarHandle" ∧ (parseMethodDescriptor yX11_canPlan.desc).map (fun d => d.parameters.length) = some 2 := by decide +kernel
def rm_k_canPlan : Room := { frames := 1, cells := 0, slots := 0, locals := 21 }
theorem gd_k_canPlan_227_k_hasEnd : GoodIn vs_k_canPlan (wsV RX11 227 RX3 yX3_hasEnd vs_k_hasEnd) := goodIn_app (goodIn_sub (fun w h => (List.mem_cons_of_mem _ (List.mem_append_right _ (List.mem_append_left _ h)))) (by decide +kernel)) (goodIn_sub (fun w h => (List.mem_cons_of_mem _ (List.mem_append_right _ (List.mem_append_right _ (List.mem_append_left _ h))))) vg_k_hasEnd)
set_option maxHeartbeats 4000000 in
set_option maxRecDepth 100000 in
theorem k_canPlan (l : Launch) (dC : Nat → ClassId) (dI : Nat → Nat → Nat) (κ : CE) (sz : Nat) (σ : MS) (x : Int32) (y : Int32) (hk : PInv κ) (hI : CInv σ)  : Met l yX11_canPlan vs_k_canPlan rm_k_canPlan (va_Pc [.ref (kA κ 0), .int x, .int y] (wSy dC dI (cW κ σ) (cT κ) sz)) (va_Qi (fun (r : Int32) (τ : MS) => τ = σ ∧ ((r.toInt = 1 ∧ 0 ≤ x.toInt ∧ x.toInt < (pI κ 2).toInt ∧ 0 ≤ y.toInt ∧ y.toInt ≤ 400) ∨ r.toInt = 0)) (fun (τ : MS) => wEn dC dI (va_A (cW κ σ) sz) (cW κ τ) []) (va_A (cW κ σ) sz)) 0 0 (va_A (cW κ σ) sz) := by
  refine Met.ofW (cc := cX11_canPlan) (maxL := 3) (ret := (some .boolean)) (by decide +kernel) rfl ?_
  intro p e s m args below meth c s₁ B hml hv
  obtain ⟨rfl, hsz, hP, hK, hD0, hE⟩ := hv
  have hx := B.exec
  have hb := B.bytes
  have hr := B.returns
  have hts := atoms_spec (ws := vs_k_canPlan) B.pre
  have hown : s.vm.findClass RX11 = some m.cls := findClass_of_methodNamed B.named
  have hlocks := B.notSynchronized
  subst hsz
  have hD := hD0.self (sz := s.heap.size)
  generalize hAe : va_A (cW κ σ) s.heap.size = A at hD ⊢
  have hA : ∀ q : Nat, s.heap.size ≤ q → A q := fun q h => by rw [← hAe]; exact Or.inr h
  have hl := lv_entry ([.ref (kA κ 0), .int x, .int y]) (n := 3) (Nat.le_of_ble_eq_true rfl)
  rw [lg_entry_eq]
  generalize (lg_sl ([.ref (kA κ 0), .int x, .int y]) ++ List.replicate (3 - (lg_sl ([.ref (kA κ 0), .int x, .int y])).length) Slot.unset).toArray = ls at hl ⊢
  have hl : lv_has ls 3 [(0, .ref (kA κ 0)), (1, .int x), (2, .int y)] := hl
  have ho := fun w (h : w ∈ ow_k_canPlan) => hts w (List.mem_cons_of_mem _ (List.mem_append_left _ h))
  have hin11 : ∀ w ∈ u_ws RX11 TX11 17, w ∈ vs_k_canPlan := fun w h => (List.mem_cons_of_mem _ (List.mem_append_right _ (List.mem_append_right _ (List.mem_append_right _ h))))
  refine zQ (fun Q hQ => ?_)
  refine zH (A := A) (ws := (cW κ σ)) (fun H hP hS => ?_) hP
  have hk0 := hk.1
  have hk1 := hk.2.1
  have hk2 := hk.2.2.1
  refine lv_aload_n hx hb dX11_canPlan_0 rfl (lv_at hl 0 rfl) ?_
  refine va_get (D := (dC, dI)) (ci := 11) (v := .ref (kA κ 6)) (C := RX11) (T := TX11) (N := 17) hx hb hts hin11 hown hK hP 0 rfl rfl 4 (Nat.le_of_ble_eq_true rfl) (ho (.fieldLink RX11 26 "NearEnough" "told" "LNearEnough$Program;") (List.mem_of_getElem? (i := 0) rfl)) (fun _ h9 => h9) rfl dX11_canPlan_1 ?_
  refine lv_iload_n hx hb dX11_canPlan_4 rfl (lv_at hl 1 rfl) ?_
  refine zy_i (va_runV (As := [.int x]) (rest := []) ⟨hx, hb, hml, hown, hts⟩ (k_hasEnd l dC dI κ H.size σ x hk hI ) (cwV 1 hts gd_k_canPlan_227_k_hasEnd rfl rfl rfl dd_k_hasEnd ⟨Nat.le_of_ble_eq_true rfl, Nat.le_of_ble_eq_true rfl⟩) (preVy hP hK hD hE (ci := 3) (q0 := 6) rfl rfl) rfl rfl hl.1 rfl (lv_room (Nat.le_of_ble_eq_true rfl)) dX11_canPlan_5 ⟨Nat.le_of_ble_eq_true rfl, Nat.le_of_ble_eq_true rfl⟩) hD hS hA (fun z1_ τ2_ H locs hq hP hD hS => ?_)
  obtain ⟨hτ2_, q3_⟩ := hq
  rw [hτ2_] at hP hD
  have q3_ : (z1_.toInt = 1 ∧ 0 ≤ x.toInt ∧ x.toInt < (pI κ 2).toInt) ∨ z1_.toInt = 0 := q3_
  refine W.widen (k := 0) (n := 0) (Nat.le_of_ble_eq_true rfl) (Nat.le_of_ble_eq_true rfl) ?_
  refine lv_if_eq (tgt := 26) hx hb dX11_canPlan_8 rfl (fun c4_ => ?_) (fun c4_ => ?_)
  · have tc4_ := (show z1_.toInt = 0 from ti_eq rfl rg_11 c4_)
    refine lv_iconst (v := 0) hx hb dX11_canPlan_26 rg_0 ?_
    have kk5_ : (0 : Int32).toInt = 0 := rg_11
    have o1 : ((0 : Int32).toInt = 1 ∧ 0 ≤ x.toInt ∧ x.toInt < (pI κ 2).toInt ∧ 0 ≤ y.toInt ∧ y.toInt ≤ 400) ∨ (0 : Int32).toInt = 0 := by omega
    rw [hQ]
    exact W.zret (v := 0) hx hb hr rfl (fun t ht hW => ⟨⟨0, σ, rfl, ⟨rfl, o1⟩, wEn_of hP (hK.sub [] rfl) hD ht hW⟩, hS.F ht⟩) hS.2.2 dX11_canPlan_27
  · have tc4_ := (show z1_.toInt ≠ 0 from ti_ne rfl rg_11 c4_)
    refine lv_iload_n hx hb dX11_canPlan_11 rfl (lv_at hl 2 rfl) ?_
    refine lv_if_lt (tgt := 26) hx hb dX11_canPlan_12 rfl (fun c6_ => ?_) (fun c6_ => ?_)
    · have tc6_ := (show y.toInt < 0 from ti_lt rfl rg_11 c6_)
      refine lv_iconst (v := 0) hx hb dX11_canPlan_26 rg_0 ?_
      have kk7_ : (0 : Int32).toInt = 0 := rg_11
      have o2 : ((0 : Int32).toInt = 1 ∧ 0 ≤ x.toInt ∧ x.toInt < (pI κ 2).toInt ∧ 0 ≤ y.toInt ∧ y.toInt ≤ 400) ∨ (0 : Int32).toInt = 0 := by omega
      rw [hQ]
      exact W.zret (v := 0) hx hb hr rfl (fun t ht hW => ⟨⟨0, σ, rfl, ⟨rfl, o2⟩, wEn_of hP (hK.sub [] rfl) hD ht hW⟩, hS.F ht⟩) hS.2.2 dX11_canPlan_27
    · have tc6_ := (show 0 ≤ y.toInt from ti_nlt rfl rg_11 c6_)
      refine lv_iload_n hx hb dX11_canPlan_15 rfl (lv_at hl 2 rfl) ?_
      refine lv_sipush (v := 400) hx hb dX11_canPlan_16 rx_435ef8e752 ?_
      refine lv_icmp_gt (tgt := 26) hx hb dX11_canPlan_19 rfl (fun c8_ => ?_) (fun c8_ => ?_)
      · have tc8_ := (show 400 < y.toInt from ti_lt rx_e958b5e9fa rfl c8_)
        refine lv_iconst (v := 0) hx hb dX11_canPlan_26 rg_0 ?_
        have kk9_ : (0 : Int32).toInt = 0 := rg_11
        have o3 : ((0 : Int32).toInt = 1 ∧ 0 ≤ x.toInt ∧ x.toInt < (pI κ 2).toInt ∧ 0 ≤ y.toInt ∧ y.toInt ≤ 400) ∨ (0 : Int32).toInt = 0 := by omega
        rw [hQ]
        exact W.zret (v := 0) hx hb hr rfl (fun t ht hW => ⟨⟨0, σ, rfl, ⟨rfl, o3⟩, wEn_of hP (hK.sub [] rfl) hD ht hW⟩, hS.F ht⟩) hS.2.2 dX11_canPlan_27
      · have tc8_ := (show y.toInt ≤ 400 from ti_nlt rx_e958b5e9fa rfl c8_)
        refine lv_iconst (v := 1) hx hb dX11_canPlan_22 rg_6 ?_
        refine lv_goto (tgt := 27) hx hb dX11_canPlan_23 rfl ?_
        have kk10_ : (1 : Int32).toInt = 1 := rg_18
        have o4 : ((1 : Int32).toInt = 1 ∧ 0 ≤ x.toInt ∧ x.toInt < (pI κ 2).toInt ∧ 0 ≤ y.toInt ∧ y.toInt ≤ 400) ∨ (1 : Int32).toInt = 0 := by omega
        rw [hQ]
        exact W.zret (v := 1) hx hb hr rfl (fun t ht hW => ⟨⟨1, σ, rfl, ⟨rfl, o4⟩, wEn_of hP (hK.sub [] rfl) hD ht hW⟩, hS.F ht⟩) hS.2.2 dX11_canPlan_27
def ow_k_about : List Cond := [.fieldLink RX11 26 "NearEnough" "told" "LNearEnough$Program;", .fieldLink RX11 170 "NearEnough$Program" "rowCount" "I", .fieldLink RX11 123 "NearEnough$Program" "stepCount" "I", .fieldLink RX11 281 "NearEnough$Program" "endCount" "I", .fieldLink RX11 33 "NearEnough" "sheets" "LNearEnough$Sheets;", .fieldLink RX11 111 "NearEnough$Sheets" "count" "I", .fieldLink RX11 40 "NearEnough" "changes" "LNearEnough$Changes;", .fieldLink RX11 190 "NearEnough$Changes" "count" "I", .fieldLink RX11 72 "NearEnough" "guards" "I", .fieldLink RX11 75 "NearEnough" "left" "I", .fieldLink RX11 13 "NearEnough" "bytes" "I"]
def vs_k_about : List Cond := .code yX11_about cX11_about 2 (some .int) :: (ow_k_about ++ (wsX00 ++ (wsX30 ++ (wsX70 ++ (wsX110)))))
theorem vg_k_about : vs_k_about.all goodWord = true := by decide +kernel
theorem dd_k_about : yX11_about.cls = RX11 ∧ yX11_about.cls ≠ "java/lang/invoke/MethodHandle" ∧ yX11_about.cls ≠ "java/lang/invoke/VarHandle" ∧ (parseMethodDescriptor yX11_about.desc).map (fun d => d.parameters.length) = some 1 := by decide +kernel
def rm_k_about : Room := { frames := 0, cells := 0, slots := 0, locals := 0 }
set_option maxHeartbeats 4000000 in
set_option maxRecDepth 100000 in
theorem k_about (l : Launch) (dC : Nat → ClassId) (dI : Nat → Nat → Nat) (κ : CE) (sz : Nat) (σ : MS) (x : Int32) (hk : PInv κ) (hI : CInv σ)  : Met l yX11_about vs_k_about rm_k_about (va_Pc [.ref (kA κ 0), .int x] (wSy dC dI (cW κ σ) (cT κ) sz)) (va_Qi (fun (r : Int32) (τ : MS) => τ = σ ∧ True) (fun (τ : MS) => wEn dC dI (va_A (cW κ σ) sz) (cW κ τ) []) (va_A (cW κ σ) sz)) 0 0 (va_A (cW κ σ) sz) := by
  refine Met.ofW (cc := cX11_about) (maxL := 2) (ret := (some .int)) (by decide +kernel) rfl ?_
  intro p e s m args below meth c s₁ B hml hv
  obtain ⟨rfl, hsz, hP, hK, hD0, hE⟩ := hv
  have hx := B.exec
  have hb := B.bytes
  have hr := B.returns
  have hts := atoms_spec (ws := vs_k_about) B.pre
  have hown : s.vm.findClass RX11 = some m.cls := findClass_of_methodNamed B.named
  have hlocks := B.notSynchronized
  subst hsz
  have hD := hD0.self (sz := s.heap.size)
  generalize hAe : va_A (cW κ σ) s.heap.size = A at hD ⊢
  have hA : ∀ q : Nat, s.heap.size ≤ q → A q := fun q h => by rw [← hAe]; exact Or.inr h
  have hl := lv_entry ([.ref (kA κ 0), .int x]) (n := 2) (Nat.le_of_ble_eq_true rfl)
  rw [lg_entry_eq]
  generalize (lg_sl ([.ref (kA κ 0), .int x]) ++ List.replicate (2 - (lg_sl ([.ref (kA κ 0), .int x])).length) Slot.unset).toArray = ls at hl ⊢
  have hl : lv_has ls 2 [(0, .ref (kA κ 0)), (1, .int x)] := hl
  have ho := fun w (h : w ∈ ow_k_about) => hts w (List.mem_cons_of_mem _ (List.mem_append_left _ h))
  have hin0 : ∀ w ∈ u_ws RX0 TX0 7, w ∈ vs_k_about := fun w h => (List.mem_cons_of_mem _ (List.mem_append_right _ (List.mem_append_left _ h)))
  have hin3 : ∀ w ∈ u_ws RX3 TX3 8, w ∈ vs_k_about := fun w h => (List.mem_cons_of_mem _ (List.mem_append_right _ (List.mem_append_right _ (List.mem_append_left _ h))))
  have hin7 : ∀ w ∈ u_ws RX7 TX7 3, w ∈ vs_k_about := fun w h => (List.mem_cons_of_mem _ (List.mem_append_right _ (List.mem_append_right _ (List.mem_append_right _ (List.mem_append_left _ h)))))
  have hin11 : ∀ w ∈ u_ws RX11 TX11 17, w ∈ vs_k_about := fun w h => (List.mem_cons_of_mem _ (List.mem_append_right _ (List.mem_append_right _ (List.mem_append_right _ (List.mem_append_right _ h)))))
  refine zQ (fun Q hQ => ?_)
  refine zH (A := A) (ws := (cW κ σ)) (fun H hP hS => ?_) hP
  have hk0 := hk.1
  have hk1 := hk.2.1
  have hk2 := hk.2.2.1
  refine lv_iload_n hx hb dX11_about_0 rfl (lv_at hl 1 rfl) ?_
  by_cases c_lo : x.toInt < 0
  · refine lv_tableOut (tgt := 103) hx hb dX11_about_1 (Or.inl c_lo) rfl ?_
    refine lv_iconst (v := (-1)) hx hb dX11_about_103 rg_53 ?_
    have kk1_ : ((-1) : Int32).toInt = (-1) := rg_489
    rw [hQ]
    exact W.iret (v := (-1)) hx hb hr (fun t ht hW => ⟨⟨(-1), σ, rfl, ⟨rfl, trivial⟩, wEn_of hP (hK.sub [] rfl) hD ht hW⟩, hS.F ht⟩) hS.2.2 dX11_about_104
  · by_cases c_hi : 7 < x.toInt
    · refine lv_tableOut (tgt := 103) hx hb dX11_about_1 (Or.inr c_hi) rfl ?_
      refine lv_iconst (v := (-1)) hx hb dX11_about_103 rg_53 ?_
      have kk2_ : ((-1) : Int32).toInt = (-1) := rg_489
      rw [hQ]
      exact W.iret (v := (-1)) hx hb hr (fun t ht hW => ⟨⟨(-1), σ, rfl, ⟨rfl, trivial⟩, wEn_of hP (hK.sub [] rfl) hD ht hW⟩, hS.F ht⟩) hS.2.2 dX11_about_104
    · rcases (show x.toInt = 0 ∨ x.toInt = 1 ∨ x.toInt = 2 ∨ x.toInt = 3 ∨ x.toInt = 4 ∨ x.toInt = 5 ∨ x.toInt = 6 ∨ x.toInt = 7 by omega) with t_sw | t_sw | t_sw | t_sw | t_sw | t_sw | t_sw | t_sw
      · refine lv_tableIn (tgt := 48) (off := 47) hx hb dX11_about_1 (by rw [t_sw]; decide) (by rw [t_sw]; decide) (by rw [t_sw]; decide) (by decide) ?_
        refine lv_aload_n hx hb dX11_about_48 rfl (lv_at hl 0 rfl) ?_
        refine va_get (D := (dC, dI)) (ci := 11) (v := .ref (kA κ 6)) (C := RX11) (T := TX11) (N := 17) hx hb hts hin11 hown hK hP 0 rfl rfl 4 (Nat.le_of_ble_eq_true rfl) (ho (.fieldLink RX11 26 "NearEnough" "told" "LNearEnough$Program;") (List.mem_of_getElem? (i := 0) rfl)) (fun _ h9 => h9) rfl dX11_about_49 ?_
        refine va_get (D := (dC, dI)) (ci := 3) (v := .int (pI κ 0)) (C := RX3) (T := TX3) (N := 8) hx hb hts hin3 hown hK hP 6 rfl rfl 5 (Nat.le_of_ble_eq_true rfl) (ho (.fieldLink RX11 170 "NearEnough$Program" "rowCount" "I") (List.mem_of_getElem? (i := 1) rfl)) (fun _ h9 => h9) rfl dX11_about_52 ?_
        rw [hQ]
        exact W.iret (v := (pI κ 0)) hx hb hr (fun t ht hW => ⟨⟨(pI κ 0), σ, rfl, ⟨rfl, trivial⟩, wEn_of hP (hK.sub [] rfl) hD ht hW⟩, hS.F ht⟩) hS.2.2 dX11_about_55
      · refine lv_tableIn (tgt := 56) (off := 55) hx hb dX11_about_1 (by rw [t_sw]; decide) (by rw [t_sw]; decide) (by rw [t_sw]; decide) (by decide) ?_
        refine lv_aload_n hx hb dX11_about_56 rfl (lv_at hl 0 rfl) ?_
        refine va_get (D := (dC, dI)) (ci := 11) (v := .ref (kA κ 6)) (C := RX11) (T := TX11) (N := 17) hx hb hts hin11 hown hK hP 0 rfl rfl 4 (Nat.le_of_ble_eq_true rfl) (ho (.fieldLink RX11 26 "NearEnough" "told" "LNearEnough$Program;") (List.mem_of_getElem? (i := 0) rfl)) (fun _ h9 => h9) rfl dX11_about_57 ?_
        refine va_get (D := (dC, dI)) (ci := 3) (v := .int (pI κ 1)) (C := RX3) (T := TX3) (N := 8) hx hb hts hin3 hown hK hP 6 rfl rfl 6 (Nat.le_of_ble_eq_true rfl) (ho (.fieldLink RX11 123 "NearEnough$Program" "stepCount" "I") (List.mem_of_getElem? (i := 2) rfl)) (fun _ h9 => h9) rfl dX11_about_60 ?_
        rw [hQ]
        exact W.iret (v := (pI κ 1)) hx hb hr (fun t ht hW => ⟨⟨(pI κ 1), σ, rfl, ⟨rfl, trivial⟩, wEn_of hP (hK.sub [] rfl) hD ht hW⟩, hS.F ht⟩) hS.2.2 dX11_about_63
      · refine lv_tableIn (tgt := 64) (off := 63) hx hb dX11_about_1 (by rw [t_sw]; decide) (by rw [t_sw]; decide) (by rw [t_sw]; decide) (by decide) ?_
        refine lv_aload_n hx hb dX11_about_64 rfl (lv_at hl 0 rfl) ?_
        refine va_get (D := (dC, dI)) (ci := 11) (v := .ref (kA κ 6)) (C := RX11) (T := TX11) (N := 17) hx hb hts hin11 hown hK hP 0 rfl rfl 4 (Nat.le_of_ble_eq_true rfl) (ho (.fieldLink RX11 26 "NearEnough" "told" "LNearEnough$Program;") (List.mem_of_getElem? (i := 0) rfl)) (fun _ h9 => h9) rfl dX11_about_65 ?_
        refine va_get (D := (dC, dI)) (ci := 3) (v := .int (pI κ 2)) (C := RX3) (T := TX3) (N := 8) hx hb hts hin3 hown hK hP 6 rfl rfl 7 (Nat.le_of_ble_eq_true rfl) (ho (.fieldLink RX11 281 "NearEnough$Program" "endCount" "I") (List.mem_of_getElem? (i := 3) rfl)) (fun _ h9 => h9) rfl dX11_about_68 ?_
        rw [hQ]
        exact W.iret (v := (pI κ 2)) hx hb hr (fun t ht hW => ⟨⟨(pI κ 2), σ, rfl, ⟨rfl, trivial⟩, wEn_of hP (hK.sub [] rfl) hD ht hW⟩, hS.F ht⟩) hS.2.2 dX11_about_71
      · refine lv_tableIn (tgt := 72) (off := 71) hx hb dX11_about_1 (by rw [t_sw]; decide) (by rw [t_sw]; decide) (by rw [t_sw]; decide) (by decide) ?_
        refine lv_aload_n hx hb dX11_about_72 rfl (lv_at hl 0 rfl) ?_
        refine va_get (D := (dC, dI)) (ci := 11) (v := .ref (kA κ 12)) (C := RX11) (T := TX11) (N := 17) hx hb hts hin11 hown hK hP 0 rfl rfl 5 (Nat.le_of_ble_eq_true rfl) (ho (.fieldLink RX11 33 "NearEnough" "sheets" "LNearEnough$Sheets;") (List.mem_of_getElem? (i := 4) rfl)) (fun _ h9 => h9) rfl dX11_about_73 ?_
        have bσ_12 : 0 ≤ (σ.1 12).toInt ∧ (σ.1 12).toInt ≤ 40 := hI.1 12
        refine va_get (D := (dC, dI)) (ci := 7) (v := .int (σ.1 12)) (C := RX7) (T := TX7) (N := 3) hx hb hts hin7 hown hK hP 12 rfl rfl 2 (Nat.le_of_ble_eq_true rfl) (ho (.fieldLink RX11 111 "NearEnough$Sheets" "count" "I") (List.mem_of_getElem? (i := 5) rfl)) (fun _ h9 => h9) rfl dX11_about_76 ?_
        rw [hQ]
        exact W.iret (v := (σ.1 12)) hx hb hr (fun t ht hW => ⟨⟨(σ.1 12), σ, rfl, ⟨rfl, trivial⟩, wEn_of hP (hK.sub [] rfl) hD ht hW⟩, hS.F ht⟩) hS.2.2 dX11_about_79
      · refine lv_tableIn (tgt := 80) (off := 79) hx hb dX11_about_1 (by rw [t_sw]; decide) (by rw [t_sw]; decide) (by rw [t_sw]; decide) (by decide) ?_
        refine lv_aload_n hx hb dX11_about_80 rfl (lv_at hl 0 rfl) ?_
        refine va_get (D := (dC, dI)) (ci := 11) (v := .ref (kA κ 15)) (C := RX11) (T := TX11) (N := 17) hx hb hts hin11 hown hK hP 0 rfl rfl 6 (Nat.le_of_ble_eq_true rfl) (ho (.fieldLink RX11 40 "NearEnough" "changes" "LNearEnough$Changes;") (List.mem_of_getElem? (i := 6) rfl)) (fun _ h9 => h9) rfl dX11_about_81 ?_
        have bσ_18 : 0 ≤ (σ.1 18).toInt ∧ (σ.1 18).toInt ≤ 12 := hI.1 18
        refine va_get (D := (dC, dI)) (ci := 0) (v := .int (σ.1 18)) (C := RX0) (T := TX0) (N := 7) hx hb hts hin0 hown hK hP 15 rfl rfl 5 (Nat.le_of_ble_eq_true rfl) (ho (.fieldLink RX11 190 "NearEnough$Changes" "count" "I") (List.mem_of_getElem? (i := 7) rfl)) (fun _ h9 => h9) rfl dX11_about_84 ?_
        rw [hQ]
        exact W.iret (v := (σ.1 18)) hx hb hr (fun t ht hW => ⟨⟨(σ.1 18), σ, rfl, ⟨rfl, trivial⟩, wEn_of hP (hK.sub [] rfl) hD ht hW⟩, hS.F ht⟩) hS.2.2 dX11_about_87
      · refine lv_tableIn (tgt := 88) (off := 87) hx hb dX11_about_1 (by rw [t_sw]; decide) (by rw [t_sw]; decide) (by rw [t_sw]; decide) (by decide) ?_
        refine lv_aload_n hx hb dX11_about_88 rfl (lv_at hl 0 rfl) ?_
        have bσ_7 : 0 ≤ (σ.1 7).toInt ∧ (σ.1 7).toInt ≤ 4 := hI.1 7
        refine va_get (D := (dC, dI)) (ci := 11) (v := .int (σ.1 7)) (C := RX11) (T := TX11) (N := 17) hx hb hts hin11 hown hK hP 0 rfl rfl 12 (Nat.le_of_ble_eq_true rfl) (ho (.fieldLink RX11 72 "NearEnough" "guards" "I") (List.mem_of_getElem? (i := 8) rfl)) (fun _ h9 => h9) rfl dX11_about_89 ?_
        rw [hQ]
        exact W.iret (v := (σ.1 7)) hx hb hr (fun t ht hW => ⟨⟨(σ.1 7), σ, rfl, ⟨rfl, trivial⟩, wEn_of hP (hK.sub [] rfl) hD ht hW⟩, hS.F ht⟩) hS.2.2 dX11_about_92
      · refine lv_tableIn (tgt := 93) (off := 92) hx hb dX11_about_1 (by rw [t_sw]; decide) (by rw [t_sw]; decide) (by rw [t_sw]; decide) (by decide) ?_
        refine lv_aload_n hx hb dX11_about_93 rfl (lv_at hl 0 rfl) ?_
        refine va_get (D := (dC, dI)) (ci := 11) (v := .int (σ.1 8)) (C := RX11) (T := TX11) (N := 17) hx hb hts hin11 hown hK hP 0 rfl rfl 13 (Nat.le_of_ble_eq_true rfl) (ho (.fieldLink RX11 75 "NearEnough" "left" "I") (List.mem_of_getElem? (i := 9) rfl)) (fun _ h9 => h9) rfl dX11_about_94 ?_
        rw [hQ]
        exact W.iret (v := (σ.1 8)) hx hb hr (fun t ht hW => ⟨⟨(σ.1 8), σ, rfl, ⟨rfl, trivial⟩, wEn_of hP (hK.sub [] rfl) hD ht hW⟩, hS.F ht⟩) hS.2.2 dX11_about_97
      · refine lv_tableIn (tgt := 98) (off := 97) hx hb dX11_about_1 (by rw [t_sw]; decide) (by rw [t_sw]; decide) (by rw [t_sw]; decide) (by decide) ?_
        refine lv_aload_n hx hb dX11_about_98 rfl (lv_at hl 0 rfl) ?_
        have bσ_1 : 0 ≤ (σ.1 1).toInt ∧ (σ.1 1).toInt ≤ 1000 := hI.1 1
        refine va_get (D := (dC, dI)) (ci := 11) (v := .int (σ.1 1)) (C := RX11) (T := TX11) (N := 17) hx hb hts hin11 hown hK hP 0 rfl rfl 1 (Nat.le_of_ble_eq_true rfl) (ho (.fieldLink RX11 13 "NearEnough" "bytes" "I") (List.mem_of_getElem? (i := 10) rfl)) (fun _ h9 => h9) rfl dX11_about_99 ?_
        rw [hQ]
        exact W.iret (v := (σ.1 1)) hx hb hr (fun t ht hW => ⟨⟨(σ.1 1), σ, rfl, ⟨rfl, trivial⟩, wEn_of hP (hK.sub [] rfl) hD ht hW⟩, hS.F ht⟩) hS.2.2 dX11_about_102
