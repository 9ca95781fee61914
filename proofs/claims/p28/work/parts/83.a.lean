theorem dJ7_fill_53178_0 : decode cJ7_fill_53178 0 = .ok (.iconst 0, 1) := by decide +kernel
theorem dJ7_fill_53178_1 : decode cJ7_fill_53178 1 = .ok (.istore_n 2, 1) := by decide +kernel
theorem dJ7_fill_53178_2 : decode cJ7_fill_53178 2 = .ok (.aload_n 0, 1) := by decide +kernel
theorem dJ7_fill_53178_3 : decode cJ7_fill_53178 3 = .ok (.arraylength, 1) := by decide +kernel
theorem dJ7_fill_53178_4 : decode cJ7_fill_53178 4 = .ok (.istore_n 3, 1) := by decide +kernel
theorem dJ7_fill_53178_5 : decode cJ7_fill_53178 5 = .ok (.iload_n 2, 1) := by decide +kernel
theorem dJ7_fill_53178_6 : decode cJ7_fill_53178 6 = .ok (.iload_n 3, 1) := by decide +kernel
theorem dJ7_fill_53178_7 : decode cJ7_fill_53178 7 = .ok (.if_icmp .ge 13, 3) := by decide +kernel
theorem dJ7_fill_53178_20 : decode cJ7_fill_53178 20 = .ok (.return_, 1) := by decide +kernel
theorem dJ7_fill_53178_10 : decode cJ7_fill_53178 10 = .ok (.aload_n 0, 1) := by decide +kernel
theorem dJ7_fill_53178_11 : decode cJ7_fill_53178 11 = .ok (.iload_n 2, 1) := by decide +kernel
theorem dJ7_fill_53178_12 : decode cJ7_fill_53178 12 = .ok (.iload_n 1, 1) := by decide +kernel
theorem dJ7_fill_53178_13 : decode cJ7_fill_53178 13 = .ok (.iastore, 1) := by decide +kernel
theorem dJ7_fill_53178_14 : decode cJ7_fill_53178 14 = .ok (.iinc 2 1, 3) := by decide +kernel
theorem dJ7_fill_53178_17 : decode cJ7_fill_53178 17 = .ok (.goto (-12), 3) := by decide +kernel
theorem dX0_take_0 : decode cX0_take 0 = .ok (.aload_n 0, 1) := by decide +kernel
theorem dX0_take_1 : decode cX0_take 1 = .ok (.getfield 24, 3) := by decide +kernel
theorem dX0_take_4 : decode cX0_take 4 = .ok (.iconst (-1), 1) := by decide +kernel
theorem dX0_take_5 : decode cX0_take 5 = .ok (.invokestatic 40, 3) := by decide +kernel
theorem dX0_take_8 : decode cX0_take 8 = .ok (.aload_n 0, 1) := by decide +kernel
theorem dX0_take_9 : decode cX0_take 9 = .ok (.iconst 0, 1) := by decide +kernel
theorem dX0_take_10 : decode cX0_take 10 = .ok (.putfield 31, 3) := by decide +kernel
theorem dX0_take_13 : decode cX0_take 13 = .ok (.iload_n 1, 1) := by decide +kernel
theorem dX0_take_14 : decode cX0_take 14 = .ok (.ifCond .lt 13, 3) := by decide +kernel
theorem dX0_take_27 : decode cX0_take 27 = .ok (.iconst 0, 1) := by decide +kernel
theorem dX0_take_28 : decode cX0_take 28 = .ok (.ireturn, 1) := by decide +kernel
theorem dX0_take_17 : decode cX0_take 17 = .ok (.iload_n 1, 1) := by decide +kernel
theorem dX0_take_18 : decode cX0_take 18 = .ok (.iconst 1, 1) := by decide +kernel
theorem dX0_take_19 : decode cX0_take 19 = .ok (.aload_n 0, 1) := by decide +kernel
theorem dX0_take_20 : decode cX0_take 20 = .ok (.getfield 27, 3) := by decide +kernel
theorem dX0_take_23 : decode cX0_take 23 = .ok (.ishl, 1) := by decide +kernel
theorem dX0_take_24 : decode cX0_take 24 = .ok (.if_icmp .lt 5, 3) := by decide +kernel
theorem dX0_take_29 : decode cX0_take 29 = .ok (.iconst 0, 1) := by decide +kernel
theorem dX0_take_30 : decode cX0_take 30 = .ok (.istore_n 2, 1) := by decide +kernel
theorem dX0_take_31 : decode cX0_take 31 = .ok (.iload_n 2, 1) := by decide +kernel
theorem dX0_take_32 : decode cX0_take 32 = .ok (.aload_n 0, 1) := by decide +kernel
theorem dX0_take_33 : decode cX0_take 33 = .ok (.getfield 27, 3) := by decide +kernel
theorem dX0_take_36 : decode cX0_take 36 = .ok (.if_icmp .ge 46, 3) := by decide +kernel
theorem dX0_take_82 : decode cX0_take 82 = .ok (.aload_n 0, 1) := by decide +kernel
theorem dX0_take_83 : decode cX0_take 83 = .ok (.iload_n 1, 1) := by decide +kernel
theorem dX0_take_84 : decode cX0_take 84 = .ok (.putfield 31, 3) := by decide +kernel
theorem dX0_take_87 : decode cX0_take 87 = .ok (.iconst 1, 1) := by decide +kernel
theorem dX0_take_88 : decode cX0_take 88 = .ok (.ireturn, 1) := by decide +kernel
theorem dX0_take_39 : decode cX0_take 39 = .ok (.iload_n 1, 1) := by decide +kernel
theorem dX0_take_40 : decode cX0_take 40 = .ok (.iload_n 2, 1) := by decide +kernel
theorem dX0_take_41 : decode cX0_take 41 = .ok (.ishr, 1) := by decide +kernel
theorem dX0_take_42 : decode cX0_take 42 = .ok (.iconst 1, 1) := by decide +kernel
theorem dX0_take_43 : decode cX0_take 43 = .ok (.iand, 1) := by decide +kernel
theorem dX0_take_44 : decode cX0_take 44 = .ok (.ifCond .eq 32, 3) := by decide +kernel
theorem dX0_take_76 : decode cX0_take 76 = .ok (.iinc 2 1, 3) := by decide +kernel
theorem dX0_take_79 : decode cX0_take 79 = .ok (.goto (-48), 3) := by decide +kernel
theorem dX0_take_47 : decode cX0_take 47 = .ok (.aload_n 0, 1) := by decide +kernel
theorem dX0_take_48 : decode cX0_take 48 = .ok (.getfield 24, 3) := by decide +kernel
theorem dX0_take_51 : decode cX0_take 51 = .ok (.aload_n 0, 1) := by decide +kernel
theorem dX0_take_52 : decode cX0_take 52 = .ok (.getfield 9, 3) := by decide +kernel
theorem dX0_take_55 : decode cX0_take 55 = .ok (.iload_n 2, 1) := by decide +kernel
theorem dX0_take_56 : decode cX0_take 56 = .ok (.iaload, 1) := by decide +kernel
theorem dX0_take_57 : decode cX0_take 57 = .ok (.iaload, 1) := by decide +kernel
theorem dX0_take_58 : decode cX0_take 58 = .ok (.iconst (-1), 1) := by decide +kernel
theorem dX0_take_59 : decode cX0_take 59 = .ok (.if_icmp .eq 5, 3) := by decide +kernel
theorem dX0_take_64 : decode cX0_take 64 = .ok (.aload_n 0, 1) := by decide +kernel
theorem dX0_take_65 : decode cX0_take 65 = .ok (.getfield 24, 3) := by decide +kernel
theorem dX0_take_68 : decode cX0_take 68 = .ok (.aload_n 0, 1) := by decide +kernel
theorem dX0_take_69 : decode cX0_take 69 = .ok (.getfield 9, 3) := by decide +kernel
theorem dX0_take_72 : decode cX0_take 72 = .ok (.iload_n 2, 1) := by decide +kernel
theorem dX0_take_73 : decode cX0_take 73 = .ok (.iaload, 1) := by decide +kernel
theorem dX0_take_74 : decode cX0_take 74 = .ok (.iload_n 2, 1) := by decide +kernel
theorem dX0_take_75 : decode cX0_take 75 = .ok (.iastore, 1) := by decide +kernel
theorem dX0_take_62 : decode cX0_take 62 = .ok (.iconst 0, 1) := by decide +kernel
theorem dX0_take_63 : decode cX0_take 63 = .ok (.ireturn, 1) := by decide +kernel
theorem dX0_nextOf_0 : decode cX0_nextOf 0 = .ok (.iload_n 2, 1) := by decide +kernel
theorem dX0_nextOf_1 : decode cX0_nextOf 1 = .ok (.iconst 1, 1) := by decide +kernel
theorem dX0_nextOf_2 : decode cX0_nextOf 2 = .ok (.iadd, 1) := by decide +kernel
theorem dX0_nextOf_3 : decode cX0_nextOf 3 = .ok (.istore_n 3, 1) := by decide +kernel
theorem dX0_nextOf_4 : decode cX0_nextOf 4 = .ok (.iload_n 3, 1) := by decide +kernel
theorem dX0_nextOf_5 : decode cX0_nextOf 5 = .ok (.aload_n 0, 1) := by decide +kernel
theorem dX0_nextOf_6 : decode cX0_nextOf 6 = .ok (.getfield 27, 3) := by decide +kernel
theorem dX0_nextOf_9 : decode cX0_nextOf 9 = .ok (.if_icmp .ge 21, 3) := by decide +kernel
theorem dX0_nextOf_30 : decode cX0_nextOf 30 = .ok (.iconst (-1), 1) := by decide +kernel
theorem dX0_nextOf_31 : decode cX0_nextOf 31 = .ok (.ireturn, 1) := by decide +kernel
theorem dX0_nextOf_12 : decode cX0_nextOf 12 = .ok (.aload_n 0, 1) := by decide +kernel
theorem dX0_nextOf_13 : decode cX0_nextOf 13 = .ok (.getfield 9, 3) := by decide +kernel
theorem dX0_nextOf_16 : decode cX0_nextOf 16 = .ok (.iload_n 3, 1) := by decide +kernel
theorem dX0_nextOf_17 : decode cX0_nextOf 17 = .ok (.iaload, 1) := by decide +kernel
theorem dX0_nextOf_18 : decode cX0_nextOf 18 = .ok (.iload_n 1, 1) := by decide +kernel
theorem dX0_nextOf_19 : decode cX0_nextOf 19 = .ok (.if_icmp .ne 5, 3) := by decide +kernel
theorem dX0_nextOf_24 : decode cX0_nextOf 24 = .ok (.iinc 3 1, 3) := by decide +kernel
theorem dX0_nextOf_27 : decode cX0_nextOf 27 = .ok (.goto (-23), 3) := by decide +kernel
theorem dX0_nextOf_22 : decode cX0_nextOf 22 = .ok (.iload_n 3, 1) := by decide +kernel
theorem dX0_nextOf_23 : decode cX0_nextOf 23 = .ok (.ireturn, 1) := by decide +kernel
theorem dX0_advance_0 : decode cX0_advance 0 = .ok (.iload_n 1, 1) := by decide +kernel
theorem dX0_advance_1 : decode cX0_advance 1 = .ok (.istore_n 2, 1) := by decide +kernel
theorem dX0_advance_2 : decode cX0_advance 2 = .ok (.iload_n 2, 1) := by decide +kernel
theorem dX0_advance_3 : decode cX0_advance 3 = .ok (.ifCond .lt 72, 3) := by decide +kernel
theorem dX0_advance_75 : decode cX0_advance 75 = .ok (.iconst (-1), 1) := by decide +kernel
theorem dX0_advance_76 : decode cX0_advance 76 = .ok (.ireturn, 1) := by decide +kernel
theorem dX0_advance_6 : decode cX0_advance 6 = .ok (.aload_n 0, 1) := by decide +kernel
theorem dX0_advance_7 : decode cX0_advance 7 = .ok (.getfield 24, 3) := by decide +kernel
theorem dX0_advance_10 : decode cX0_advance 10 = .ok (.iload_n 2, 1) := by decide +kernel
theorem dX0_advance_11 : decode cX0_advance 11 = .ok (.iaload, 1) := by decide +kernel
theorem dX0_advance_12 : decode cX0_advance 12 = .ok (.istore_n 3, 1) := by decide +kernel
theorem dX0_advance_13 : decode cX0_advance 13 = .ok (.aload_n 0, 1) := by decide +kernel
theorem dX0_advance_14 : decode cX0_advance 14 = .ok (.iload_n 2, 1) := by decide +kernel
theorem dX0_advance_15 : decode cX0_advance 15 = .ok (.iload_n 3, 1) := by decide +kernel
theorem dX0_advance_16 : decode cX0_advance 16 = .ok (.invokevirtual 46, 3) := by decide +kernel
theorem dX0_advance_19 : decode cX0_advance 19 = .ok (.istore 4, 2) := by decide +kernel
theorem dX0_advance_21 : decode cX0_advance 21 = .ok (.aload_n 0, 1) := by decide +kernel
theorem dX0_advance_22 : decode cX0_advance 22 = .ok (.getfield 24, 3) := by decide +kernel
theorem dX0_advance_25 : decode cX0_advance 25 = .ok (.iload_n 2, 1) := by decide +kernel
theorem dX0_advance_26 : decode cX0_advance 26 = .ok (.iload 4, 2) := by decide +kernel
theorem dX0_advance_28 : decode cX0_advance 28 = .ok (.iastore, 1) := by decide +kernel
theorem dX0_advance_29 : decode cX0_advance 29 = .ok (.iload_n 3, 1) := by decide +kernel
theorem dX0_advance_30 : decode cX0_advance 30 = .ok (.iconst (-1), 1) := by decide +kernel
theorem dX0_advance_31 : decode cX0_advance 31 = .ok (.if_icmp .eq 17, 3) := by decide +kernel
theorem dX0_advance_48 : decode cX0_advance 48 = .ok (.iload 4, 2) := by decide +kernel
theorem dX0_advance_50 : decode cX0_advance 50 = .ok (.iconst (-1), 1) := by decide +kernel
theorem dX0_advance_51 : decode cX0_advance 51 = .ok (.if_icmp .eq 18, 3) := by decide +kernel
theorem dX0_advance_69 : decode cX0_advance 69 = .ok (.iinc 2 (-1), 3) := by decide +kernel
theorem dX0_advance_72 : decode cX0_advance 72 = .ok (.goto (-70), 3) := by decide +kernel
theorem dX0_advance_54 : decode cX0_advance 54 = .ok (.aload_n 0, 1) := by decide +kernel
theorem dX0_advance_55 : decode cX0_advance 55 = .ok (.dup, 1) := by decide +kernel
theorem dX0_advance_56 : decode cX0_advance 56 = .ok (.getfield 31, 3) := by decide +kernel
theorem dX0_advance_59 : decode cX0_advance 59 = .ok (.iconst 1, 1) := by decide +kernel
theorem dX0_advance_60 : decode cX0_advance 60 = .ok (.iload 4, 2) := by decide +kernel
theorem dX0_advance_62 : decode cX0_advance 62 = .ok (.ishl, 1) := by decide +kernel
theorem dX0_advance_63 : decode cX0_advance 63 = .ok (.ior, 1) := by decide +kernel
theorem dX0_advance_64 : decode cX0_advance 64 = .ok (.putfield 31, 3) := by decide +kernel
theorem dX0_advance_67 : decode cX0_advance 67 = .ok (.iload_n 2, 1) := by decide +kernel
theorem dX0_advance_68 : decode cX0_advance 68 = .ok (.ireturn, 1) := by decide +kernel
theorem dX0_advance_34 : decode cX0_advance 34 = .ok (.aload_n 0, 1) := by decide +kernel
theorem dX0_advance_35 : decode cX0_advance 35 = .ok (.dup, 1) := by decide +kernel
theorem dX0_advance_36 : decode cX0_advance 36 = .ok (.getfield 31, 3) := by decide +kernel
theorem dX0_advance_39 : decode cX0_advance 39 = .ok (.iconst 1, 1) := by decide +kernel
theorem dX0_advance_40 : decode cX0_advance 40 = .ok (.iload_n 3, 1) := by decide +kernel
theorem dX0_advance_41 : decode cX0_advance 41 = .ok (.ishl, 1) := by decide +kernel
theorem dX0_advance_42 : decode cX0_advance 42 = .ok (.iconst (-1), 1) := by decide +kernel
theorem dX0_advance_43 : decode cX0_advance 43 = .ok (.ixor, 1) := by decide +kernel
theorem dX0_advance_44 : decode cX0_advance 44 = .ok (.iand, 1) := by decide +kernel
theorem dX0_advance_45 : decode cX0_advance 45 = .ok (.putfield 31, 3) := by decide +kernel
theorem dX0_kindAt_0 : decode cX0_kindAt 0 = .ok (.aload_n 0, 1) := by decide +kernel
theorem dX0_kindAt_1 : decode cX0_kindAt 1 = .ok (.getfield 24, 3) := by decide +kernel
theorem dX0_kindAt_4 : decode cX0_kindAt 4 = .ok (.iload_n 1, 1) := by decide +kernel
theorem dX0_kindAt_5 : decode cX0_kindAt 5 = .ok (.iaload, 1) := by decide +kernel
theorem dX0_kindAt_6 : decode cX0_kindAt 6 = .ok (.iconst (-1), 1) := by decide +kernel
theorem dX0_kindAt_7 : decode cX0_kindAt 7 = .ok (.if_icmp .ne 7, 3) := by decide +kernel
theorem dX0_kindAt_14 : decode cX0_kindAt 14 = .ok (.aload_n 0, 1) := by decide +kernel
theorem dX0_kindAt_15 : decode cX0_kindAt 15 = .ok (.getfield 15, 3) := by decide +kernel
theorem dX0_kindAt_18 : decode cX0_kindAt 18 = .ok (.aload_n 0, 1) := by decide +kernel
theorem dX0_kindAt_19 : decode cX0_kindAt 19 = .ok (.getfield 24, 3) := by decide +kernel
theorem dX0_kindAt_22 : decode cX0_kindAt 22 = .ok (.iload_n 1, 1) := by decide +kernel
theorem dX0_kindAt_23 : decode cX0_kindAt 23 = .ok (.iaload, 1) := by decide +kernel
theorem dX0_kindAt_24 : decode cX0_kindAt 24 = .ok (.iaload, 1) := by decide +kernel
theorem dX0_kindAt_25 : decode cX0_kindAt 25 = .ok (.ireturn, 1) := by decide +kernel
theorem dX0_kindAt_10 : decode cX0_kindAt 10 = .ok (.iconst (-1), 1) := by decide +kernel
theorem dX0_kindAt_11 : decode cX0_kindAt 11 = .ok (.goto 14, 3) := by decide +kernel
theorem dX0_nAt_0 : decode cX0_nAt 0 = .ok (.aload_n 0, 1) := by decide +kernel
theorem dX0_nAt_1 : decode cX0_nAt 1 = .ok (.getfield 24, 3) := by decide +kernel
theorem dX0_nAt_4 : decode cX0_nAt 4 = .ok (.iload_n 1, 1) := by decide +kernel
theorem dX0_nAt_5 : decode cX0_nAt 5 = .ok (.iaload, 1) := by decide +kernel
theorem dX0_nAt_6 : decode cX0_nAt 6 = .ok (.iconst (-1), 1) := by decide +kernel
theorem dX0_nAt_7 : decode cX0_nAt 7 = .ok (.if_icmp .ne 7, 3) := by decide +kernel
theorem dX0_nAt_14 : decode cX0_nAt 14 = .ok (.aload_n 0, 1) := by decide +kernel
theorem dX0_nAt_15 : decode cX0_nAt 15 = .ok (.getfield 18, 3) := by decide +kernel
theorem dX0_nAt_18 : decode cX0_nAt 18 = .ok (.aload_n 0, 1) := by decide +kernel
theorem dX0_nAt_19 : decode cX0_nAt 19 = .ok (.getfield 24, 3) := by decide +kernel
theorem dX0_nAt_22 : decode cX0_nAt 22 = .ok (.iload_n 1, 1) := by decide +kernel
theorem dX0_nAt_23 : decode cX0_nAt 23 = .ok (.iaload, 1) := by decide +kernel
theorem dX0_nAt_24 : decode cX0_nAt 24 = .ok (.iaload, 1) := by decide +kernel
theorem dX0_nAt_25 : decode cX0_nAt 25 = .ok (.ireturn, 1) := by decide +kernel
theorem dX0_nAt_10 : decode cX0_nAt 10 = .ok (.iconst 0, 1) := by decide +kernel
theorem dX0_nAt_11 : decode cX0_nAt 11 = .ok (.goto 14, 3) := by decide +kernel
theorem dX0_savedBy_0 : decode cX0_savedBy 0 = .ok (.iconst 0, 1) := by decide +kernel
theorem dX0_savedBy_1 : decode cX0_savedBy 1 = .ok (.istore_n 2, 1) := by decide +kernel
theorem dX0_savedBy_2 : decode cX0_savedBy 2 = .ok (.iconst 0, 1) := by decide +kernel
theorem dX0_savedBy_3 : decode cX0_savedBy 3 = .ok (.istore_n 3, 1) := by decide +kernel
theorem dX0_savedBy_4 : decode cX0_savedBy 4 = .ok (.iload_n 3, 1) := by decide +kernel
theorem dX0_savedBy_5 : decode cX0_savedBy 5 = .ok (.aload_n 0, 1) := by decide +kernel
theorem dX0_savedBy_6 : decode cX0_savedBy 6 = .ok (.getfield 27, 3) := by decide +kernel
theorem dX0_savedBy_9 : decode cX0_savedBy 9 = .ok (.if_icmp .ge 26, 3) := by decide +kernel
theorem dX0_savedBy_35 : decode cX0_savedBy 35 = .ok (.iload_n 2, 1) := by decide +kernel
theorem dX0_savedBy_36 : decode cX0_savedBy 36 = .ok (.ireturn, 1) := by decide +kernel
theorem dX0_savedBy_12 : decode cX0_savedBy 12 = .ok (.iload_n 1, 1) := by decide +kernel
theorem dX0_savedBy_13 : decode cX0_savedBy 13 = .ok (.iload_n 3, 1) := by decide +kernel
theorem dX0_savedBy_14 : decode cX0_savedBy 14 = .ok (.ishr, 1) := by decide +kernel
theorem dX0_savedBy_15 : decode cX0_savedBy 15 = .ok (.iconst 1, 1) := by decide +kernel
theorem dX0_savedBy_16 : decode cX0_savedBy 16 = .ok (.iand, 1) := by decide +kernel
theorem dX0_savedBy_17 : decode cX0_savedBy 17 = .ok (.ifCond .eq 12, 3) := by decide +kernel
theorem dX0_savedBy_29 : decode cX0_savedBy 29 = .ok (.iinc 3 1, 3) := by decide +kernel
theorem dX0_savedBy_32 : decode cX0_savedBy 32 = .ok (.goto (-28), 3) := by decide +kernel
theorem dX0_savedBy_20 : decode cX0_savedBy 20 = .ok (.iload_n 2, 1) := by decide +kernel
theorem dX0_savedBy_21 : decode cX0_savedBy 21 = .ok (.aload_n 0, 1) := by decide +kernel
theorem dX0_savedBy_22 : decode cX0_savedBy 22 = .ok (.getfield 21, 3) := by decide +kernel
theorem dX0_savedBy_25 : decode cX0_savedBy 25 = .ok (.iload_n 3, 1) := by decide +kernel
theorem dX0_savedBy_26 : decode cX0_savedBy 26 = .ok (.iaload, 1) := by decide +kernel
theorem dX0_savedBy_27 : decode cX0_savedBy 27 = .ok (.iadd, 1) := by decide +kernel
theorem dX0_savedBy_28 : decode cX0_savedBy 28 = .ok (.istore_n 2, 1) := by decide +kernel
theorem dX0_takes_0 : decode cX0_takes 0 = .ok (.aload_n 0, 1) := by decide +kernel
theorem dX0_takes_1 : decode cX0_takes 1 = .ok (.iload_n 1, 1) := by decide +kernel
theorem dX0_takes_2 : decode cX0_takes 2 = .ok (.invokevirtual 50, 3) := by decide +kernel
theorem dX0_takes_5 : decode cX0_takes 5 = .ok (.istore_n 3, 1) := by decide +kernel
theorem dX0_takes_6 : decode cX0_takes 6 = .ok (.aload_n 0, 1) := by decide +kernel
theorem dX0_takes_7 : decode cX0_takes 7 = .ok (.iload_n 1, 1) := by decide +kernel
theorem dX0_takes_8 : decode cX0_takes 8 = .ok (.invokevirtual 54, 3) := by decide +kernel
theorem dX0_takes_11 : decode cX0_takes 11 = .ok (.istore 4, 2) := by decide +kernel
theorem dX0_takes_13 : decode cX0_takes 13 = .ok (.iload_n 3, 1) := by decide +kernel
theorem dX0_takes_14 : decode cX0_takes 14 = .ok (.ifCond .ne 18, 3) := by decide +kernel
theorem dX0_takes_32 : decode cX0_takes 32 = .ok (.iload_n 3, 1) := by decide +kernel
theorem dX0_takes_33 : decode cX0_takes 33 = .ok (.iconst 5, 1) := by decide +kernel
theorem dX0_takes_34 : decode cX0_takes 34 = .ok (.if_icmp .ne 12, 3) := by decide +kernel
theorem dX0_takes_46 : decode cX0_takes 46 = .ok (.iload_n 2, 1) := by decide +kernel
theorem dX0_takes_47 : decode cX0_takes 47 = .ok (.ireturn, 1) := by decide +kernel
theorem dX0_takes_37 : decode cX0_takes 37 = .ok (.iload 4, 2) := by decide +kernel
theorem dX0_takes_39 : decode cX0_takes 39 = .ok (.iload_n 2, 1) := by decide +kernel
theorem dX0_takes_40 : decode cX0_takes 40 = .ok (.invokestatic 57, 3) := by decide +kernel
theorem dX0_takes_43 : decode cX0_takes 43 = .ok (.goto 4, 3) := by decide +kernel
theorem dX0_takes_17 : decode cX0_takes 17 = .ok (.iload 4, 2) := by decide +kernel
theorem dX0_takes_19 : decode cX0_takes 19 = .ok (.ifCond .le 13, 3) := by decide +kernel
theorem dX0_takes_22 : decode cX0_takes 22 = .ok (.iload_n 2, 1) := by decide +kernel
theorem dX0_takes_23 : decode cX0_takes 23 = .ok (.iload 4, 2) := by decide +kernel
theorem dX0_takes_25 : decode cX0_takes 25 = .ok (.iadd, 1) := by decide +kernel
theorem dX0_takes_26 : decode cX0_takes 26 = .ok (.iconst 1, 1) := by decide +kernel
theorem dX0_takes_27 : decode cX0_takes 27 = .ok (.isub, 1) := by decide +kernel
theorem dX0_takes_28 : decode cX0_takes 28 = .ok (.iload 4, 2) := by decide +kernel
theorem dX0_takes_30 : decode cX0_takes 30 = .ok (.idiv, 1) := by decide +kernel
theorem dX0_takes_31 : decode cX0_takes 31 = .ok (.ireturn, 1) := by decide +kernel
theorem dX0_clear_0 : decode cX0_clear 0 = .ok (.aload_n 0, 1) := by decide +kernel
theorem dX0_clear_1 : decode cX0_clear 1 = .ok (.iconst 0, 1) := by decide +kernel
theorem dX0_clear_2 : decode cX0_clear 2 = .ok (.putfield 27, 3) := by decide +kernel
theorem dX0_clear_5 : decode cX0_clear 5 = .ok (.aload_n 0, 1) := by decide +kernel
theorem dX0_clear_6 : decode cX0_clear 6 = .ok (.iconst 0, 1) := by decide +kernel
theorem dX0_clear_7 : decode cX0_clear 7 = .ok (.invokevirtual 34, 3) := by decide +kernel
theorem dX0_clear_10 : decode cX0_clear 10 = .ok (.pop, 1) := by decide +kernel
theorem dX0_clear_11 : decode cX0_clear 11 = .ok (.return_, 1) := by decide +kernel
theorem dX0_add_0 : decode cX0_add 0 = .ok (.aload_n 0, 1) := by decide +kernel
theorem dX0_add_1 : decode cX0_add 1 = .ok (.getfield 9, 3) := by decide +kernel
theorem dX0_add_4 : decode cX0_add 4 = .ok (.aload_n 0, 1) := by decide +kernel
theorem dX0_add_5 : decode cX0_add 5 = .ok (.getfield 27, 3) := by decide +kernel
theorem dX0_add_8 : decode cX0_add 8 = .ok (.iload_n 1, 1) := by decide +kernel
theorem dX0_add_9 : decode cX0_add 9 = .ok (.iastore, 1) := by decide +kernel
theorem dX0_add_10 : decode cX0_add 10 = .ok (.aload_n 0, 1) := by decide +kernel
theorem dX0_add_11 : decode cX0_add 11 = .ok (.getfield 15, 3) := by decide +kernel
theorem dX0_add_14 : decode cX0_add 14 = .ok (.aload_n 0, 1) := by decide +kernel
theorem dX0_add_15 : decode cX0_add 15 = .ok (.getfield 27, 3) := by decide +kernel
theorem dX0_add_18 : decode cX0_add 18 = .ok (.iload_n 2, 1) := by decide +kernel
theorem dX0_add_19 : decode cX0_add 19 = .ok (.iastore, 1) := by decide +kernel
theorem dX0_add_20 : decode cX0_add 20 = .ok (.aload_n 0, 1) := by decide +kernel
theorem dX0_add_21 : decode cX0_add 21 = .ok (.getfield 18, 3) := by decide +kernel
theorem dX0_add_24 : decode cX0_add 24 = .ok (.aload_n 0, 1) := by decide +kernel
theorem dX0_add_25 : decode cX0_add 25 = .ok (.getfield 27, 3) := by decide +kernel
theorem dX0_add_28 : decode cX0_add 28 = .ok (.iload_n 3, 1) := by decide +kernel
theorem dX0_add_29 : decode cX0_add 29 = .ok (.iastore, 1) := by decide +kernel
theorem dX0_add_30 : decode cX0_add 30 = .ok (.aload_n 0, 1) := by decide +kernel
theorem dX0_add_31 : decode cX0_add 31 = .ok (.getfield 21, 3) := by decide +kernel
theorem dX0_add_34 : decode cX0_add 34 = .ok (.aload_n 0, 1) := by decide +kernel
theorem dX0_add_35 : decode cX0_add 35 = .ok (.getfield 27, 3) := by decide +kernel
theorem dX0_add_38 : decode cX0_add 38 = .ok (.iload 4, 2) := by decide +kernel
theorem dX0_add_40 : decode cX0_add 40 = .ok (.iastore, 1) := by decide +kernel
theorem dX0_add_41 : decode cX0_add 41 = .ok (.aload_n 0, 1) := by decide +kernel
theorem dX0_add_42 : decode cX0_add 42 = .ok (.dup, 1) := by decide +kernel
theorem dX0_add_43 : decode cX0_add 43 = .ok (.getfield 27, 3) := by decide +kernel
theorem dX0_add_46 : decode cX0_add 46 = .ok (.iconst 1, 1) := by decide +kernel
theorem dX0_add_47 : decode cX0_add 47 = .ok (.iadd, 1) := by decide +kernel
theorem dX0_add_48 : decode cX0_add 48 = .ok (.putfield 27, 3) := by decide +kernel
theorem dX0_add_51 : decode cX0_add 51 = .ok (.aload_n 0, 1) := by decide +kernel
theorem dX0_add_52 : decode cX0_add 52 = .ok (.getfield 27, 3) := by decide +kernel
theorem dX0_add_55 : decode cX0_add 55 = .ok (.iconst 1, 1) := by decide +kernel
theorem dX0_add_56 : decode cX0_add 56 = .ok (.isub, 1) := by decide +kernel
theorem dX0_add_57 : decode cX0_add 57 = .ok (.ireturn, 1) := by decide +kernel

def ow_k_fill20 : List Cond := []
def vs_k_fill20 : List Cond := .code yJ7_fill_53178 cJ7_fill_53178 4 none :: (ow_k_fill20)
theorem vg_k_fill20 : vs_k_fill20.all goodWord = true := by decide +kernel
theorem dd_k_fill20 : yJ7_fill_53178.cls ≠ "java/lang/invoke/MethodHandle" ∧ yJ7_fill_53178.cls ≠ "java/lang/invoke/VarHandle" ∧ (parseMethodDescriptor yJ7_fill_53178.desc).map (fun d => d.parameters.length) = some 2 := by decide +kernel
def rm_k_fill20 : Room := { frames := 0, cells := 0, slots := 0, locals := 0 }
set_option maxHeartbeats 4000000 in
set_option maxRecDepth 100000 in
theorem k_fill20 (l : Launch) (dC : Nat → ClassId) (dI : Nat → Nat → Nat) (κ : CE) (sz : Nat) (σ : MS) (hk : PInv κ) (hI : CInv σ)  : Met l yJ7_fill_53178 vs_k_fill20 rm_k_fill20 (va_Pc [.ref (kA κ 20), .int (-1)] (wSy dC dI (cW κ σ) (cT κ) sz)) (va_Qv (fun (τ : MS) => CInv τ ∧ True) (fun (τ : MS) => wEn dC dI (va_A (cW κ σ) sz) (cW κ τ) []) (va_A (cW κ σ) sz)) 0 0 (va_A (cW κ σ) sz) := by
  refine Met.ofW (cc := cJ7_fill_53178) (maxL := 4) (ret := none) (by decide +kernel) rfl ?_
  intro p e s m args below meth c s₁ B hml hv
  obtain ⟨rfl, hsz, hP, hK, hD0, hE⟩ := hv
  have hx := B.exec
  have hb := B.bytes
  have hr := B.returns
  have hts := atoms_spec (ws := vs_k_fill20) B.pre
  have hown : s.vm.findClass RJ7 = some m.cls := findClass_of_methodNamed B.named
  have hlocks := B.notSynchronized
  subst hsz
  have hD := hD0.self (sz := s.heap.size)
  generalize hAe : va_A (cW κ σ) s.heap.size = A at hD ⊢
  have hA : ∀ q : Nat, s.heap.size ≤ q → A q := fun q h => by rw [← hAe]; exact Or.inr h
  have hl := lv_entry ([.ref (kA κ 20), .int (-1)]) (n := 4) (Nat.le_of_ble_eq_true rfl)
  rw [lg_entry_eq]
  generalize (lg_sl ([.ref (kA κ 20), .int (-1)]) ++ List.replicate (4 - (lg_sl ([.ref (kA κ 20), .int (-1)])).length) Slot.unset).toArray = ls at hl ⊢
  have hl : lv_has ls 4 [(0, .ref (kA κ 20)), (1, .int (-1))] := hl
  have ho := fun w (h : w ∈ ow_k_fill20) => hts w (List.mem_cons_of_mem _ h)
  refine zQ (fun Q hQ => ?_)
  refine zH (A := A) (ws := (cW κ σ)) (fun H hP hS => ?_) hP
  have hk0 := hk.1
  have hk1 := hk.2.1
  have hk2 := hk.2.2.1
  refine lv_iconst (v := 0) hx hb dJ7_fill_53178_0 rg_0 ?_
  refine lv_istore_n (lv' := [(2, .int 0), (0, .ref (kA κ 20)), (1, .int (-1))]) hx hb dJ7_fill_53178_1 rfl hl (Nat.le_of_ble_eq_true rfl) rfl (fun ls hl => ?_)
  refine lv_aload_n hx hb dJ7_fill_53178_2 rfl (lv_at hl 1 rfl) ?_
  refine va_alen (v := 12) hx hb hK hP 20 16 rfl rfl rfl dJ7_fill_53178_3 ?_
  refine lv_istore_n (lv' := [(3, .int 12), (2, .int 0), (0, .ref (kA κ 20)), (1, .int (-1))]) hx hb dJ7_fill_53178_4 rfl hl (Nat.le_of_ble_eq_true rfl) rfl (fun ls hl => ?_)
  have pt5_ : ∀ (n5_ : Nat) (σ5_ : MS) (v2_ : Int32) (H : Heap) (locs : List Loc) (ls : Array Slot), (12 - v2_.toInt).toNat < n5_ → CInv σ5_ → (0 ≤ v2_.toInt) → va_P (dC, dI) vwCl (cW κ σ5_) H → va_D A (cW κ σ5_) → va_S A s.heap H locs → lv_has ls 4 [(2, .int v2_), (3, .int 12), (0, .ref (kA κ 20)), (1, .int (-1))] → W p l e (headSpec vs_k_fill20 rm_k_fill20).room s m #[Value.ref (kA κ 20), Value.int (-1)] below meth c H locs 0 0 Q (F0 m 5 ls []) := by
    intro n5_
    induction n5_ with
    | zero => intro σ5_ v2_ H locs ls hn5_ hIσ5_ hf5_0_ hP hD hS hl; exact absurd hn5_ (Nat.not_lt_zero _)
    | succ n5_ ih5_ =>
      intro σ5_ v2_ H locs ls hn5_ hIσ5_ hf5_0_ hP hD hS hl
      refine lv_iload_n hx hb dJ7_fill_53178_5 rfl (lv_at hl 0 rfl) ?_
      refine lv_iload_n hx hb dJ7_fill_53178_6 rfl (lv_at hl 1 rfl) ?_
      refine lv_icmp_ge (tgt := 20) hx hb dJ7_fill_53178_7 rfl (fun c1_ => ?_) (fun c1_ => ?_)
      · have tc1_ := (show 12 ≤ v2_.toInt from ti_le rg_58 rfl c1_)
        rw [hQ]
        exact W.vret hx hb hr (fun t ht hW => ⟨⟨σ5_, rfl, ⟨hIσ5_, trivial⟩, wEn_of hP (hK.sub [] rfl) hD ht hW⟩, hS.F ht⟩) hS.2.2 dJ7_fill_53178_20
      · have tc1_ := (show v2_.toInt < 12 from ti_nle rg_58 rfl c1_)
        refine lv_aload_n hx hb dJ7_fill_53178_10 rfl (lv_at hl 2 rfl) ?_
        refine lv_iload_n hx hb dJ7_fill_53178_11 rfl (lv_at hl 0 rfl) ?_
        refine lv_iload_n hx hb dJ7_fill_53178_12 rfl (lv_at hl 3 rfl) ?_
        have o1 : 0 ≤ v2_.toInt := by omega
        have o2 : v2_.toInt < ((12 : Nat) : Int) := by omega
        refine va_iast hx hb hK hP hD hS 20 16 rfl rfl (ti_inx o1 o2) dJ7_fill_53178_13 (fun H locs hP hD hS => ?_)
        obtain ⟨f2_, ef2_⟩ : ∃ f9 : Nat → Int32, f9 = upd (σ5_.2.1 17) (Int32.toNatClampNeg v2_) (-1) := ⟨_, rfl⟩
        have kk3_ : ((-1) : Int32).toInt = (-1) := rg_489
        have o3 : (-1) ≤ ((-1) : Int32).toInt := by omega
        have o4 : ((-1) : Int32).toInt ≤ 11 := by omega
        have rf2_ : ∀ j, j < 12 → ((-1) : Int) ≤ (f2_ j).toInt ∧ (f2_ j).toInt ≤ 11 := by rw [ef2_]; exact rgu (hIσ5_.2 17) ⟨o3, o4⟩
        have hP : va_P (dC, dI) vwCl (cW κ (sA σ5_ 17 f2_)) H := by rw [ef2_]; exact hP
        have hD : va_D A (cW κ (sA σ5_ 17 f2_)) := by rw [ef2_]; exact hD
        obtain ⟨z4_, ez4_⟩ : ∃ y : Int32, y = v2_ + 1 := ⟨_, rfl⟩
        have o5 : -2147483648 ≤ v2_.toInt + 1 := by omega
        have o6 : v2_.toInt + 1 ≤ 2147483647 := by omega
        have tz4_ := ti_add ez4_ rfl rg_18 o5 o6
        refine lv_iinc (v := z4_) (lv' := [(2, .int z4_), (3, .int 12), (0, .ref (kA κ 20)), (1, .int (-1))]) hx hb dJ7_fill_53178_14 hl (k := 0) rfl (iincp ez4_ rg_6) (Nat.le_of_ble_eq_true rfl) rfl (fun ls hl => ?_)
        refine lv_goto (tgt := 5) hx hb dJ7_fill_53178_17 rfl ?_
        have o7 : (12 - z4_.toInt).toNat < n5_ := by omega
        have o8 : 0 ≤ z4_.toInt := by omega
        exact ih5_ (sA σ5_ 17 f2_) z4_ _ _ _ o7 (CInv.sA (k := 17) (f := f2_) hIσ5_ rf2_) o8 hP hD hS (lv_sub hl [0, 1, 2, 3] rfl)
  have kk5_ : (0 : Int32).toInt = 0 := rg_11
  have o9 : 0 ≤ (0 : Int32).toInt := by omega
  exact pt5_ _ σ 0 _ _ _ (Nat.lt_succ_self _) hI o9 hP hD hS (lv_sub hl [1, 0, 2, 3] rfl)
def ow_k_take : List Cond := [.fieldLink RX0 24 "NearEnough$Changes" "taken" "[I", .fieldLink RX0 31 "NearEnough$Changes" "bits" "I", .fieldLink RX0 27 "NearEnough$Changes" "count" "I", .fieldLink RX0 9 "NearEnough$Changes" "stepOf" "[I"]
def vs_k_take : List Cond := .code yX0_take cX0_take 3 (some .boolean) :: (ow_k_take ++ (([.methodLink RX0 40 yJ7_fill_53178, .static yJ7_fill_53178, .initialized yJ7_fill_53178.cls] : List Cond) ++ (vs_k_fill20 ++ (wsX00))))
theorem vg_k_take : vs_k_take.all goodWord = true := by decide +kernel
theorem dd_k_take : yX0_take.cls = RX0 ∧ yX0_take.cls ≠ "java/lang/invoke/MethodHandle" ∧ yX0_take.cls ≠ "java/lang/invoke/VarHandle" ∧ (parseMethodDescriptor yX0_take.desc).map (fun d => d.parameters.length) = some 1 := by decide +kernel
def rm_k_take : Room := { frames := 1, cells := 0, slots := 0, locals := 23 }
theorem gd_k_take_40_k_fill20 : GoodIn vs_k_take (va_wsS RX0 40 yJ7_fill_53178 vs_k_fill20) := goodIn_app (goodIn_sub (fun w h => (List.mem_cons_of_mem _ (List.mem_append_right _ (List.mem_append_left _ h)))) (by decide +kernel)) (goodIn_sub (fun w h => (List.mem_cons_of_mem _ (List.mem_append_right _ (List.mem_append_right _ (List.mem_append_left _ h))))) vg_k_fill20)
set_option maxHeartbeats 4000000 in
set_option maxRecDepth 100000 in
theorem k_take (l : Launch) (dC : Nat → ClassId) (dI : Nat → Nat → Nat) (κ : CE) (sz : Nat) (σ : MS) (x : Int32) (hk : PInv κ) (hI : CInv σ)  : Met l yX0_take vs_k_take rm_k_take (va_Pc [.ref (kA κ 15), .int x] (wSy dC dI (cW κ σ) (cT κ) sz)) (va_Qi (fun (r : Int32) (τ : MS) => CInv τ ∧ (r.toInt = 0 ∨ r.toInt = 1)) (fun (τ : MS) => wEn dC dI (va_A (cW κ σ) sz) (cW κ τ) []) (va_A (cW κ σ) sz)) 0 0 (va_A (cW κ σ) sz) := by
  refine Met.ofW (cc := cX0_take) (maxL := 3) (ret := (some .boolean)) (by decide +kernel) rfl ?_
  intro p e s m args below meth c s₁ B hml hv
  obtain ⟨rfl, hsz, hP, hK, hD0, hE⟩ := hv
  have hx := B.exec
  have hb := B.bytes
  have hr := B.returns
  have hts := atoms_spec (ws := vs_k_take) B.pre
  have hown : s.vm.findClass RX0 = some m.cls := findClass_of_methodNamed B.named
  have hlocks := B.notSynchronized
  subst hsz
  have hD := hD0.self (sz := s.heap.size)
  generalize hAe : va_A (cW κ σ) s.heap.size = A at hD ⊢
  have hA : ∀ q : Nat, s.heap.size ≤ q → A q := fun q h => by rw [← hAe]; exact Or.inr h
  have hl := lv_entry ([.ref (kA κ 15), .int x]) (n := 3) (Nat.le_of_ble_eq_true rfl)
  rw [lg_entry_eq]
  generalize (lg_sl ([.ref (kA κ 15), .int x]) ++ List.replicate (3 - (lg_sl ([.ref (kA κ 15), .int x])).length) Slot.unset).toArray = ls at hl ⊢
  have hl : lv_has ls 3 [(0, .ref (kA κ 15)), (1, .int x)] := hl
  have ho := fun w (h : w ∈ ow_k_take) => hts w (List.mem_cons_of_mem _ (List.mem_append_left _ h))
  have hin0 : ∀ w ∈ u_ws RX0 TX0 7, w ∈ vs_k_take := fun w h => (List.mem_cons_of_mem _ (List.mem_append_right _ (List.mem_append_right _ (List.mem_append_right _ h))))
  refine zQ (fun Q hQ => ?_)
  refine zH (A := A) (ws := (cW κ σ)) (fun H hP hS => ?_) hP
  have hk0 := hk.1
  have hk1 := hk.2.1
  have hk2 := hk.2.2.1
  refine lv_aload_n hx hb dX0_take_0 rfl (lv_at hl 0 rfl) ?_
  refine va_get (D := (dC, dI)) (ci := 0) (v := .ref (kA κ 20)) (C := RX0) (T := TX0) (N := 7) hx hb hts hin0 hown hK hP 15 rfl rfl 4 (Nat.le_of_ble_eq_true rfl) (ho (.fieldLink RX0 24 "NearEnough$Changes" "taken" "[I") (List.mem_of_getElem? (i := 0) rfl)) (fun _ h9 => h9) rfl dX0_take_1 ?_
  refine lv_iconst (v := (-1)) hx hb dX0_take_4 rg_53 ?_
  refine zy_v (va_runS (As := [.ref (kA κ 20), .int (-1)]) (rest := []) ⟨hx, hb, hml, hown, hts⟩ (k_fill20 l dC dI κ H.size σ  hk hI ) (va_cwS 2 hts gd_k_take_40_k_fill20 rfl rfl rfl dd_k_fill20 ⟨Nat.le_of_ble_eq_true rfl, Nat.le_of_ble_eq_true rfl⟩) (preSy hP hK hD hE) rfl rfl hl.1 rfl (lv_room (Nat.le_of_ble_eq_true rfl)) dX0_take_5 ⟨Nat.le_of_ble_eq_true rfl, Nat.le_of_ble_eq_true rfl⟩) hD hS hA (fun τ2_ H locs hq hP hD hS => ?_)
  obtain ⟨hτ2_, q3_⟩ := hq
  refine W.widen (k := 0) (n := 0) (Nat.le_of_ble_eq_true rfl) (Nat.le_of_ble_eq_true rfl) ?_
  refine lv_aload_n hx hb dX0_take_8 rfl (lv_at hl 0 rfl) ?_
  refine lv_iconst (v := 0) hx hb dX0_take_9 rg_0 ?_
  refine va_put (D := (dC, dI)) (ci := 0) (v := .int 0) (ty := tyX0 6) (C := RX0) (T := TX0) (N := 7) hx hb hts hin0 tyX0 tyX0_ok nmX0 hown hK hP hD hS 15 rfl rfl 6 (Nat.le_of_ble_eq_true rfl) (ho (.fieldLink RX0 31 "NearEnough$Changes" "bits" "I") (List.mem_of_getElem? (i := 1) rfl)) (fun _ h9 => h9) rfl (tyX0_ok 6 (Nat.le_of_ble_eq_true rfl)) rfl rfl (Nat.le_of_ble_eq_true rfl) dX0_take_10 (fun H locs hP hD hS => ?_)
  have hP : va_P (dC, dI) vwCl (cW κ (sI τ2_ 19 0)) H := hP
  have hD : va_D A (cW κ (sI τ2_ 19 0)) := hD
  refine lv_iload_n hx hb dX0_take_13 rfl (lv_at hl 1 rfl) ?_
  refine lv_if_lt (tgt := 27) hx hb dX0_take_14 rfl (fun c4_ => ?_) (fun c4_ => ?_)
  · have tc4_ := (show x.toInt < 0 from ti_lt rfl rg_11 c4_)
    refine lv_iconst (v := 0) hx hb dX0_take_27 rg_0 ?_
    have kk5_ : (0 : Int32).toInt = 0 := rg_11
    have o1 : (0 : Int32).toInt = 0 ∨ (0 : Int32).toInt = 1 := by omega
    rw [hQ]
    exact W.zret (v := 0) hx hb hr rfl (fun t ht hW => ⟨⟨0, (sI τ2_ 19 0), rfl, ⟨(CInv.sI (k := 19) (v := 0) hτ2_ (Inv.any 0)), o1⟩, wEn_of hP (hK.sub [] rfl) hD ht hW⟩, hS.F ht⟩) hS.2.2 dX0_take_28
  · have tc4_ := (show 0 ≤ x.toInt from ti_nlt rfl rg_11 c4_)
    refine lv_iload_n hx hb dX0_take_17 rfl (lv_at hl 1 rfl) ?_
    refine lv_iconst (v := 1) hx hb dX0_take_18 rg_6 ?_
    refine lv_aload_n hx hb dX0_take_19 rfl (lv_at hl 0 rfl) ?_
    have bτ2__18 : 0 ≤ (τ2_.1 18).toInt ∧ (τ2_.1 18).toInt ≤ 12 := hτ2_.1 18
    refine va_get (D := (dC, dI)) (ci := 0) (v := .int (τ2_.1 18)) (C := RX0) (T := TX0) (N := 7) hx hb hts hin0 hown hK hP 15 rfl rfl 5 (Nat.le_of_ble_eq_true rfl) (ho (.fieldLink RX0 27 "NearEnough$Changes" "count" "I") (List.mem_of_getElem? (i := 2) rfl)) (fun _ h9 => h9) rfl dX0_take_20 ?_
    refine lv_ishl hx hb dX0_take_23 ?_
    refine lv_topi (fun z6_ ez6_ => ?_)
    refine lv_icmp_lt (tgt := 29) hx hb dX0_take_24 rfl (fun c7_ => ?_) (fun c7_ => ?_)
    · have tc7_ := (show x.toInt < z6_.toInt from ti_lt rfl rfl c7_)
      refine lv_iconst (v := 0) hx hb dX0_take_29 rg_0 ?_
      refine lv_istore_n (lv' := [(2, .int 0), (0, .ref (kA κ 15)), (1, .int x)]) hx hb dX0_take_30 rfl hl (Nat.le_of_ble_eq_true rfl) rfl (fun ls hl => ?_)
      have pt31_ : ∀ (n31_ : Nat) (σ31_ : MS) (v2_ : Int32) (H : Heap) (locs : List Loc) (ls : Array Slot), (12 - v2_.toInt).toNat < n31_ → CInv σ31_ → (0 ≤ v2_.toInt) → va_P (dC, dI) vwCl (cW κ σ31_) H → va_D A (cW κ σ31_) → va_S A s.heap H locs → lv_has ls 3 [(2, .int v2_), (0, .ref (kA κ 15)), (1, .int x)] → W p l e (headSpec vs_k_take rm_k_take).room s m #[Value.ref (kA κ 15), Value.int x] below meth c H locs 0 0 Q (F0 m 31 ls []) := by
        intro n31_
        induction n31_ with
        | zero => intro σ31_ v2_ H locs ls hn31_ hIσ31_ hf31_0_ hP hD hS hl; exact absurd hn31_ (Nat.not_lt_zero _)
        | succ n31_ ih31_ =>
          intro σ31_ v2_ H locs ls hn31_ hIσ31_ hf31_0_ hP hD hS hl
          refine lv_iload_n hx hb dX0_take_31 rfl (lv_at hl 0 rfl) ?_
          refine lv_aload_n hx hb dX0_take_32 rfl (lv_at hl 1 rfl) ?_
          have bσ31__18 : 0 ≤ (σ31_.1 18).toInt ∧ (σ31_.1 18).toInt ≤ 12 := hIσ31_.1 18
          refine va_get (D := (dC, dI)) (ci := 0) (v := .int (σ31_.1 18)) (C := RX0) (T := TX0) (N := 7) hx hb hts hin0 hown hK hP 15 rfl rfl 5 (Nat.le_of_ble_eq_true rfl) (ho (.fieldLink RX0 27 "NearEnough$Changes" "count" "I") (List.mem_of_getElem? (i := 2) rfl)) (fun _ h9 => h9) rfl dX0_take_33 ?_
          refine lv_icmp_ge (tgt := 82) hx hb dX0_take_36 rfl (fun c8_ => ?_) (fun c8_ => ?_)
          · have tc8_ := (show (σ31_.1 18).toInt ≤ v2_.toInt from ti_le rfl rfl c8_)
            refine lv_aload_n hx hb dX0_take_82 rfl (lv_at hl 1 rfl) ?_
            refine lv_iload_n hx hb dX0_take_83 rfl (lv_at hl 2 rfl) ?_
            refine va_put (D := (dC, dI)) (ci := 0) (v := .int x) (ty := tyX0 6) (C := RX0) (T := TX0) (N := 7) hx hb hts hin0 tyX0 tyX0_ok nmX0 hown hK hP hD hS 15 rfl rfl 6 (Nat.le_of_ble_eq_true rfl) (ho (.fieldLink RX0 31 "NearEnough$Changes" "bits" "I") (List.mem_of_getElem? (i := 1) rfl)) (fun _ h9 => h9) rfl (tyX0_ok 6 (Nat.le_of_ble_eq_true rfl)) rfl rfl (Nat.le_of_ble_eq_true rfl) dX0_take_84 (fun H locs hP hD hS => ?_)
            have hP : va_P (dC, dI) vwCl (cW κ (sI σ31_ 19 x)) H := hP
            have hD : va_D A (cW κ (sI σ31_ 19 x)) := hD
            refine lv_iconst (v := 1) hx hb dX0_take_87 rg_6 ?_
            have kk9_ : (1 : Int32).toInt = 1 := rg_18
            have o2 : (1 : Int32).toInt = 0 ∨ (1 : Int32).toInt = 1 := by omega
            rw [hQ]
            exact W.zret (v := 1) hx hb hr rfl (fun t ht hW => ⟨⟨1, (sI σ31_ 19 x), rfl, ⟨(CInv.sI (k := 19) (v := x) hIσ31_ (Inv.any x)), o2⟩, wEn_of hP (hK.sub [] rfl) hD ht hW⟩, hS.F ht⟩) hS.2.2 dX0_take_88
          · have tc8_ := (show v2_.toInt < (σ31_.1 18).toInt from ti_nle rfl rfl c8_)
            refine lv_iload_n hx hb dX0_take_39 rfl (lv_at hl 2 rfl) ?_
            refine lv_iload_n hx hb dX0_take_40 rfl (lv_at hl 0 rfl) ?_
            refine lv_ishr hx hb dX0_take_41 ?_
            refine lv_topi (fun z10_ ez10_ => ?_)
            refine lv_iconst (v := 1) hx hb dX0_take_42 rg_6 ?_
            refine lv_iand hx hb dX0_take_43 ?_
            refine lv_topi (fun z11_ ez11_ => ?_)
            refine lv_if_eq (tgt := 76) hx hb dX0_take_44 rfl (fun c12_ => ?_) (fun c12_ => ?_)
            · have tc12_ := (show z11_.toInt = 0 from ti_eq rfl rg_11 c12_)
              obtain ⟨z13_, ez13_⟩ : ∃ y : Int32, y = v2_ + 1 := ⟨_, rfl⟩
              have o3 : -2147483648 ≤ v2_.toInt + 1 := by omega
              have o4 : v2_.toInt + 1 ≤ 2147483647 := by omega
              have tz13_ := ti_add ez13_ rfl rg_18 o3 o4
              refine lv_iinc (v := z13_) (lv' := [(2, .int z13_), (0, .ref (kA κ 15)), (1, .int x)]) hx hb dX0_take_76 hl (k := 0) rfl (iincp ez13_ rg_6) (Nat.le_of_ble_eq_true rfl) rfl (fun ls hl => ?_)
              refine lv_goto (tgt := 31) hx hb dX0_take_79 rfl ?_
              have o5 : (12 - z13_.toInt).toNat < n31_ := by omega
              have o6 : 0 ≤ z13_.toInt := by omega
              exact ih31_ σ31_ z13_ _ _ _ o5 hIσ31_ o6 hP hD hS (lv_sub hl [0, 1, 2] rfl)
            · have tc12_ := (show z11_.toInt ≠ 0 from ti_ne rfl rg_11 c12_)
              refine lv_aload_n hx hb dX0_take_47 rfl (lv_at hl 1 rfl) ?_
              refine va_get (D := (dC, dI)) (ci := 0) (v := .ref (kA κ 20)) (C := RX0) (T := TX0) (N := 7) hx hb hts hin0 hown hK hP 15 rfl rfl 4 (Nat.le_of_ble_eq_true rfl) (ho (.fieldLink RX0 24 "NearEnough$Changes" "taken" "[I") (List.mem_of_getElem? (i := 0) rfl)) (fun _ h9 => h9) rfl dX0_take_48 ?_
              refine lv_aload_n hx hb dX0_take_51 rfl (lv_at hl 1 rfl) ?_
              refine va_get (D := (dC, dI)) (ci := 0) (v := .ref (kA κ 16)) (C := RX0) (T := TX0) (N := 7) hx hb hts hin0 hown hK hP 15 rfl rfl 0 (Nat.le_of_ble_eq_true rfl) (ho (.fieldLink RX0 9 "NearEnough$Changes" "stepOf" "[I") (List.mem_of_getElem? (i := 3) rfl)) (fun _ h9 => h9) rfl dX0_take_52 ?_
              refine lv_iload_n hx hb dX0_take_55 rfl (lv_at hl 0 rfl) ?_
              have o7 : 0 ≤ v2_.toInt := by omega
              have o8 : v2_.toInt < ((12 : Nat) : Int) := by omega
              refine va_iald hx hb hK hP 16 12 rfl rfl (ti_inx o7 o8) dX0_take_56 ?_
              refine lv_topi (fun z14_ ez14_ => ?_)
              have bz14_ : 0 ≤ z14_.toInt ∧ z14_.toInt ≤ 11 := by rw [ez14_]; exact (hIσ31_.2 13) _ (cl_lt (n := 12) o7 o8)
              have o9 : 0 ≤ z14_.toInt := by omega
              have o10 : z14_.toInt < ((12 : Nat) : Int) := by omega
              refine va_iald hx hb hK hP 20 16 rfl rfl (ti_inx o9 o10) dX0_take_57 ?_
              refine lv_topi (fun z15_ ez15_ => ?_)
              have bz15_ : (-1) ≤ z15_.toInt ∧ z15_.toInt ≤ 11 := by rw [ez15_]; exact (hIσ31_.2 17) _ (cl_lt (n := 12) o9 o10)
              refine lv_iconst (v := (-1)) hx hb dX0_take_58 rg_53 ?_
              refine lv_icmp_eq (tgt := 64) hx hb dX0_take_59 rfl (fun c16_ => ?_) (fun c16_ => ?_)
              · have tc16_ := (show z15_.toInt = (-1) from ti_eq rfl rg_489 c16_)
                refine lv_aload_n hx hb dX0_take_64 rfl (lv_at hl 1 rfl) ?_
                refine va_get (D := (dC, dI)) (ci := 0) (v := .ref (kA κ 20)) (C := RX0) (T := TX0) (N := 7) hx hb hts hin0 hown hK hP 15 rfl rfl 4 (Nat.le_of_ble_eq_true rfl) (ho (.fieldLink RX0 24 "NearEnough$Changes" "taken" "[I") (List.mem_of_getElem? (i := 0) rfl)) (fun _ h9 => h9) rfl dX0_take_65 ?_
                refine lv_aload_n hx hb dX0_take_68 rfl (lv_at hl 1 rfl) ?_
                refine va_get (D := (dC, dI)) (ci := 0) (v := .ref (kA κ 16)) (C := RX0) (T := TX0) (N := 7) hx hb hts hin0 hown hK hP 15 rfl rfl 0 (Nat.le_of_ble_eq_true rfl) (ho (.fieldLink RX0 9 "NearEnough$Changes" "stepOf" "[I") (List.mem_of_getElem? (i := 3) rfl)) (fun _ h9 => h9) rfl dX0_take_69 ?_
                refine lv_iload_n hx hb dX0_take_72 rfl (lv_at hl 0 rfl) ?_
                refine va_iald hx hb hK hP 16 12 rfl rfl (ti_inx o7 o8) dX0_take_73 ?_
                refine lv_topi (fun z17_ ez17_ => ?_)
                have bz17_ : 0 ≤ z17_.toInt ∧ z17_.toInt ≤ 11 := by rw [ez17_]; exact (hIσ31_.2 13) _ (cl_lt (n := 12) o7 o8)
                have qq18_ : z17_.toInt = z14_.toInt := congrArg Int32.toInt (ez17_.trans ez14_.symm)
                refine lv_iload_n hx hb dX0_take_74 rfl (lv_at hl 0 rfl) ?_
                have o11 : 0 ≤ z17_.toInt := by omega
                have o12 : z17_.toInt < ((12 : Nat) : Int) := by omega
                refine va_iast hx hb hK hP hD hS 20 16 rfl rfl (ti_inx o11 o12) dX0_take_75 (fun H locs hP hD hS => ?_)
                obtain ⟨f19_, ef19_⟩ : ∃ f9 : Nat → Int32, f9 = upd (σ31_.2.1 17) (Int32.toNatClampNeg z17_) v2_ := ⟨_, rfl⟩
                have o13 : (-1) ≤ v2_.toInt := by omega
                have o14 : v2_.toInt ≤ 11 := by omega
                have rf19_ : ∀ j, j < 12 → ((-1) : Int) ≤ (f19_ j).toInt ∧ (f19_ j).toInt ≤ 11 := by rw [ef19_]; exact rgu (hIσ31_.2 17) ⟨o13, o14⟩
                have hP : va_P (dC, dI) vwCl (cW κ (sA σ31_ 17 f19_)) H := by rw [ef19_]; exact hP
                have hD : va_D A (cW κ (sA σ31_ 17 f19_)) := by rw [ef19_]; exact hD
                obtain ⟨z20_, ez20_⟩ : ∃ y : Int32, y = v2_ + 1 := ⟨_, rfl⟩
                have o15 : -2147483648 ≤ v2_.toInt + 1 := by omega
                have o16 : v2_.toInt + 1 ≤ 2147483647 := by omega
                have tz20_ := ti_add ez20_ rfl rg_18 o15 o16
                refine lv_iinc (v := z20_) (lv' := [(2, .int z20_), (0, .ref (kA κ 15)), (1, .int x)]) hx hb dX0_take_76 hl (k := 0) rfl (iincp ez20_ rg_6) (Nat.le_of_ble_eq_true rfl) rfl (fun ls hl => ?_)
                refine lv_goto (tgt := 31) hx hb dX0_take_79 rfl ?_
                have o17 : (12 - z20_.toInt).toNat < n31_ := by omega
                have o18 : 0 ≤ z20_.toInt := by omega
                exact ih31_ (sA σ31_ 17 f19_) z20_ _ _ _ o17 (CInv.sA (k := 17) (f := f19_) hIσ31_ rf19_) o18 hP hD hS (lv_sub hl [0, 1, 2] rfl)
              · have tc16_ := (show z15_.toInt ≠ (-1) from ti_ne rfl rg_489 c16_)
                refine lv_iconst (v := 0) hx hb dX0_take_62 rg_0 ?_
                have kk21_ : (0 : Int32).toInt = 0 := rg_11
                have o19 : (0 : Int32).toInt = 0 ∨ (0 : Int32).toInt = 1 := by omega
                rw [hQ]
                exact W.zret (v := 0) hx hb hr rfl (fun t ht hW => ⟨⟨0, σ31_, rfl, ⟨hIσ31_, o19⟩, wEn_of hP (hK.sub [] rfl) hD ht hW⟩, hS.F ht⟩) hS.2.2 dX0_take_63
      have kk22_ : (0 : Int32).toInt = 0 := rg_11
      have o20 : 0 ≤ (0 : Int32).toInt := by omega
      exact pt31_ _ (sI τ2_ 19 0) 0 _ _ _ (Nat.lt_succ_self _) (CInv.sI (k := 19) (v := 0) hτ2_ (Inv.any 0)) o20 hP hD hS (lv_sub hl [0, 1, 2] rfl)
    · have tc7_ := (show z6_.toInt ≤ x.toInt from ti_nlt rfl rfl c7_)
      refine lv_iconst (v := 0) hx hb dX0_take_27 rg_0 ?_
      have kk23_ : (0 : Int32).toInt = 0 := rg_11
      have o21 : (0 : Int32).toInt = 0 ∨ (0 : Int32).toInt = 1 := by omega
      rw [hQ]
      exact W.zret (v := 0) hx hb hr rfl (fun t ht hW => ⟨⟨0, (sI τ2_ 19 0), rfl, ⟨(CInv.sI (k := 19) (v := 0) hτ2_ (Inv.any 0)), o21⟩, wEn_of hP (hK.sub [] rfl) hD ht hW⟩, hS.F ht⟩) hS.2.2 dX0_take_28
def ow_k_nextOf : List Cond := [.fieldLink RX0 27 "NearEnough$Changes" "count" "I", .fieldLink RX0 9 "NearEnough$Changes" "stepOf" "[I"]
def vs_k_nextOf : List Cond := .code yX0_nextOf cX0_nextOf 4 (some .int) :: (ow_k_nextOf ++ (wsX00))
theorem vg_k_nextOf : vs_k_nextOf.all goodWord = true := by decide +kernel
theorem dd_k_nextOf : yX0_nextOf.cls = RX0 ∧ yX0_nextOf.cls ≠ "java/lang/invoke/MethodHandle" ∧ yX0_nextOf.cls ≠ "java/lang/invoke/VarHandle" ∧ (parseMethodDescriptor yX0_nextOf.desc).map (fun d => d.parameters.length) = some 2 := by decide +kernel
def rm_k_nextOf : Room := { frames := 0, cells := 0, slots := 0, locals := 0 }
set_option maxHeartbeats 4000000 in
set_option maxRecDepth 100000 in
theorem k_nextOf (l : Launch) (dC : Nat → ClassId) (dI : Nat → Nat → Nat) (κ : CE) (sz : Nat) (σ : MS) (x : Int32) (y : Int32) (hk : PInv κ) (hI : CInv σ) (hy : (-1) ≤ y.toInt ∧ y.toInt ≤ 11) : Met l yX0_nextOf vs_k_nextOf rm_k_nextOf (va_Pc [.ref (kA κ 15), .int x, .int y] (wSy dC dI (cW κ σ) (cT κ) sz)) (va_Qi (fun (r : Int32) (τ : MS) => τ = σ ∧ ((-1) ≤ r.toInt ∧ r.toInt ≤ 11)) (fun (τ : MS) => wEn dC dI (va_A (cW κ σ) sz) (cW κ τ) []) (va_A (cW κ σ) sz)) 0 0 (va_A (cW κ σ) sz) := by
  refine Met.ofW (cc := cX0_nextOf) (maxL := 4) (ret := (some .int)) (by decide +kernel) rfl ?_
  intro p e s m args below meth c s₁ B hml hv
  obtain ⟨rfl, hsz, hP, hK, hD0, hE⟩ := hv
  have hx := B.exec
  have hb := B.bytes
  have hr := B.returns
  have hts := atoms_spec (ws := vs_k_nextOf) B.pre
  have hown : s.vm.findClass RX0 = some m.cls := findClass_of_methodNamed B.named
  have hlocks := B.notSynchronized
  subst hsz
  have hD := hD0.self (sz := s.heap.size)
  generalize hAe : va_A (cW κ σ) s.heap.size = A at hD ⊢
  have hA : ∀ q : Nat, s.heap.size ≤ q → A q := fun q h => by rw [← hAe]; exact Or.inr h
  have hl := lv_entry ([.ref (kA κ 15), .int x, .int y]) (n := 4) (Nat.le_of_ble_eq_true rfl)
  rw [lg_entry_eq]
  generalize (lg_sl ([.ref (kA κ 15), .int x, .int y]) ++ List.replicate (4 - (lg_sl ([.ref (kA κ 15), .int x, .int y])).length) Slot.unset).toArray = ls at hl ⊢
  have hl : lv_has ls 4 [(0, .ref (kA κ 15)), (1, .int x), (2, .int y)] := hl
  have ho := fun w (h : w ∈ ow_k_nextOf) => hts w (List.mem_cons_of_mem _ (List.mem_append_left _ h))
  have hin0 : ∀ w ∈ u_ws RX0 TX0 7, w ∈ vs_k_nextOf := fun w h => (List.mem_cons_of_mem _ (List.mem_append_right _ h))
  refine zQ (fun Q hQ => ?_)
  refine zH (A := A) (ws := (cW κ σ)) (fun H hP hS => ?_) hP
  have hk0 := hk.1
  have hk1 := hk.2.1
  have hk2 := hk.2.2.1
  refine lv_iload_n hx hb dX0_nextOf_0 rfl (lv_at hl 2 rfl) ?_
  refine lv_iconst (v := 1) hx hb dX0_nextOf_1 rg_6 ?_
  refine lv_iadd hx hb dX0_nextOf_2 ?_
  refine lv_topi (fun z1_ ez1_ => ?_)
  have o1 : -2147483648 ≤ y.toInt + 1 := by omega
  have o2 : y.toInt + 1 ≤ 2147483647 := by omega
  have tz1_ : z1_.toInt = y.toInt + 1 := ti_add ez1_ rfl rg_18 o1 o2
  refine lv_istore_n (lv' := [(3, .int z1_), (0, .ref (kA κ 15)), (1, .int x), (2, .int y)]) hx hb dX0_nextOf_3 rfl hl (Nat.le_of_ble_eq_true rfl) rfl (fun ls hl => ?_)
  have pt4_ : ∀ (n4_ : Nat) (v3_ : Int32) (H : Heap) (locs : List Loc) (ls : Array Slot), (12 - v3_.toInt).toNat < n4_ → (0 ≤ v3_.toInt ∧ v3_.toInt ≤ 12) → va_P (dC, dI) vwCl (cW κ σ) H → va_D A (cW κ σ) → va_S A s.heap H locs → lv_has ls 4 [(3, .int v3_), (0, .ref (kA κ 15)), (1, .int x)] → W p l e (headSpec vs_k_nextOf rm_k_nextOf).room s m #[Value.ref (kA κ 15), Value.int x, Value.int y] below meth c H locs 0 0 Q (F0 m 4 ls []) := by
    intro n4_
    induction n4_ with
    | zero => intro v3_ H locs ls hn4_ hf4_0_ hP hD hS hl; exact absurd hn4_ (Nat.not_lt_zero _)
    | succ n4_ ih4_ =>
      intro v3_ H locs ls hn4_ hf4_0_ hP hD hS hl
      refine lv_iload_n hx hb dX0_nextOf_4 rfl (lv_at hl 0 rfl) ?_
      refine lv_aload_n hx hb dX0_nextOf_5 rfl (lv_at hl 1 rfl) ?_
      have bσ_18 : 0 ≤ (σ.1 18).toInt ∧ (σ.1 18).toInt ≤ 12 := hI.1 18
      refine va_get (D := (dC, dI)) (ci := 0) (v := .int (σ.1 18)) (C := RX0) (T := TX0) (N := 7) hx hb hts hin0 hown hK hP 15 rfl rfl 5 (Nat.le_of_ble_eq_true rfl) (ho (.fieldLink RX0 27 "NearEnough$Changes" "count" "I") (List.mem_of_getElem? (i := 0) rfl)) (fun _ h9 => h9) rfl dX0_nextOf_6 ?_
      refine lv_icmp_ge (tgt := 30) hx hb dX0_nextOf_9 rfl (fun c2_ => ?_) (fun c2_ => ?_)
      · have tc2_ := (show (σ.1 18).toInt ≤ v3_.toInt from ti_le rfl rfl c2_)
        refine lv_iconst (v := (-1)) hx hb dX0_nextOf_30 rg_53 ?_
        have kk3_ : ((-1) : Int32).toInt = (-1) := rg_489
        have o3 : (-1) ≤ (-1 : Int32).toInt := by omega
        have o4 : (-1 : Int32).toInt ≤ 11 := by omega
        rw [hQ]
        exact W.iret (v := (-1)) hx hb hr (fun t ht hW => ⟨⟨(-1), σ, rfl, ⟨rfl, ⟨o3, o4⟩⟩, wEn_of hP (hK.sub [] rfl) hD ht hW⟩, hS.F ht⟩) hS.2.2 dX0_nextOf_31
      · have tc2_ := (show v3_.toInt < (σ.1 18).toInt from ti_nle rfl rfl c2_)
        refine lv_aload_n hx hb dX0_nextOf_12 rfl (lv_at hl 1 rfl) ?_
        refine va_get (D := (dC, dI)) (ci := 0) (v := .ref (kA κ 16)) (C := RX0) (T := TX0) (N := 7) hx hb hts hin0 hown hK hP 15 rfl rfl 0 (Nat.le_of_ble_eq_true rfl) (ho (.fieldLink RX0 9 "NearEnough$Changes" "stepOf" "[I") (List.mem_of_getElem? (i := 1) rfl)) (fun _ h9 => h9) rfl dX0_nextOf_13 ?_
        refine lv_iload_n hx hb dX0_nextOf_16 rfl (lv_at hl 0 rfl) ?_
        have o5 : 0 ≤ v3_.toInt := by omega
        have o6 : v3_.toInt < ((12 : Nat) : Int) := by omega
        refine va_iald hx hb hK hP 16 12 rfl rfl (ti_inx o5 o6) dX0_nextOf_17 ?_
        refine lv_topi (fun z4_ ez4_ => ?_)
        have bz4_ : 0 ≤ z4_.toInt ∧ z4_.toInt ≤ 11 := by rw [ez4_]; exact (hI.2 13) _ (cl_lt (n := 12) o5 o6)
        refine lv_iload_n hx hb dX0_nextOf_18 rfl (lv_at hl 2 rfl) ?_
        refine lv_icmp_ne (tgt := 24) hx hb dX0_nextOf_19 rfl (fun c5_ => ?_) (fun c5_ => ?_)
        · have tc5_ := (show z4_.toInt ≠ x.toInt from ti_ne rfl rfl c5_)
          obtain ⟨z6_, ez6_⟩ : ∃ y : Int32, y = v3_ + 1 := ⟨_, rfl⟩
          have o7 : -2147483648 ≤ v3_.toInt + 1 := by omega
          have o8 : v3_.toInt + 1 ≤ 2147483647 := by omega
          have tz6_ := ti_add ez6_ rfl rg_18 o7 o8
          refine lv_iinc (v := z6_) (lv' := [(3, .int z6_), (0, .ref (kA κ 15)), (1, .int x)]) hx hb dX0_nextOf_24 hl (k := 0) rfl (iincp ez6_ rg_6) (Nat.le_of_ble_eq_true rfl) rfl (fun ls hl => ?_)
          refine lv_goto (tgt := 4) hx hb dX0_nextOf_27 rfl ?_
          have o9 : (12 - z6_.toInt).toNat < n4_ := by omega
          have o10 : 0 ≤ z6_.toInt := by omega
          have o11 : z6_.toInt ≤ 12 := by omega
          exact ih4_  z6_ _ _ _ o9 ⟨o10, o11⟩ hP hD hS (lv_sub hl [0, 1, 2] rfl)
        · have tc5_ := (show z4_.toInt = x.toInt from ti_eq rfl rfl c5_)
          refine lv_iload_n hx hb dX0_nextOf_22 rfl (lv_at hl 0 rfl) ?_
          have o12 : (-1) ≤ v3_.toInt := by omega
          have o13 : v3_.toInt ≤ 11 := by omega
          rw [hQ]
          exact W.iret (v := v3_) hx hb hr (fun t ht hW => ⟨⟨v3_, σ, rfl, ⟨rfl, ⟨o12, o13⟩⟩, wEn_of hP (hK.sub [] rfl) hD ht hW⟩, hS.F ht⟩) hS.2.2 dX0_nextOf_23
  have o14 : 0 ≤ z1_.toInt := by omega
  have o15 : z1_.toInt ≤ 12 := by omega
  exact pt4_ _  z1_ _ _ _ (Nat.lt_succ_self _) ⟨o14, o15⟩ hP hD hS (lv_sub hl [0, 1, 2] rfl)
def ow_k_advance : List Cond := [.fieldLink RX0 24 "NearEnough$Changes" "taken" "[I", .fieldLink RX0 31 "NearEnough$Changes" "bits" "I"]
def vs_k_advance : List Cond := .code yX0_advance cX0_advance 5 (some .int) :: (ow_k_advance ++ (([.methodLink RX0 46 yX0_nextOf, .instanceMethod yX0_nextOf, .selects RX0 yX0_nextOf yX0_nextOf, .initialized RX0] : List Cond) ++ (vs_k_nextOf ++ (wsX00))))
theorem vg_k_advance : vs_k_advance.all goodWord = true := by decide +kernel
theorem dd_k_advance : yX0_advance.cls = RX0 ∧ yX0_advance.cls ≠ "java/lang/invoke/MethodHandle" ∧ yX0_advance.cls ≠ "java/lang/invoke/VarHandle" ∧ (parseMethodDescriptor yX0_advance.desc).map (fun d => d.parameters.length) = some 1 := by decide +kernel
def rm_k_advance : Room := { frames := 1, cells := 0, slots := 0, locals := 23 }
theorem gd_k_advance_46_k_nextOf : GoodIn vs_k_advance (wsV RX0 46 RX0 yX0_nextOf vs_k_nextOf) := goodIn_app (goodIn_sub (fun w h => (List.mem_cons_of_mem _ (List.mem_append_right _ (List.mem_append_left _ h)))) (by decide +kernel)) (goodIn_sub (fun w h => (List.mem_cons_of_mem _ (List.mem_append_right _ (List.mem_append_right _ (List.mem_append_left _ h))))) vg_k_nextOf)
set_option maxHeartbeats 4000000 in
set_option maxRecDepth 100000 in
theorem k_advance (l : Launch) (dC : Nat → ClassId) (dI : Nat → Nat → Nat) (κ : CE) (sz : Nat) (σ : MS) (x : Int32) (hk : PInv κ) (hI : CInv σ) (hx0 : (-1) ≤ x.toInt ∧ x.toInt ≤ 11) : Met l yX0_advance vs_k_advance rm_k_advance (va_Pc [.ref (kA κ 15), .int x] (wSy dC dI (cW κ σ) (cT κ) sz)) (va_Qi (fun (r : Int32) (τ : MS) => CInv τ ∧ ((-1) ≤ r.toInt ∧ r.toInt ≤ 11)) (fun (τ : MS) => wEn dC dI (va_A (cW κ σ) sz) (cW κ τ) []) (va_A (cW κ σ) sz)) 0 0 (va_A (cW κ σ) sz) := by
  refine Met.ofW (cc := cX0_advance) (maxL := 5) (ret := (some .int)) (by decide +kernel) rfl ?_
  intro p e s m args below meth c s₁ B hml hv
  obtain ⟨rfl, hsz, hP, hK, hD0, hE⟩ := hv
  have hx := B.exec
  have hb := B.bytes
  have hr := B.returns
  have hts := atoms_spec (ws := vs_k_advance) B.pre
  have hown : s.vm.findClass RX0 = some m.cls := findClass_of_methodNamed B.named
  have hlocks := B.notSynchronized
  subst hsz
  have hD := hD0.self (sz := s.heap.size)
  generalize hAe : va_A (cW κ σ) s.heap.size = A at hD ⊢
  have hA : ∀ q : Nat, s.heap.size ≤ q → A q := fun q h => by rw [← hAe]; exact Or.inr h
  have hl := lv_entry ([.ref (kA κ 15), .int x]) (n := 5) (Nat.le_of_ble_eq_true rfl)
  rw [lg_entry_eq]
  generalize (lg_sl ([.ref (kA κ 15), .int x]) ++ List.replicate (5 - (lg_sl ([.ref (kA κ 15), .int x])).length) Slot.unset).toArray = ls at hl ⊢
  have hl : lv_has ls 5 [(0, .ref (kA κ 15)), (1, .int x)] := hl
  have ho := fun w (h : w ∈ ow_k_advance) => hts w (List.mem_cons_of_mem _ (List.mem_append_left _ h))
  have hin0 : ∀ w ∈ u_ws RX0 TX0 7, w ∈ vs_k_advance := fun w h => (List.mem_cons_of_mem _ (List.mem_append_right _ (List.mem_append_right _ (List.mem_append_right _ h))))
  refine zQ (fun Q hQ => ?_)
  refine zH (A := A) (ws := (cW κ σ)) (fun H hP hS => ?_) hP
  have hk0 := hk.1
  have hk1 := hk.2.1
  have hk2 := hk.2.2.1
  refine lv_iload_n hx hb dX0_advance_0 rfl (lv_at hl 1 rfl) ?_
  refine lv_istore_n (lv' := [(2, .int x), (0, .ref (kA κ 15)), (1, .int x)]) hx hb dX0_advance_1 rfl hl (Nat.le_of_ble_eq_true rfl) rfl (fun ls hl => ?_)
  have pt2_ : ∀ (n2_ : Nat) (σ2_ : MS) (v2_ : Int32) (H : Heap) (locs : List Loc) (ls : Array Slot), (v2_.toInt + 1).toNat < n2_ → CInv σ2_ → (-1 ≤ v2_.toInt ∧ v2_.toInt ≤ 11) → va_P (dC, dI) vwCl (cW κ σ2_) H → va_D A (cW κ σ2_) → va_S A s.heap H locs → lv_has ls 5 [(2, .int v2_), (0, .ref (kA κ 15))] → W p l e (headSpec vs_k_advance rm_k_advance).room s m #[Value.ref (kA κ 15), Value.int x] below meth c H locs 0 0 Q (F0 m 2 ls []) := by
    intro n2_
    induction n2_ with
    | zero => intro σ2_ v2_ H locs ls hn2_ hIσ2_ hf2_0_ hP hD hS hl; exact absurd hn2_ (Nat.not_lt_zero _)
    | succ n2_ ih2_ =>
      intro σ2_ v2_ H locs ls hn2_ hIσ2_ hf2_0_ hP hD hS hl
      refine lv_iload_n hx hb dX0_advance_2 rfl (lv_at hl 0 rfl) ?_
      refine lv_if_lt (tgt := 75) hx hb dX0_advance_3 rfl (fun c1_ => ?_) (fun c1_ => ?_)
      · have tc1_ := (show v2_.toInt < 0 from ti_lt rfl rg_11 c1_)
        refine lv_iconst (v := (-1)) hx hb dX0_advance_75 rg_53 ?_
        have kk2_ : ((-1) : Int32).toInt = (-1) := rg_489
        have o1 : (-1) ≤ (-1 : Int32).toInt := by omega
        have o2 : (-1 : Int32).toInt ≤ 11 := by omega
        rw [hQ]
        exact W.iret (v := (-1)) hx hb hr (fun t ht hW => ⟨⟨(-1), σ2_, rfl, ⟨hIσ2_, ⟨o1, o2⟩⟩, wEn_of hP (hK.sub [] rfl) hD ht hW⟩, hS.F ht⟩) hS.2.2 dX0_advance_76
      · have tc1_ := (show 0 ≤ v2_.toInt from ti_nlt rfl rg_11 c1_)
        refine lv_aload_n hx hb dX0_advance_6 rfl (lv_at hl 1 rfl) ?_
        refine va_get (D := (dC, dI)) (ci := 0) (v := .ref (kA κ 20)) (C := RX0) (T := TX0) (N := 7) hx hb hts hin0 hown hK hP 15 rfl rfl 4 (Nat.le_of_ble_eq_true rfl) (ho (.fieldLink RX0 24 "NearEnough$Changes" "taken" "[I") (List.mem_of_getElem? (i := 0) rfl)) (fun _ h9 => h9) rfl dX0_advance_7 ?_
        refine lv_iload_n hx hb dX0_advance_10 rfl (lv_at hl 0 rfl) ?_
        have o3 : 0 ≤ v2_.toInt := by omega
        have o4 : v2_.toInt < ((12 : Nat) : Int) := by omega
        refine va_iald hx hb hK hP 20 16 rfl rfl (ti_inx o3 o4) dX0_advance_11 ?_
        refine lv_topi (fun z3_ ez3_ => ?_)
        have bz3_ : (-1) ≤ z3_.toInt ∧ z3_.toInt ≤ 11 := by rw [ez3_]; exact (hIσ2_.2 17) _ (cl_lt (n := 12) o3 o4)
        refine lv_istore_n (lv' := [(3, .int z3_), (2, .int v2_), (0, .ref (kA κ 15))]) hx hb dX0_advance_12 rfl hl (Nat.le_of_ble_eq_true rfl) rfl (fun ls hl => ?_)
        refine lv_aload_n hx hb dX0_advance_13 rfl (lv_at hl 2 rfl) ?_
        refine lv_iload_n hx hb dX0_advance_14 rfl (lv_at hl 1 rfl) ?_
        refine lv_iload_n hx hb dX0_advance_15 rfl (lv_at hl 0 rfl) ?_
        have o5 : (-1) ≤ z3_.toInt := by omega
        have o6 : z3_.toInt ≤ 11 := by omega
        refine zy_i (va_runV (As := [.int v2_, .int z3_]) (rest := []) ⟨hx, hb, hml, hown, hts⟩ (k_nextOf l dC dI κ H.size σ2_ v2_ z3_ hk hIσ2_ ⟨o5, o6⟩) (cwV 2 hts gd_k_advance_46_k_nextOf rfl rfl rfl dd_k_nextOf ⟨Nat.le_of_ble_eq_true rfl, Nat.le_of_ble_eq_true rfl⟩) (preVy hP hK hD hE (ci := 0) (q0 := 15) rfl rfl) rfl rfl hl.1 rfl (lv_room (Nat.le_of_ble_eq_true rfl)) dX0_advance_16 ⟨Nat.le_of_ble_eq_true rfl, Nat.le_of_ble_eq_true rfl⟩) hD hS hA (fun z4_ τ5_ H locs hq hP hD hS => ?_)
        obtain ⟨hτ5_, q6_⟩ := hq
        rw [hτ5_] at hP hD
        have q6_ : (-1) ≤ z4_.toInt ∧ z4_.toInt ≤ 11 := q6_
        refine W.widen (k := 0) (n := 0) (Nat.le_of_ble_eq_true rfl) (Nat.le_of_ble_eq_true rfl) ?_
        refine lv_istore (lv' := [(4, .int z4_), (3, .int z3_), (2, .int v2_), (0, .ref (kA κ 15))]) hx hb dX0_advance_19 hl (Nat.le_of_ble_eq_true rfl) rfl (fun ls hl => ?_)
        refine lv_aload_n hx hb dX0_advance_21 rfl (lv_at hl 3 rfl) ?_
        refine va_get (D := (dC, dI)) (ci := 0) (v := .ref (kA κ 20)) (C := RX0) (T := TX0) (N := 7) hx hb hts hin0 hown hK hP 15 rfl rfl 4 (Nat.le_of_ble_eq_true rfl) (ho (.fieldLink RX0 24 "NearEnough$Changes" "taken" "[I") (List.mem_of_getElem? (i := 0) rfl)) (fun _ h9 => h9) rfl dX0_advance_22 ?_
        refine lv_iload_n hx hb dX0_advance_25 rfl (lv_at hl 2 rfl) ?_
        refine lv_iload hx hb dX0_advance_26 (lv_at hl 0 rfl) ?_
        refine va_iast hx hb hK hP hD hS 20 16 rfl rfl (ti_inx o3 o4) dX0_advance_28 (fun H locs hP hD hS => ?_)
        obtain ⟨f7_, ef7_⟩ : ∃ f9 : Nat → Int32, f9 = upd (σ2_.2.1 17) (Int32.toNatClampNeg v2_) z4_ := ⟨_, rfl⟩
        have o7 : (-1) ≤ z4_.toInt := by omega
        have o8 : z4_.toInt ≤ 11 := by omega
        have rf7_ : ∀ j, j < 12 → ((-1) : Int) ≤ (f7_ j).toInt ∧ (f7_ j).toInt ≤ 11 := by rw [ef7_]; exact rgu (hIσ2_.2 17) ⟨o7, o8⟩
        have hP : va_P (dC, dI) vwCl (cW κ (sA σ2_ 17 f7_)) H := by rw [ef7_]; exact hP
        have hD : va_D A (cW κ (sA σ2_ 17 f7_)) := by rw [ef7_]; exact hD
        refine lv_iload_n hx hb dX0_advance_29 rfl (lv_at hl 1 rfl) ?_
        refine lv_iconst (v := (-1)) hx hb dX0_advance_30 rg_53 ?_
        refine lv_icmp_eq (tgt := 48) hx hb dX0_advance_31 rfl (fun c8_ => ?_) (fun c8_ => ?_)
        · have tc8_ := (show z3_.toInt = (-1) from ti_eq rfl rg_489 c8_)
          refine lv_iload hx hb dX0_advance_48 (lv_at hl 0 rfl) ?_
          refine lv_iconst (v := (-1)) hx hb dX0_advance_50 rg_53 ?_
          refine lv_icmp_eq (tgt := 69) hx hb dX0_advance_51 rfl (fun c9_ => ?_) (fun c9_ => ?_)
          · have tc9_ := (show z4_.toInt = (-1) from ti_eq rfl rg_489 c9_)
            obtain ⟨z10_, ez10_⟩ : ∃ y : Int32, y = v2_ + (-1) := ⟨_, rfl⟩
            have o9 : -2147483648 ≤ v2_.toInt + (-1) := by omega
            have o10 : v2_.toInt + (-1) ≤ 2147483647 := by omega
            have tz10_ := ti_add ez10_ rfl rg_489 o9 o10
            refine lv_iinc (v := z10_) (lv' := [(2, .int z10_), (4, .int z4_), (3, .int z3_), (0, .ref (kA κ 15))]) hx hb dX0_advance_69 hl (k := 2) rfl (iincp ez10_ rg_53) (Nat.le_of_ble_eq_true rfl) rfl (fun ls hl => ?_)
            refine lv_goto (tgt := 2) hx hb dX0_advance_72 rfl ?_
            have o11 : (z10_.toInt + 1).toNat < n2_ := by omega
            have o12 : -1 ≤ z10_.toInt := by omega
            have o13 : z10_.toInt ≤ 11 := by omega
            exact ih2_ (sA σ2_ 17 f7_) z10_ _ _ _ o11 (CInv.sA (k := 17) (f := f7_) hIσ2_ rf7_) ⟨o12, o13⟩ hP hD hS (lv_sub hl [0, 3] rfl)
          · have tc9_ := (show z4_.toInt ≠ (-1) from ti_ne rfl rg_489 c9_)
            refine lv_aload_n hx hb dX0_advance_54 rfl (lv_at hl 3 rfl) ?_
            refine lv_dup hx hb dX0_advance_55 rfl ?_
            refine va_get (D := (dC, dI)) (ci := 0) (v := .int (σ2_.1 19)) (C := RX0) (T := TX0) (N := 7) hx hb hts hin0 hown hK hP 15 rfl rfl 6 (Nat.le_of_ble_eq_true rfl) (ho (.fieldLink RX0 31 "NearEnough$Changes" "bits" "I") (List.mem_of_getElem? (i := 1) rfl)) (fun _ h9 => h9) rfl dX0_advance_56 ?_
            refine lv_iconst (v := 1) hx hb dX0_advance_59 rg_6 ?_
            refine lv_iload hx hb dX0_advance_60 (lv_at hl 0 rfl) ?_
            refine lv_ishl hx hb dX0_advance_62 ?_
            refine lv_topi (fun z11_ ez11_ => ?_)
            refine lv_ior hx hb dX0_advance_63 ?_
            refine lv_topi (fun z12_ ez12_ => ?_)
            refine va_put (D := (dC, dI)) (ci := 0) (v := .int z12_) (ty := tyX0 6) (C := RX0) (T := TX0) (N := 7) hx hb hts hin0 tyX0 tyX0_ok nmX0 hown hK hP hD hS 15 rfl rfl 6 (Nat.le_of_ble_eq_true rfl) (ho (.fieldLink RX0 31 "NearEnough$Changes" "bits" "I") (List.mem_of_getElem? (i := 1) rfl)) (fun _ h9 => h9) rfl (tyX0_ok 6 (Nat.le_of_ble_eq_true rfl)) rfl rfl (Nat.le_of_ble_eq_true rfl) dX0_advance_64 (fun H locs hP hD hS => ?_)
            have hP : va_P (dC, dI) vwCl (cW κ (sA (sI σ2_ 19 z12_) 17 f7_)) H := hP
            have hD : va_D A (cW κ (sA (sI σ2_ 19 z12_) 17 f7_)) := hD
            refine lv_iload_n hx hb dX0_advance_67 rfl (lv_at hl 2 rfl) ?_
            have o14 : (-1) ≤ v2_.toInt := by omega
            have o15 : v2_.toInt ≤ 11 := by omega
            rw [hQ]
            exact W.iret (v := v2_) hx hb hr (fun t ht hW => ⟨⟨v2_, (sA (sI σ2_ 19 z12_) 17 f7_), rfl, ⟨(CInv.sA (k := 17) (f := f7_) (CInv.sI (k := 19) (v := z12_) hIσ2_ (Inv.any z12_)) rf7_), ⟨o14, o15⟩⟩, wEn_of hP (hK.sub [] rfl) hD ht hW⟩, hS.F ht⟩) hS.2.2 dX0_advance_68
        · have tc8_ := (show z3_.toInt ≠ (-1) from ti_ne rfl rg_489 c8_)
          refine lv_aload_n hx hb dX0_advance_34 rfl (lv_at hl 3 rfl) ?_
          refine lv_dup hx hb dX0_advance_35 rfl ?_
          refine va_get (D := (dC, dI)) (ci := 0) (v := .int (σ2_.1 19)) (C := RX0) (T := TX0) (N := 7) hx hb hts hin0 hown hK hP 15 rfl rfl 6 (Nat.le_of_ble_eq_true rfl) (ho (.fieldLink RX0 31 "NearEnough$Changes" "bits" "I") (List.mem_of_getElem? (i := 1) rfl)) (fun _ h9 => h9) rfl dX0_advance_36 ?_
          refine lv_iconst (v := 1) hx hb dX0_advance_39 rg_6 ?_
          refine lv_iload_n hx hb dX0_advance_40 rfl (lv_at hl 1 rfl) ?_
          refine lv_ishl hx hb dX0_advance_41 ?_
          refine lv_topi (fun z13_ ez13_ => ?_)
          refine lv_iconst (v := (-1)) hx hb dX0_advance_42 rg_53 ?_
          refine lv_ixor hx hb dX0_advance_43 ?_
          refine lv_topi (fun z14_ ez14_ => ?_)
          refine lv_iand hx hb dX0_advance_44 ?_
          refine lv_topi (fun z15_ ez15_ => ?_)
          refine va_put (D := (dC, dI)) (ci := 0) (v := .int z15_) (ty := tyX0 6) (C := RX0) (T := TX0) (N := 7) hx hb hts hin0 tyX0 tyX0_ok nmX0 hown hK hP hD hS 15 rfl rfl 6 (Nat.le_of_ble_eq_true rfl) (ho (.fieldLink RX0 31 "NearEnough$Changes" "bits" "I") (List.mem_of_getElem? (i := 1) rfl)) (fun _ h9 => h9) rfl (tyX0_ok 6 (Nat.le_of_ble_eq_true rfl)) rfl rfl (Nat.le_of_ble_eq_true rfl) dX0_advance_45 (fun H locs hP hD hS => ?_)
          have hP : va_P (dC, dI) vwCl (cW κ (sA (sI σ2_ 19 z15_) 17 f7_)) H := hP
          have hD : va_D A (cW κ (sA (sI σ2_ 19 z15_) 17 f7_)) := hD
          refine lv_iload hx hb dX0_advance_48 (lv_at hl 0 rfl) ?_
          refine lv_iconst (v := (-1)) hx hb dX0_advance_50 rg_53 ?_
          refine lv_icmp_eq (tgt := 69) hx hb dX0_advance_51 rfl (fun c16_ => ?_) (fun c16_ => ?_)
          · have tc16_ := (show z4_.toInt = (-1) from ti_eq rfl rg_489 c16_)
            obtain ⟨z17_, ez17_⟩ : ∃ y : Int32, y = v2_ + (-1) := ⟨_, rfl⟩
            have o16 : -2147483648 ≤ v2_.toInt + (-1) := by omega
            have o17 : v2_.toInt + (-1) ≤ 2147483647 := by omega
            have tz17_ := ti_add ez17_ rfl rg_489 o16 o17
            refine lv_iinc (v := z17_) (lv' := [(2, .int z17_), (4, .int z4_), (3, .int z3_), (0, .ref (kA κ 15))]) hx hb dX0_advance_69 hl (k := 2) rfl (iincp ez17_ rg_53) (Nat.le_of_ble_eq_true rfl) rfl (fun ls hl => ?_)
            refine lv_goto (tgt := 2) hx hb dX0_advance_72 rfl ?_
            have o18 : (z17_.toInt + 1).toNat < n2_ := by omega
            have o19 : -1 ≤ z17_.toInt := by omega
            have o20 : z17_.toInt ≤ 11 := by omega
            exact ih2_ (sA (sI σ2_ 19 z15_) 17 f7_) z17_ _ _ _ o18 (CInv.sA (k := 17) (f := f7_) (CInv.sI (k := 19) (v := z15_) hIσ2_ (Inv.any z15_)) rf7_) ⟨o19, o20⟩ hP hD hS (lv_sub hl [0, 3] rfl)
          · have tc16_ := (show z4_.toInt ≠ (-1) from ti_ne rfl rg_489 c16_)
            refine lv_aload_n hx hb dX0_advance_54 rfl (lv_at hl 3 rfl) ?_
            refine lv_dup hx hb dX0_advance_55 rfl ?_
            refine va_get (D := (dC, dI)) (ci := 0) (v := .int z15_) (C := RX0) (T := TX0) (N := 7) hx hb hts hin0 hown hK hP 15 rfl rfl 6 (Nat.le_of_ble_eq_true rfl) (ho (.fieldLink RX0 31 "NearEnough$Changes" "bits" "I") (List.mem_of_getElem? (i := 1) rfl)) (fun _ h9 => h9) rfl dX0_advance_56 ?_
            refine lv_iconst (v := 1) hx hb dX0_advance_59 rg_6 ?_
            refine lv_iload hx hb dX0_advance_60 (lv_at hl 0 rfl) ?_
            refine lv_ishl hx hb dX0_advance_62 ?_
            refine lv_topi (fun z18_ ez18_ => ?_)
            refine lv_ior hx hb dX0_advance_63 ?_
            refine lv_topi (fun z19_ ez19_ => ?_)
            refine va_put (D := (dC, dI)) (ci := 0) (v := .int z19_) (ty := tyX0 6) (C := RX0) (T := TX0) (N := 7) hx hb hts hin0 tyX0 tyX0_ok nmX0 hown hK hP hD hS 15 rfl rfl 6 (Nat.le_of_ble_eq_true rfl) (ho (.fieldLink RX0 31 "NearEnough$Changes" "bits" "I") (List.mem_of_getElem? (i := 1) rfl)) (fun _ h9 => h9) rfl (tyX0_ok 6 (Nat.le_of_ble_eq_true rfl)) rfl rfl (Nat.le_of_ble_eq_true rfl) dX0_advance_64 (fun H locs hP hD hS => ?_)
            have hP : va_P (dC, dI) vwCl (cW κ (sA (sI σ2_ 19 z19_) 17 f7_)) H := hP
            have hD : va_D A (cW κ (sA (sI σ2_ 19 z19_) 17 f7_)) := hD
            refine lv_iload_n hx hb dX0_advance_67 rfl (lv_at hl 2 rfl) ?_
            have o21 : (-1) ≤ v2_.toInt := by omega
            have o22 : v2_.toInt ≤ 11 := by omega
            rw [hQ]
            exact W.iret (v := v2_) hx hb hr (fun t ht hW => ⟨⟨v2_, (sA (sI σ2_ 19 z19_) 17 f7_), rfl, ⟨(CInv.sA (k := 17) (f := f7_) (CInv.sI (k := 19) (v := z19_) hIσ2_ (Inv.any z19_)) rf7_), ⟨o21, o22⟩⟩, wEn_of hP (hK.sub [] rfl) hD ht hW⟩, hS.F ht⟩) hS.2.2 dX0_advance_68
  have o23 : -1 ≤ x.toInt := by omega
  have o24 : x.toInt ≤ 11 := by omega
  exact pt2_ _ σ x _ _ _ (Nat.lt_succ_self _) hI ⟨o23, o24⟩ hP hD hS (lv_sub hl [0, 1] rfl)
def ow_k_kindAt : List Cond := [.fieldLink RX0 24 "NearEnough$Changes" "taken" "[I", .fieldLink RX0 15 "NearEnough$Changes" "kindOf" "[I"]
def vs_k_kindAt : List Cond := .code yX0_kindAt cX0_kindAt 2 (some .int) :: (ow_k_kindAt ++ (wsX00))
theorem vg_k_kindAt : vs_k_kindAt.all goodWord = true := by decide +kernel
theorem dd_k_kindAt : yX0_kindAt.cls = RX0 ∧ yX0_kindAt.cls ≠ "java/lang/invoke/MethodHandle" ∧ yX0_kindAt.cls ≠ "java/lang/invoke/VarHandle" ∧ (parseMethodDescriptor yX0_kindAt.desc).map (fun d => d.parameters.length) = some 1 := by decide +kernel
def rm_k_kindAt : Room := { frames := 0, cells := 0, slots := 0, locals := 0 }
set_option maxHeartbeats 4000000 in
set_option maxRecDepth 100000 in
theorem k_kindAt (l : Launch) (dC : Nat → ClassId) (dI : Nat → Nat → Nat) (κ : CE) (sz : Nat) (σ : MS) (x : Int32) (hk : PInv κ) (hI : CInv σ) (hx0 : 0 ≤ x.toInt ∧ x.toInt ≤ 11) : Met l yX0_kindAt vs_k_kindAt rm_k_kindAt (va_Pc [.ref (kA κ 15), .int x] (wSy dC dI (cW κ σ) (cT κ) sz)) (va_Qi (fun (r : Int32) (τ : MS) => τ = σ ∧ True) (fun (τ : MS) => wEn dC dI (va_A (cW κ σ) sz) (cW κ τ) []) (va_A (cW κ σ) sz)) 0 0 (va_A (cW κ σ) sz) := by
  refine Met.ofW (cc := cX0_kindAt) (maxL := 2) (ret := (some .int)) (by decide +kernel) rfl ?_
  intro p e s m args below meth c s₁ B hml hv
  obtain ⟨rfl, hsz, hP, hK, hD0, hE⟩ := hv
  have hx := B.exec
  have hb := B.bytes
  have hr := B.returns
  have hts := atoms_spec (ws := vs_k_kindAt) B.pre
  have hown : s.vm.findClass RX0 = some m.cls := findClass_of_methodNamed B.named
  have hlocks := B.notSynchronized
  subst hsz
  have hD := hD0.self (sz := s.heap.size)
  generalize hAe : va_A (cW κ σ) s.heap.size = A at hD ⊢
  have hA : ∀ q : Nat, s.heap.size ≤ q → A q := fun q h => by rw [← hAe]; exact Or.inr h
  have hl := lv_entry ([.ref (kA κ 15), .int x]) (n := 2) (Nat.le_of_ble_eq_true rfl)
  rw [lg_entry_eq]
  generalize (lg_sl ([.ref (kA κ 15), .int x]) ++ List.replicate (2 - (lg_sl ([.ref (kA κ 15), .int x])).length) Slot.unset).toArray = ls at hl ⊢
  have hl : lv_has ls 2 [(0, .ref (kA κ 15)), (1, .int x)] := hl
  have ho := fun w (h : w ∈ ow_k_kindAt) => hts w (List.mem_cons_of_mem _ (List.mem_append_left _ h))
  have hin0 : ∀ w ∈ u_ws RX0 TX0 7, w ∈ vs_k_kindAt := fun w h => (List.mem_cons_of_mem _ (List.mem_append_right _ h))
  refine zQ (fun Q hQ => ?_)
  refine zH (A := A) (ws := (cW κ σ)) (fun H hP hS => ?_) hP
  have hk0 := hk.1
  have hk1 := hk.2.1
  have hk2 := hk.2.2.1
  refine lv_aload_n hx hb dX0_kindAt_0 rfl (lv_at hl 0 rfl) ?_
  refine va_get (D := (dC, dI)) (ci := 0) (v := .ref (kA κ 20)) (C := RX0) (T := TX0) (N := 7) hx hb hts hin0 hown hK hP 15 rfl rfl 4 (Nat.le_of_ble_eq_true rfl) (ho (.fieldLink RX0 24 "NearEnough$Changes" "taken" "[I") (List.mem_of_getElem? (i := 0) rfl)) (fun _ h9 => h9) rfl dX0_kindAt_1 ?_
  refine lv_iload_n hx hb dX0_kindAt_4 rfl (lv_at hl 1 rfl) ?_
  have o1 : 0 ≤ x.toInt := by omega
  have o2 : x.toInt < ((12 : Nat) : Int) := by omega
  refine va_iald hx hb hK hP 20 16 rfl rfl (ti_inx o1 o2) dX0_kindAt_5 ?_
  refine lv_topi (fun z1_ ez1_ => ?_)
  have bz1_ : (-1) ≤ z1_.toInt ∧ z1_.toInt ≤ 11 := by rw [ez1_]; exact (hI.2 17) _ (cl_lt (n := 12) o1 o2)
  refine lv_iconst (v := (-1)) hx hb dX0_kindAt_6 rg_53 ?_
  refine lv_icmp_ne (tgt := 14) hx hb dX0_kindAt_7 rfl (fun c2_ => ?_) (fun c2_ => ?_)
  · have tc2_ := (show z1_.toInt ≠ (-1) from ti_ne rfl rg_489 c2_)
    refine lv_aload_n hx hb dX0_kindAt_14 rfl (lv_at hl 0 rfl) ?_
    refine va_get (D := (dC, dI)) (ci := 0) (v := .ref (kA κ 17)) (C := RX0) (T := TX0) (N := 7) hx hb hts hin0 hown hK hP 15 rfl rfl 1 (Nat.le_of_ble_eq_true rfl) (ho (.fieldLink RX0 15 "NearEnough$Changes" "kindOf" "[I") (List.mem_of_getElem? (i := 1) rfl)) (fun _ h9 => h9) rfl dX0_kindAt_15 ?_
    refine lv_aload_n hx hb dX0_kindAt_18 rfl (lv_at hl 0 rfl) ?_
    refine va_get (D := (dC, dI)) (ci := 0) (v := .ref (kA κ 20)) (C := RX0) (T := TX0) (N := 7) hx hb hts hin0 hown hK hP 15 rfl rfl 4 (Nat.le_of_ble_eq_true rfl) (ho (.fieldLink RX0 24 "NearEnough$Changes" "taken" "[I") (List.mem_of_getElem? (i := 0) rfl)) (fun _ h9 => h9) rfl dX0_kindAt_19 ?_
    refine lv_iload_n hx hb dX0_kindAt_22 rfl (lv_at hl 1 rfl) ?_
    refine va_iald hx hb hK hP 20 16 rfl rfl (ti_inx o1 o2) dX0_kindAt_23 ?_
    refine lv_topi (fun z3_ ez3_ => ?_)
    have bz3_ : (-1) ≤ z3_.toInt ∧ z3_.toInt ≤ 11 := by rw [ez3_]; exact (hI.2 17) _ (cl_lt (n := 12) o1 o2)
    have qq4_ : z3_.toInt = z1_.toInt := congrArg Int32.toInt (ez3_.trans ez1_.symm)
    have o3 : 0 ≤ z3_.toInt := by omega
    have o4 : z3_.toInt < ((12 : Nat) : Int) := by omega
    refine va_iald hx hb hK hP 17 13 rfl rfl (ti_inx o3 o4) dX0_kindAt_24 ?_
    refine lv_topi (fun z5_ ez5_ => ?_)
    rw [hQ]
    exact W.iret (v := z5_) hx hb hr (fun t ht hW => ⟨⟨z5_, σ, rfl, ⟨rfl, trivial⟩, wEn_of hP (hK.sub [] rfl) hD ht hW⟩, hS.F ht⟩) hS.2.2 dX0_kindAt_25
  · have tc2_ := (show z1_.toInt = (-1) from ti_eq rfl rg_489 c2_)
    refine lv_iconst (v := (-1)) hx hb dX0_kindAt_10 rg_53 ?_
    refine lv_goto (tgt := 25) hx hb dX0_kindAt_11 rfl ?_
    have kk6_ : ((-1) : Int32).toInt = (-1) := rg_489
    rw [hQ]
    exact W.iret (v := (-1)) hx hb hr (fun t ht hW => ⟨⟨(-1), σ, rfl, ⟨rfl, trivial⟩, wEn_of hP (hK.sub [] rfl) hD ht hW⟩, hS.F ht⟩) hS.2.2 dX0_kindAt_25
def ow_k_nAt : List Cond := [.fieldLink RX0 24 "NearEnough$Changes" "taken" "[I", .fieldLink RX0 18 "NearEnough$Changes" "nOf" "[I"]
def vs_k_nAt : List Cond := .code yX0_nAt cX0_nAt 2 (some .int) :: (ow_k_nAt ++ (wsX00))
theorem vg_k_nAt : vs_k_nAt.all goodWord = true := by decide +kernel
theorem dd_k_nAt : yX0_nAt.cls = RX0 ∧ yX0_nAt.cls ≠ "java/lang/invoke/MethodHandle" ∧ yX0_nAt.cls ≠ "java/lang/invoke/VarHandle" ∧ (parseMethodDescriptor yX0_nAt.desc).map (fun d => d.parameters.length) = some 1 := by decide +kernel
def rm_k_nAt : Room := { frames := 0, cells := 0, slots := 0, locals := 0 }
set_option maxHeartbeats 4000000 in
set_option maxRecDepth 100000 in
theorem k_nAt (l : Launch) (dC : Nat → ClassId) (dI : Nat → Nat → Nat) (κ : CE) (sz : Nat) (σ : MS) (x : Int32) (hk : PInv κ) (hI : CInv σ) (hx0 : 0 ≤ x.toInt ∧ x.toInt ≤ 11) : Met l yX0_nAt vs_k_nAt rm_k_nAt (va_Pc [.ref (kA κ 15), .int x] (wSy dC dI (cW κ σ) (cT κ) sz)) (va_Qi (fun (r : Int32) (τ : MS) => τ = σ ∧ (0 ≤ r.toInt ∧ r.toInt ≤ 99)) (fun (τ : MS) => wEn dC dI (va_A (cW κ σ) sz) (cW κ τ) []) (va_A (cW κ σ) sz)) 0 0 (va_A (cW κ σ) sz) := by
  refine Met.ofW (cc := cX0_nAt) (maxL := 2) (ret := (some .int)) (by decide +kernel) rfl ?_
  intro p e s m args below meth c s₁ B hml hv
  obtain ⟨rfl, hsz, hP, hK, hD0, hE⟩ := hv
  have hx := B.exec
  have hb := B.bytes
  have hr := B.returns
  have hts := atoms_spec (ws := vs_k_nAt) B.pre
  have hown : s.vm.findClass RX0 = some m.cls := findClass_of_methodNamed B.named
  have hlocks := B.notSynchronized
  subst hsz
  have hD := hD0.self (sz := s.heap.size)
  generalize hAe : va_A (cW κ σ) s.heap.size = A at hD ⊢
  have hA : ∀ q : Nat, s.heap.size ≤ q → A q := fun q h => by rw [← hAe]; exact Or.inr h
  have hl := lv_entry ([.ref (kA κ 15), .int x]) (n := 2) (Nat.le_of_ble_eq_true rfl)
  rw [lg_entry_eq]
  generalize (lg_sl ([.ref (kA κ 15), .int x]) ++ List.replicate (2 - (lg_sl ([.ref (kA κ 15), .int x])).length) Slot.unset).toArray = ls at hl ⊢
  have hl : lv_has ls 2 [(0, .ref (kA κ 15)), (1, .int x)] := hl
  have ho := fun w (h : w ∈ ow_k_nAt) => hts w (List.mem_cons_of_mem _ (List.mem_append_left _ h))
  have hin0 : ∀ w ∈ u_ws RX0 TX0 7, w ∈ vs_k_nAt := fun w h => (List.mem_cons_of_mem _ (List.mem_append_right _ h))
  refine zQ (fun Q hQ => ?_)
  refine zH (A := A) (ws := (cW κ σ)) (fun H hP hS => ?_) hP
  have hk0 := hk.1
  have hk1 := hk.2.1
  have hk2 := hk.2.2.1
  refine lv_aload_n hx hb dX0_nAt_0 rfl (lv_at hl 0 rfl) ?_
  refine va_get (D := (dC, dI)) (ci := 0) (v := .ref (kA κ 20)) (C := RX0) (T := TX0) (N := 7) hx hb hts hin0 hown hK hP 15 rfl rfl 4 (Nat.le_of_ble_eq_true rfl) (ho (.fieldLink RX0 24 "NearEnough$Changes" "taken" "[I") (List.mem_of_getElem? (i := 0) rfl)) (fun _ h9 => h9) rfl dX0_nAt_1 ?_
  refine lv_iload_n hx hb dX0_nAt_4 rfl (lv_at hl 1 rfl) ?_
  have o1 : 0 ≤ x.toInt := by omega
  have o2 : x.toInt < ((12 : Nat) : Int) := by omega
  refine va_iald hx hb hK hP 20 16 rfl rfl (ti_inx o1 o2) dX0_nAt_5 ?_
  refine lv_topi (fun z1_ ez1_ => ?_)
  have bz1_ : (-1) ≤ z1_.toInt ∧ z1_.toInt ≤ 11 := by rw [ez1_]; exact (hI.2 17) _ (cl_lt (n := 12) o1 o2)
  refine lv_iconst (v := (-1)) hx hb dX0_nAt_6 rg_53 ?_
  refine lv_icmp_ne (tgt := 14) hx hb dX0_nAt_7 rfl (fun c2_ => ?_) (fun c2_ => ?_)
  · have tc2_ := (show z1_.toInt ≠ (-1) from ti_ne rfl rg_489 c2_)
    refine lv_aload_n hx hb dX0_nAt_14 rfl (lv_at hl 0 rfl) ?_
    refine va_get (D := (dC, dI)) (ci := 0) (v := .ref (kA κ 18)) (C := RX0) (T := TX0) (N := 7) hx hb hts hin0 hown hK hP 15 rfl rfl 2 (Nat.le_of_ble_eq_true rfl) (ho (.fieldLink RX0 18 "NearEnough$Changes" "nOf" "[I") (List.mem_of_getElem? (i := 1) rfl)) (fun _ h9 => h9) rfl dX0_nAt_15 ?_
    refine lv_aload_n hx hb dX0_nAt_18 rfl (lv_at hl 0 rfl) ?_
    refine va_get (D := (dC, dI)) (ci := 0) (v := .ref (kA κ 20)) (C := RX0) (T := TX0) (N := 7) hx hb hts hin0 hown hK hP 15 rfl rfl 4 (Nat.le_of_ble_eq_true rfl) (ho (.fieldLink RX0 24 "NearEnough$Changes" "taken" "[I") (List.mem_of_getElem? (i := 0) rfl)) (fun _ h9 => h9) rfl dX0_nAt_19 ?_
    refine lv_iload_n hx hb dX0_nAt_22 rfl (lv_at hl 1 rfl) ?_
    refine va_iald hx hb hK hP 20 16 rfl rfl (ti_inx o1 o2) dX0_nAt_23 ?_
    refine lv_topi (fun z3_ ez3_ => ?_)
    have bz3_ : (-1) ≤ z3_.toInt ∧ z3_.toInt ≤ 11 := by rw [ez3_]; exact (hI.2 17) _ (cl_lt (n := 12) o1 o2)
    have qq4_ : z3_.toInt = z1_.toInt := congrArg Int32.toInt (ez3_.trans ez1_.symm)
    have o3 : 0 ≤ z3_.toInt := by omega
    have o4 : z3_.toInt < ((12 : Nat) : Int) := by omega
    refine va_iald hx hb hK hP 18 14 rfl rfl (ti_inx o3 o4) dX0_nAt_24 ?_
    refine lv_topi (fun z5_ ez5_ => ?_)
    have bz5_ : 0 ≤ z5_.toInt ∧ z5_.toInt ≤ 99 := by rw [ez5_]; exact (hI.2 15) _ (cl_lt (n := 12) o3 o4)
    have o5 : 0 ≤ z5_.toInt := by omega
    have o6 : z5_.toInt ≤ 99 := by omega
    rw [hQ]
    exact W.iret (v := z5_) hx hb hr (fun t ht hW => ⟨⟨z5_, σ, rfl, ⟨rfl, ⟨o5, o6⟩⟩, wEn_of hP (hK.sub [] rfl) hD ht hW⟩, hS.F ht⟩) hS.2.2 dX0_nAt_25
  · have tc2_ := (show z1_.toInt = (-1) from ti_eq rfl rg_489 c2_)
    refine lv_iconst (v := 0) hx hb dX0_nAt_10 rg_0 ?_
    refine lv_goto (tgt := 25) hx hb dX0_nAt_11 rfl ?_
    have kk6_ : (0 : Int32).toInt = 0 := rg_11
    have o7 : 0 ≤ (0 : Int32).toInt := by omega
    have o8 : (0 : Int32).toInt ≤ 99 := by omega
    rw [hQ]
    exact W.iret (v := 0) hx hb hr (fun t ht hW => ⟨⟨0, σ, rfl, ⟨rfl, ⟨o7, o8⟩⟩, wEn_of hP (hK.sub [] rfl) hD ht hW⟩, hS.F ht⟩) hS.2.2 dX0_nAt_25
def ow_k_savedBy : List Cond := [.fieldLink RX0 27 "NearEnough$Changes" "count" "I", .fieldLink RX0 21 "NearEnough$Changes" "savesOf" "[I"]
def vs_k_savedBy : List Cond := .code yX0_savedBy cX0_savedBy 4 (some .int) :: (ow_k_savedBy ++ (wsX00))
theorem vg_k_savedBy : vs_k_savedBy.all goodWord = true := by decide +kernel
theorem dd_k_savedBy : yX0_savedBy.cls = RX0 ∧ yX0_savedBy.cls ≠ "java/lang/invoke/MethodHandle" ∧ yX0_savedBy.cls ≠ "java/lang/invoke/VarHandle" ∧ (parseMethodDescriptor yX0_savedBy.desc).map (fun d => d.parameters.length) = some 1 := by decide +kernel
def rm_k_savedBy : Room := { frames := 0, cells := 0, slots := 0, locals := 0 }
set_option maxHeartbeats 4000000 in
set_option maxRecDepth 100000 in
theorem k_savedBy (l : Launch) (dC : Nat → ClassId) (dI : Nat → Nat → Nat) (κ : CE) (sz : Nat) (σ : MS) (x : Int32) (hk : PInv κ) (hI : CInv σ)  : Met l yX0_savedBy vs_k_savedBy rm_k_savedBy (va_Pc [.ref (kA κ 15), .int x] (wSy dC dI (cW κ σ) (cT κ) sz)) (va_Qi (fun (r : Int32) (τ : MS) => τ = σ ∧ True) (fun (τ : MS) => wEn dC dI (va_A (cW κ σ) sz) (cW κ τ) []) (va_A (cW κ σ) sz)) 0 0 (va_A (cW κ σ) sz) := by
  refine Met.ofW (cc := cX0_savedBy) (maxL := 4) (ret := (some .int)) (by decide +kernel) rfl ?_
  intro p e s m args below meth c s₁ B hml hv
  obtain ⟨rfl, hsz, hP, hK, hD0, hE⟩ := hv
  have hx := B.exec
  have hb := B.bytes
  have hr := B.returns
  have hts := atoms_spec (ws := vs_k_savedBy) B.pre
  have hown : s.vm.findClass RX0 = some m.cls := findClass_of_methodNamed B.named
  have hlocks := B.notSynchronized
  subst hsz
  have hD := hD0.self (sz := s.heap.size)
  generalize hAe : va_A (cW κ σ) s.heap.size = A at hD ⊢
  have hA : ∀ q : Nat, s.heap.size ≤ q → A q := fun q h => by rw [← hAe]; exact Or.inr h
  have hl := lv_entry ([.ref (kA κ 15), .int x]) (n := 4) (Nat.le_of_ble_eq_true rfl)
  rw [lg_entry_eq]
  generalize (lg_sl ([.ref (kA κ 15), .int x]) ++ List.replicate (4 - (lg_sl ([.ref (kA κ 15), .int x])).length) Slot.unset).toArray = ls at hl ⊢
  have hl : lv_has ls 4 [(0, .ref (kA κ 15)), (1, .int x)] := hl
  have ho := fun w (h : w ∈ ow_k_savedBy) => hts w (List.mem_cons_of_mem _ (List.mem_append_left _ h))
  have hin0 : ∀ w ∈ u_ws RX0 TX0 7, w ∈ vs_k_savedBy := fun w h => (List.mem_cons_of_mem _ (List.mem_append_right _ h))
  refine zQ (fun Q hQ => ?_)
  refine zH (A := A) (ws := (cW κ σ)) (fun H hP hS => ?_) hP
  have hk0 := hk.1
  have hk1 := hk.2.1
  have hk2 := hk.2.2.1
  refine lv_iconst (v := 0) hx hb dX0_savedBy_0 rg_0 ?_
  refine lv_istore_n (lv' := [(2, .int 0), (0, .ref (kA κ 15)), (1, .int x)]) hx hb dX0_savedBy_1 rfl hl (Nat.le_of_ble_eq_true rfl) rfl (fun ls hl => ?_)
  refine lv_iconst (v := 0) hx hb dX0_savedBy_2 rg_0 ?_
  refine lv_istore_n (lv' := [(3, .int 0), (2, .int 0), (0, .ref (kA κ 15)), (1, .int x)]) hx hb dX0_savedBy_3 rfl hl (Nat.le_of_ble_eq_true rfl) rfl (fun ls hl => ?_)
  have pt4_ : ∀ (n4_ : Nat) (v2_ : Int32) (v3_ : Int32) (H : Heap) (locs : List Loc) (ls : Array Slot), (12 - v3_.toInt).toNat < n4_ → (0 ≤ v3_.toInt) → va_P (dC, dI) vwCl (cW κ σ) H → va_D A (cW κ σ) → va_S A s.heap H locs → lv_has ls 4 [(2, .int v2_), (3, .int v3_), (0, .ref (kA κ 15)), (1, .int x)] → W p l e (headSpec vs_k_savedBy rm_k_savedBy).room s m #[Value.ref (kA κ 15), Value.int x] below meth c H locs 0 0 Q (F0 m 4 ls []) := by
    intro n4_
    induction n4_ with
    | zero => intro v2_ v3_ H locs ls hn4_ hf4_0_ hP hD hS hl; exact absurd hn4_ (Nat.not_lt_zero _)
    | succ n4_ ih4_ =>
      intro v2_ v3_ H locs ls hn4_ hf4_0_ hP hD hS hl
      refine lv_iload_n hx hb dX0_savedBy_4 rfl (lv_at hl 1 rfl) ?_
      refine lv_aload_n hx hb dX0_savedBy_5 rfl (lv_at hl 2 rfl) ?_
      have bσ_18 : 0 ≤ (σ.1 18).toInt ∧ (σ.1 18).toInt ≤ 12 := hI.1 18
      refine va_get (D := (dC, dI)) (ci := 0) (v := .int (σ.1 18)) (C := RX0) (T := TX0) (N := 7) hx hb hts hin0 hown hK hP 15 rfl rfl 5 (Nat.le_of_ble_eq_true rfl) (ho (.fieldLink RX0 27 "NearEnough$Changes" "count" "I") (List.mem_of_getElem? (i := 0) rfl)) (fun _ h9 => h9) rfl dX0_savedBy_6 ?_
      refine lv_icmp_ge (tgt := 35) hx hb dX0_savedBy_9 rfl (fun c1_ => ?_) (fun c1_ => ?_)
      · have tc1_ := (show (σ.1 18).toInt ≤ v3_.toInt from ti_le rfl rfl c1_)
        refine lv_iload_n hx hb dX0_savedBy_35 rfl (lv_at hl 0 rfl) ?_
        rw [hQ]
        exact W.iret (v := v2_) hx hb hr (fun t ht hW => ⟨⟨v2_, σ, rfl, ⟨rfl, trivial⟩, wEn_of hP (hK.sub [] rfl) hD ht hW⟩, hS.F ht⟩) hS.2.2 dX0_savedBy_36
      · have tc1_ := (show v3_.toInt < (σ.1 18).toInt from ti_nle rfl rfl c1_)
        refine lv_iload_n hx hb dX0_savedBy_12 rfl (lv_at hl 3 rfl) ?_
        refine lv_iload_n hx hb dX0_savedBy_13 rfl (lv_at hl 1 rfl) ?_
        refine lv_ishr hx hb dX0_savedBy_14 ?_
        refine lv_topi (fun z2_ ez2_ => ?_)
        refine lv_iconst (v := 1) hx hb dX0_savedBy_15 rg_6 ?_
        refine lv_iand hx hb dX0_savedBy_16 ?_
        refine lv_topi (fun z3_ ez3_ => ?_)
        refine lv_if_eq (tgt := 29) hx hb dX0_savedBy_17 rfl (fun c4_ => ?_) (fun c4_ => ?_)
        · have tc4_ := (show z3_.toInt = 0 from ti_eq rfl rg_11 c4_)
          obtain ⟨z5_, ez5_⟩ : ∃ y : Int32, y = v3_ + 1 := ⟨_, rfl⟩
          have o1 : -2147483648 ≤ v3_.toInt + 1 := by omega
          have o2 : v3_.toInt + 1 ≤ 2147483647 := by omega
          have tz5_ := ti_add ez5_ rfl rg_18 o1 o2
          refine lv_iinc (v := z5_) (lv' := [(3, .int z5_), (2, .int v2_), (0, .ref (kA κ 15)), (1, .int x)]) hx hb dX0_savedBy_29 hl (k := 1) rfl (iincp ez5_ rg_6) (Nat.le_of_ble_eq_true rfl) rfl (fun ls hl => ?_)
          refine lv_goto (tgt := 4) hx hb dX0_savedBy_32 rfl ?_
          have o3 : (12 - z5_.toInt).toNat < n4_ := by omega
          have o4 : 0 ≤ z5_.toInt := by omega
          exact ih4_  v2_ z5_ _ _ _ o3 o4 hP hD hS (lv_sub hl [1, 0, 2, 3] rfl)
        · have tc4_ := (show z3_.toInt ≠ 0 from ti_ne rfl rg_11 c4_)
          refine lv_iload_n hx hb dX0_savedBy_20 rfl (lv_at hl 0 rfl) ?_
          refine lv_aload_n hx hb dX0_savedBy_21 rfl (lv_at hl 2 rfl) ?_
          refine va_get (D := (dC, dI)) (ci := 0) (v := .ref (kA κ 19)) (C := RX0) (T := TX0) (N := 7) hx hb hts hin0 hown hK hP 15 rfl rfl 3 (Nat.le_of_ble_eq_true rfl) (ho (.fieldLink RX0 21 "NearEnough$Changes" "savesOf" "[I") (List.mem_of_getElem? (i := 1) rfl)) (fun _ h9 => h9) rfl dX0_savedBy_22 ?_
          refine lv_iload_n hx hb dX0_savedBy_25 rfl (lv_at hl 1 rfl) ?_
          have o5 : 0 ≤ v3_.toInt := by omega
          have o6 : v3_.toInt < ((12 : Nat) : Int) := by omega
          refine va_iald hx hb hK hP 19 15 rfl rfl (ti_inx o5 o6) dX0_savedBy_26 ?_
          refine lv_topi (fun z6_ ez6_ => ?_)
          refine lv_iadd hx hb dX0_savedBy_27 ?_
          refine lv_topi (fun z7_ ez7_ => ?_)
          refine lv_istore_n (lv' := [(2, .int z7_), (3, .int v3_), (0, .ref (kA κ 15)), (1, .int x)]) hx hb dX0_savedBy_28 rfl hl (Nat.le_of_ble_eq_true rfl) rfl (fun ls hl => ?_)
          obtain ⟨z8_, ez8_⟩ : ∃ y : Int32, y = v3_ + 1 := ⟨_, rfl⟩
          have o7 : -2147483648 ≤ v3_.toInt + 1 := by omega
          have o8 : v3_.toInt + 1 ≤ 2147483647 := by omega
          have tz8_ := ti_add ez8_ rfl rg_18 o7 o8
          refine lv_iinc (v := z8_) (lv' := [(3, .int z8_), (2, .int z7_), (0, .ref (kA κ 15)), (1, .int x)]) hx hb dX0_savedBy_29 hl (k := 1) rfl (iincp ez8_ rg_6) (Nat.le_of_ble_eq_true rfl) rfl (fun ls hl => ?_)
          refine lv_goto (tgt := 4) hx hb dX0_savedBy_32 rfl ?_
          have o9 : (12 - z8_.toInt).toNat < n4_ := by omega
          have o10 : 0 ≤ z8_.toInt := by omega
          exact ih4_  z7_ z8_ _ _ _ o9 o10 hP hD hS (lv_sub hl [1, 0, 2, 3] rfl)
  have kk9_ : (0 : Int32).toInt = 0 := rg_11
  have kk10_ : (0 : Int32).toInt = 0 := rg_11
  have o11 : 0 ≤ (0 : Int32).toInt := by omega
  exact pt4_ _  0 0 _ _ _ (Nat.lt_succ_self _) o11 hP hD hS (lv_sub hl [1, 0, 2, 3] rfl)
def ow_k_takes : List Cond := [.methodLink RX0 57 Lib.Math.min.name, .static Lib.Math.min.name, .initialized "java/lang/Math", .code Lib.Math.min.name Lib.Math.min.code 2 (some .int)]
def vs_k_takes : List Cond := .code yX0_takes cX0_takes 5 (some .int) :: (ow_k_takes ++ (([.methodLink RX0 50 yX0_kindAt, .instanceMethod yX0_kindAt, .selects RX0 yX0_kindAt yX0_kindAt, .initialized RX0] : List Cond) ++ (vs_k_kindAt ++ (([.methodLink RX0 54 yX0_nAt, .instanceMethod yX0_nAt, .selects RX0 yX0_nAt yX0_nAt, .initialized RX0] : List Cond) ++ (vs_k_nAt)))))
theorem vg_k_takes : vs_k_takes.all goodWord = true := by decide +kernel
theorem dd_k_takes : yX0_takes.cls = RX0 ∧ yX0_takes.cls ≠ "java/lang/invoke/MethodHandle" ∧ yX0_takes.cls ≠ "java/lang/invoke/VarHandle" ∧ (parseMethodDescriptor yX0_takes.desc).map (fun d => d.parameters.length) = some 2 := by decide +kernel
def rm_k_takes : Room := { frames := 1, cells := 0, slots := 0, locals := 24 }
theorem gd_k_takes_50_k_kindAt : GoodIn vs_k_takes (wsV RX0 50 RX0 yX0_kindAt vs_k_kindAt) := goodIn_app (goodIn_sub (fun w h => (List.mem_cons_of_mem _ (List.mem_append_right _ (List.mem_append_left _ h)))) (by decide +kernel)) (goodIn_sub (fun w h => (List.mem_cons_of_mem _ (List.mem_append_right _ (List.mem_append_right _ (List.mem_append_left _ h))))) vg_k_kindAt)
theorem gd_k_takes_54_k_nAt : GoodIn vs_k_takes (wsV RX0 54 RX0 yX0_nAt vs_k_nAt) := goodIn_app (goodIn_sub (fun w h => (List.mem_cons_of_mem _ (List.mem_append_right _ (List.mem_append_right _ (List.mem_append_right _ (List.mem_append_left _ h)))))) (by decide +kernel)) (goodIn_sub (fun w h => (List.mem_cons_of_mem _ (List.mem_append_right _ (List.mem_append_right _ (List.mem_append_right _ (List.mem_append_right _ h)))))) vg_k_nAt)
set_option maxHeartbeats 4000000 in
set_option maxRecDepth 100000 in
theorem k_takes (l : Launch) (dC : Nat → ClassId) (dI : Nat → Nat → Nat) (κ : CE) (sz : Nat) (σ : MS) (x : Int32) (y : Int32) (hk : PInv κ) (hI : CInv σ) (hx0 : 0 ≤ x.toInt ∧ x.toInt ≤ 11) : Met l yX0_takes vs_k_takes rm_k_takes (va_Pc [.ref (kA κ 15), .int x, .int y] (wSy dC dI (cW κ σ) (cT κ) sz)) (va_Qi (fun (r : Int32) (τ : MS) => τ = σ ∧ True) (fun (τ : MS) => wEn dC dI (va_A (cW κ σ) sz) (cW κ τ) []) (va_A (cW κ σ) sz)) 0 0 (va_A (cW κ σ) sz) := by
  refine Met.ofW (cc := cX0_takes) (maxL := 5) (ret := (some .int)) (by decide +kernel) rfl ?_
  intro p e s m args below meth c s₁ B hml hv
  obtain ⟨rfl, hsz, hP, hK, hD0, hE⟩ := hv
  have hx := B.exec
  have hb := B.bytes
  have hr := B.returns
  have hts := atoms_spec (ws := vs_k_takes) B.pre
  have hown : s.vm.findClass RX0 = some m.cls := findClass_of_methodNamed B.named
  have hlocks := B.notSynchronized
  subst hsz
  have hD := hD0.self (sz := s.heap.size)
  generalize hAe : va_A (cW κ σ) s.heap.size = A at hD ⊢
  have hA : ∀ q : Nat, s.heap.size ≤ q → A q := fun q h => by rw [← hAe]; exact Or.inr h
  have hl := lv_entry ([.ref (kA κ 15), .int x, .int y]) (n := 5) (Nat.le_of_ble_eq_true rfl)
  rw [lg_entry_eq]
  generalize (lg_sl ([.ref (kA κ 15), .int x, .int y]) ++ List.replicate (5 - (lg_sl ([.ref (kA κ 15), .int x, .int y])).length) Slot.unset).toArray = ls at hl ⊢
  have hl : lv_has ls 5 [(0, .ref (kA κ 15)), (1, .int x), (2, .int y)] := hl
  have ho := fun w (h : w ∈ ow_k_takes) => hts w (List.mem_cons_of_mem _ (List.mem_append_left _ h))
  refine zQ (fun Q hQ => ?_)
  refine zH (A := A) (ws := (cW κ σ)) (fun H hP hS => ?_) hP
  have hk0 := hk.1
  have hk1 := hk.2.1
  have hk2 := hk.2.2.1
  refine lv_aload_n hx hb dX0_takes_0 rfl (lv_at hl 0 rfl) ?_
  refine lv_iload_n hx hb dX0_takes_1 rfl (lv_at hl 1 rfl) ?_
  have o1 : 0 ≤ x.toInt := by omega
  have o2 : x.toInt ≤ 11 := by omega
  refine zy_i (va_runV (As := [.int x]) (rest := []) ⟨hx, hb, hml, hown, hts⟩ (k_kindAt l dC dI κ H.size σ x hk hI ⟨o1, o2⟩) (cwV 1 hts gd_k_takes_50_k_kindAt rfl rfl rfl dd_k_kindAt ⟨Nat.le_of_ble_eq_true rfl, Nat.le_of_ble_eq_true rfl⟩) (preVy hP hK hD hE (ci := 0) (q0 := 15) rfl rfl) rfl rfl hl.1 rfl (lv_room (Nat.le_of_ble_eq_true rfl)) dX0_takes_2 ⟨Nat.le_of_ble_eq_true rfl, Nat.le_of_ble_eq_true rfl⟩) hD hS hA (fun z1_ τ2_ H locs hq hP hD hS => ?_)
  obtain ⟨hτ2_, q3_⟩ := hq
  rw [hτ2_] at hP hD
  refine W.widen (k := 0) (n := 0) (Nat.le_of_ble_eq_true rfl) (Nat.le_of_ble_eq_true rfl) ?_
  refine lv_istore_n (lv' := [(3, .int z1_), (0, .ref (kA κ 15)), (1, .int x), (2, .int y)]) hx hb dX0_takes_5 rfl hl (Nat.le_of_ble_eq_true rfl) rfl (fun ls hl => ?_)
  refine lv_aload_n hx hb dX0_takes_6 rfl (lv_at hl 1 rfl) ?_
  refine lv_iload_n hx hb dX0_takes_7 rfl (lv_at hl 2 rfl) ?_
  refine zy_i (va_runV (As := [.int x]) (rest := []) ⟨hx, hb, hml, hown, hts⟩ (k_nAt l dC dI κ H.size σ x hk hI ⟨o1, o2⟩) (cwV 1 hts gd_k_takes_54_k_nAt rfl rfl rfl dd_k_nAt ⟨Nat.le_of_ble_eq_true rfl, Nat.le_of_ble_eq_true rfl⟩) (preVy hP hK hD hE (ci := 0) (q0 := 15) rfl rfl) rfl rfl hl.1 rfl (lv_room (Nat.le_of_ble_eq_true rfl)) dX0_takes_8 ⟨Nat.le_of_ble_eq_true rfl, Nat.le_of_ble_eq_true rfl⟩) hD hS hA (fun z4_ τ5_ H locs hq hP hD hS => ?_)
  obtain ⟨hτ5_, q6_⟩ := hq
  rw [hτ5_] at hP hD
  have q6_ : 0 ≤ z4_.toInt ∧ z4_.toInt ≤ 99 := q6_
  refine W.widen (k := 0) (n := 0) (Nat.le_of_ble_eq_true rfl) (Nat.le_of_ble_eq_true rfl) ?_
  refine lv_istore (lv' := [(4, .int z4_), (3, .int z1_), (0, .ref (kA κ 15)), (1, .int x), (2, .int y)]) hx hb dX0_takes_11 hl (Nat.le_of_ble_eq_true rfl) rfl (fun ls hl => ?_)
  refine lv_iload_n hx hb dX0_takes_13 rfl (lv_at hl 1 rfl) ?_
  refine lv_if_ne (tgt := 32) hx hb dX0_takes_14 rfl (fun c7_ => ?_) (fun c7_ => ?_)
  · have tc7_ := (show z1_.toInt ≠ 0 from ti_ne rfl rg_11 c7_)
    refine lv_iload_n hx hb dX0_takes_32 rfl (lv_at hl 1 rfl) ?_
    refine lv_iconst (v := 5) hx hb dX0_takes_33 rg_14 ?_
    refine lv_icmp_ne (tgt := 46) hx hb dX0_takes_34 rfl (fun c8_ => ?_) (fun c8_ => ?_)
    · have tc8_ := (show z1_.toInt ≠ 5 from ti_ne rfl rg_15 c8_)
      refine lv_iload_n hx hb dX0_takes_46 rfl (lv_at hl 4 rfl) ?_
      rw [hQ]
      exact W.iret (v := y) hx hb hr (fun t ht hW => ⟨⟨y, σ, rfl, ⟨rfl, trivial⟩, wEn_of hP (hK.sub [] rfl) hD ht hW⟩, hS.F ht⟩) hS.2.2 dX0_takes_47
    · have tc8_ := (show z1_.toInt = 5 from ti_eq rfl rg_15 c8_)
      refine lv_iload hx hb dX0_takes_37 (lv_at hl 0 rfl) ?_
      refine lv_iload_n hx hb dX0_takes_39 rfl (lv_at hl 4 rfl) ?_
      refine va_mmin hx hb (hml.trans hl.1.symm) hown (ho (.methodLink RX0 57 Lib.Math.min.name) (List.mem_of_getElem? (i := 0) rfl)) (ho (.static Lib.Math.min.name) (List.mem_of_getElem? (i := 1) rfl)) (ho (.initialized "java/lang/Math") (List.mem_of_getElem? (i := 2) rfl)) (ho (.code Lib.Math.min.name Lib.Math.min.code 2 (some .int)) (List.mem_of_getElem? (i := 3) rfl)) (Nat.le_of_ble_eq_true rfl) (Nat.le_of_ble_eq_true rfl) (Nat.le_of_ble_eq_true rfl) (Nat.le_of_ble_eq_true rfl) dX0_takes_40 ?_
      refine lv_topi (fun z9_ ez9_ => ?_)
      have mz9_ := imin_ok ez9_
      refine lv_goto (tgt := 47) hx hb dX0_takes_43 rfl ?_
      rw [hQ]
      exact W.iret (v := z9_) hx hb hr (fun t ht hW => ⟨⟨z9_, σ, rfl, ⟨rfl, trivial⟩, wEn_of hP (hK.sub [] rfl) hD ht hW⟩, hS.F ht⟩) hS.2.2 dX0_takes_47
  · have tc7_ := (show z1_.toInt = 0 from ti_eq rfl rg_11 c7_)
    refine lv_iload hx hb dX0_takes_17 (lv_at hl 0 rfl) ?_
    refine lv_if_le (tgt := 32) hx hb dX0_takes_19 rfl (fun c10_ => ?_) (fun c10_ => ?_)
    · have tc10_ := (show z4_.toInt ≤ 0 from ti_le rfl rg_11 c10_)
      refine lv_iload_n hx hb dX0_takes_32 rfl (lv_at hl 1 rfl) ?_
      refine lv_iconst (v := 5) hx hb dX0_takes_33 rg_14 ?_
      refine lv_icmp_ne (tgt := 46) hx hb dX0_takes_34 rfl (fun c11_ => ?_) (fun c11_ => ?_)
      · have tc11_ := (show z1_.toInt ≠ 5 from ti_ne rfl rg_15 c11_)
        refine lv_iload_n hx hb dX0_takes_46 rfl (lv_at hl 4 rfl) ?_
        rw [hQ]
        exact W.iret (v := y) hx hb hr (fun t ht hW => ⟨⟨y, σ, rfl, ⟨rfl, trivial⟩, wEn_of hP (hK.sub [] rfl) hD ht hW⟩, hS.F ht⟩) hS.2.2 dX0_takes_47
      · have tc11_ := (show z1_.toInt = 5 from ti_eq rfl rg_15 c11_)
        refine lv_iload hx hb dX0_takes_37 (lv_at hl 0 rfl) ?_
        refine lv_iload_n hx hb dX0_takes_39 rfl (lv_at hl 4 rfl) ?_
        refine va_mmin hx hb (hml.trans hl.1.symm) hown (ho (.methodLink RX0 57 Lib.Math.min.name) (List.mem_of_getElem? (i := 0) rfl)) (ho (.static Lib.Math.min.name) (List.mem_of_getElem? (i := 1) rfl)) (ho (.initialized "java/lang/Math") (List.mem_of_getElem? (i := 2) rfl)) (ho (.code Lib.Math.min.name Lib.Math.min.code 2 (some .int)) (List.mem_of_getElem? (i := 3) rfl)) (Nat.le_of_ble_eq_true rfl) (Nat.le_of_ble_eq_true rfl) (Nat.le_of_ble_eq_true rfl) (Nat.le_of_ble_eq_true rfl) dX0_takes_40 ?_
        refine lv_topi (fun z12_ ez12_ => ?_)
        have mz12_ := imin_ok ez12_
        refine lv_goto (tgt := 47) hx hb dX0_takes_43 rfl ?_
        rw [hQ]
        exact W.iret (v := z12_) hx hb hr (fun t ht hW => ⟨⟨z12_, σ, rfl, ⟨rfl, trivial⟩, wEn_of hP (hK.sub [] rfl) hD ht hW⟩, hS.F ht⟩) hS.2.2 dX0_takes_47
    · have tc10_ := (show 0 < z4_.toInt from ti_nle rfl rg_11 c10_)
      refine lv_iload_n hx hb dX0_takes_22 rfl (lv_at hl 4 rfl) ?_
      refine lv_iload hx hb dX0_takes_23 (lv_at hl 0 rfl) ?_
      refine lv_iadd hx hb dX0_takes_25 ?_
      refine lv_topi (fun z13_ ez13_ => ?_)
      refine lv_iconst (v := 1) hx hb dX0_takes_26 rg_6 ?_
      refine lv_isub hx hb dX0_takes_27 ?_
      refine lv_topi (fun z14_ ez14_ => ?_)
      refine lv_iload hx hb dX0_takes_28 (lv_at hl 0 rfl) ?_
      have o3 : z4_.toInt ≠ 0 := by omega
      refine lv_idiv hx hb dX0_takes_30 (ne0i o3) ?_
      refine lv_topi (fun z15_ ez15_ => ?_)
      rw [hQ]
      exact W.iret (v := z15_) hx hb hr (fun t ht hW => ⟨⟨z15_, σ, rfl, ⟨rfl, trivial⟩, wEn_of hP (hK.sub [] rfl) hD ht hW⟩, hS.F ht⟩) hS.2.2 dX0_takes_31
def ow_k_clear : List Cond := [.fieldLink RX0 27 "NearEnough$Changes" "count" "I"]
def vs_k_clear : List Cond := .code yX0_clear cX0_clear 1 none :: (ow_k_clear ++ (([.methodLink RX0 34 yX0_take, .instanceMethod yX0_take, .selects RX0 yX0_take yX0_take, .initialized RX0] : List Cond) ++ (vs_k_take ++ (wsX00))))
theorem vg_k_clear : vs_k_clear.all goodWord = true := by decide +kernel
theorem dd_k_clear : yX0_clear.cls = RX0 ∧ yX0_clear.cls ≠ "java/lang/invoke/MethodHandle" ∧ yX0_clear.cls ≠ "java/lang/invoke/VarHandle" ∧ (parseMethodDescriptor yX0_clear.desc).map (fun d => d.parameters.length) = some 0 := by decide +kernel
def rm_k_clear : Room := { frames := 2, cells := 0, slots := 0, locals := 45 }
theorem gd_k_clear_34_k_take : GoodIn vs_k_clear (wsV RX0 34 RX0 yX0_take vs_k_take) := goodIn_app (goodIn_sub (fun w h => (List.mem_cons_of_mem _ (List.mem_append_right _ (List.mem_append_left _ h)))) (by decide +kernel)) (goodIn_sub (fun w h => (List.mem_cons_of_mem _ (List.mem_append_right _ (List.mem_append_right _ (List.mem_append_left _ h))))) vg_k_take)
set_option maxHeartbeats 4000000 in
set_option maxRecDepth 100000 in
theorem k_clear (l : Launch) (dC : Nat → ClassId) (dI : Nat → Nat → Nat) (κ : CE) (sz : Nat) (σ : MS) (hk : PInv κ) (hI : CInv σ)  : Met l yX0_clear vs_k_clear rm_k_clear (va_Pc [.ref (kA κ 15)] (wSy dC dI (cW κ σ) (cT κ) sz)) (va_Qv (fun (τ : MS) => CInv τ ∧ True) (fun (τ : MS) => wEn dC dI (va_A (cW κ σ) sz) (cW κ τ) []) (va_A (cW κ σ) sz)) 0 0 (va_A (cW κ σ) sz) := by
  refine Met.ofW (cc := cX0_clear) (maxL := 1) (ret := none) (by decide +kernel) rfl ?_
  intro p e s m args below meth c s₁ B hml hv
  obtain ⟨rfl, hsz, hP, hK, hD0, hE⟩ := hv
  have hx := B.exec
  have hb := B.bytes
  have hr := B.returns
  have hts := atoms_spec (ws := vs_k_clear) B.pre
  have hown : s.vm.findClass RX0 = some m.cls := findClass_of_methodNamed B.named
  have hlocks := B.notSynchronized
  subst hsz
  have hD := hD0.self (sz := s.heap.size)
  generalize hAe : va_A (cW κ σ) s.heap.size = A at hD ⊢
  have hA : ∀ q : Nat, s.heap.size ≤ q → A q := fun q h => by rw [← hAe]; exact Or.inr h
  have hl := lv_entry ([.ref (kA κ 15)]) (n := 1) (Nat.le_of_ble_eq_true rfl)
  rw [lg_entry_eq]
  generalize (lg_sl ([.ref (kA κ 15)]) ++ List.replicate (1 - (lg_sl ([.ref (kA κ 15)])).length) Slot.unset).toArray = ls at hl ⊢
  have hl : lv_has ls 1 [(0, .ref (kA κ 15))] := hl
  have ho := fun w (h : w ∈ ow_k_clear) => hts w (List.mem_cons_of_mem _ (List.mem_append_left _ h))
  have hin0 : ∀ w ∈ u_ws RX0 TX0 7, w ∈ vs_k_clear := fun w h => (List.mem_cons_of_mem _ (List.mem_append_right _ (List.mem_append_right _ (List.mem_append_right _ h))))
  refine zQ (fun Q hQ => ?_)
  refine zH (A := A) (ws := (cW κ σ)) (fun H hP hS => ?_) hP
  have hk0 := hk.1
  have hk1 := hk.2.1
  have hk2 := hk.2.2.1
  refine lv_aload_n hx hb dX0_clear_0 rfl (lv_at hl 0 rfl) ?_
  refine lv_iconst (v := 0) hx hb dX0_clear_1 rg_0 ?_
  refine va_put (D := (dC, dI)) (ci := 0) (v := .int 0) (ty := tyX0 5) (C := RX0) (T := TX0) (N := 7) hx hb hts hin0 tyX0 tyX0_ok nmX0 hown hK hP hD hS 15 rfl rfl 5 (Nat.le_of_ble_eq_true rfl) (ho (.fieldLink RX0 27 "NearEnough$Changes" "count" "I") (List.mem_of_getElem? (i := 0) rfl)) (fun _ h9 => h9) rfl (tyX0_ok 5 (Nat.le_of_ble_eq_true rfl)) rfl rfl (Nat.le_of_ble_eq_true rfl) dX0_clear_2 (fun H locs hP hD hS => ?_)
  have hP : va_P (dC, dI) vwCl (cW κ (sI σ 18 0)) H := hP
  have hD : va_D A (cW κ (sI σ 18 0)) := hD
  refine lv_aload_n hx hb dX0_clear_5 rfl (lv_at hl 0 rfl) ?_
  refine lv_iconst (v := 0) hx hb dX0_clear_6 rg_0 ?_
  have kk1_ : (0 : Int32).toInt = 0 := rg_11
  refine zy_i (va_runV (As := [.int 0]) (rest := []) ⟨hx, hb, hml, hown, hts⟩ (k_take l dC dI κ H.size (sI σ 18 0) 0 hk (CInv.sI (k := 18) (v := 0) hI rg_458) ) (cwV 1 hts gd_k_clear_34_k_take rfl rfl rfl dd_k_take ⟨Nat.le_of_ble_eq_true rfl, Nat.le_of_ble_eq_true rfl⟩) (preVy hP hK hD hE (ci := 0) (q0 := 15) rfl rfl) rfl rfl hl.1 rfl (lv_room (Nat.le_of_ble_eq_true rfl)) dX0_clear_7 ⟨Nat.le_of_ble_eq_true rfl, Nat.le_of_ble_eq_true rfl⟩) hD hS hA (fun z2_ τ3_ H locs hq hP hD hS => ?_)
  obtain ⟨hτ3_, q4_⟩ := hq
  have q4_ : z2_.toInt = 0 ∨ z2_.toInt = 1 := q4_
  refine W.widen (k := 0) (n := 0) (Nat.le_of_ble_eq_true rfl) (Nat.le_of_ble_eq_true rfl) ?_
  refine lv_pop hx hb dX0_clear_10 rfl ?_
  rw [hQ]
  exact W.vret hx hb hr (fun t ht hW => ⟨⟨τ3_, rfl, ⟨hτ3_, trivial⟩, wEn_of hP (hK.sub [] rfl) hD ht hW⟩, hS.F ht⟩) hS.2.2 dX0_clear_11
def ow_k_add : List Cond := [.fieldLink RX0 9 "NearEnough$Changes" "stepOf" "[I", .fieldLink RX0 27 "NearEnough$Changes" "count" "I", .fieldLink RX0 15 "NearEnough$Changes" "kindOf" "[I", .fieldLink RX0 18 "NearEnough$Changes" "nOf" "[I", .fieldLink RX0 21 "NearEnough$Changes" "savesOf" "[I"]
def vs_k_add : List Cond := .code yX0_add cX0_add 5 (some .int) :: (ow_k_add ++ (wsX00))
theorem vg_k_add : vs_k_add.all goodWord = true := by decide +kernel
theorem dd_k_add : yX0_add.cls = RX0 ∧ yX0_add.cls ≠ "java/lang/invoke/MethodHandle" ∧ yX0_add.cls ≠ "java/lang/invoke/VarHandle" ∧ (parseMethodDescriptor yX0_add.desc).map (fun d => d.parameters.length) = some 4 := by decide +kernel
def rm_k_add : Room := { frames := 0, cells := 0, slots := 0, locals := 0 }
set_option maxHeartbeats 4000000 in
set_option maxRecDepth 100000 in
theorem k_add (l : Launch) (dC : Nat → ClassId) (dI : Nat → Nat → Nat) (κ : CE) (sz : Nat) (σ : MS) (x : Int32) (y : Int32) (z : Int32) (v : Int32) (hk : PInv κ) (hI : CInv σ) (hc : (σ.1 18).toInt < 12) (hx0 : 0 ≤ x.toInt ∧ x.toInt ≤ 11) (hz : 0 ≤ z.toInt ∧ z.toInt ≤ 99) : Met l yX0_add vs_k_add rm_k_add (va_Pc [.ref (kA κ 15), .int x, .int y, .int z, .int v] (wSy dC dI (cW κ σ) (cT κ) sz)) (va_Qi (fun (r : Int32) (τ : MS) => CInv τ ∧ True) (fun (τ : MS) => wEn dC dI (va_A (cW κ σ) sz) (cW κ τ) []) (va_A (cW κ σ) sz)) 0 0 (va_A (cW κ σ) sz) := by
  refine Met.ofW (cc := cX0_add) (maxL := 5) (ret := (some .int)) (by decide +kernel) rfl ?_
  intro p e s m args below meth c s₁ B hml hv
  obtain ⟨rfl, hsz, hP, hK, hD0, hE⟩ := hv
  have hx := B.exec
  have hb := B.bytes
  have hr := B.returns
  have hts := atoms_spec (ws := vs_k_add) B.pre
  have hown : s.vm.findClass RX0 = some m.cls := findClass_of_methodNamed B.named
  have hlocks := B.notSynchronized
  subst hsz
  have hD := hD0.self (sz := s.heap.size)
  generalize hAe : va_A (cW κ σ) s.heap.size = A at hD ⊢
  have hA : ∀ q : Nat, s.heap.size ≤ q → A q := fun q h => by rw [← hAe]; exact Or.inr h
  have hl := lv_entry ([.ref (kA κ 15), .int x, .int y, .int z, .int v]) (n := 5) (Nat.le_of_ble_eq_true rfl)
  rw [lg_entry_eq]
  generalize (lg_sl ([.ref (kA κ 15), .int x, .int y, .int z, .int v]) ++ List.replicate (5 - (lg_sl ([.ref (kA κ 15), .int x, .int y, .int z, .int v])).length) Slot.unset).toArray = ls at hl ⊢
  have hl : lv_has ls 5 [(0, .ref (kA κ 15)), (1, .int x), (2, .int y), (3, .int z), (4, .int v)] := hl
  have ho := fun w (h : w ∈ ow_k_add) => hts w (List.mem_cons_of_mem _ (List.mem_append_left _ h))
  have hin0 : ∀ w ∈ u_ws RX0 TX0 7, w ∈ vs_k_add := fun w h => (List.mem_cons_of_mem _ (List.mem_append_right _ h))
  refine zQ (fun Q hQ => ?_)
  refine zH (A := A) (ws := (cW κ σ)) (fun H hP hS => ?_) hP
  have hk0 := hk.1
  have hk1 := hk.2.1
  have hk2 := hk.2.2.1
  have bσ_18 : 0 ≤ (σ.1 18).toInt ∧ (σ.1 18).toInt ≤ 12 := hI.1 18
  refine lv_aload_n hx hb dX0_add_0 rfl (lv_at hl 0 rfl) ?_
  refine va_get (D := (dC, dI)) (ci := 0) (v := .ref (kA κ 16)) (C := RX0) (T := TX0) (N := 7) hx hb hts hin0 hown hK hP 15 rfl rfl 0 (Nat.le_of_ble_eq_true rfl) (ho (.fieldLink RX0 9 "NearEnough$Changes" "stepOf" "[I") (List.mem_of_getElem? (i := 0) rfl)) (fun _ h9 => h9) rfl dX0_add_1 ?_
  refine lv_aload_n hx hb dX0_add_4 rfl (lv_at hl 0 rfl) ?_
  have bσ_18 : 0 ≤ (σ.1 18).toInt ∧ (σ.1 18).toInt ≤ 12 := hI.1 18
  refine va_get (D := (dC, dI)) (ci := 0) (v := .int (σ.1 18)) (C := RX0) (T := TX0) (N := 7) hx hb hts hin0 hown hK hP 15 rfl rfl 5 (Nat.le_of_ble_eq_true rfl) (ho (.fieldLink RX0 27 "NearEnough$Changes" "count" "I") (List.mem_of_getElem? (i := 1) rfl)) (fun _ h9 => h9) rfl dX0_add_5 ?_
  refine lv_iload_n hx hb dX0_add_8 rfl (lv_at hl 1 rfl) ?_
  have o1 : 0 ≤ (σ.1 18).toInt := by omega
  have o2 : (σ.1 18).toInt < ((12 : Nat) : Int) := by omega
  refine va_iast hx hb hK hP hD hS 16 12 rfl rfl (ti_inx o1 o2) dX0_add_9 (fun H locs hP hD hS => ?_)
  obtain ⟨f1_, ef1_⟩ : ∃ f9 : Nat → Int32, f9 = upd (σ.2.1 13) (Int32.toNatClampNeg (σ.1 18)) x := ⟨_, rfl⟩
  have o3 : 0 ≤ x.toInt := by omega
  have o4 : x.toInt ≤ 11 := by omega
  have rf1_ : ∀ j, j < 12 → (0 : Int) ≤ (f1_ j).toInt ∧ (f1_ j).toInt ≤ 11 := by rw [ef1_]; exact rgu (hI.2 13) ⟨o3, o4⟩
  have hP : va_P (dC, dI) vwCl (cW κ (sA σ 13 f1_)) H := by rw [ef1_]; exact hP
  have hD : va_D A (cW κ (sA σ 13 f1_)) := by rw [ef1_]; exact hD
  refine lv_aload_n hx hb dX0_add_10 rfl (lv_at hl 0 rfl) ?_
  refine va_get (D := (dC, dI)) (ci := 0) (v := .ref (kA κ 17)) (C := RX0) (T := TX0) (N := 7) hx hb hts hin0 hown hK hP 15 rfl rfl 1 (Nat.le_of_ble_eq_true rfl) (ho (.fieldLink RX0 15 "NearEnough$Changes" "kindOf" "[I") (List.mem_of_getElem? (i := 2) rfl)) (fun _ h9 => h9) rfl dX0_add_11 ?_
  refine lv_aload_n hx hb dX0_add_14 rfl (lv_at hl 0 rfl) ?_
  have bσ_18 : 0 ≤ (σ.1 18).toInt ∧ (σ.1 18).toInt ≤ 12 := hI.1 18
  refine va_get (D := (dC, dI)) (ci := 0) (v := .int (σ.1 18)) (C := RX0) (T := TX0) (N := 7) hx hb hts hin0 hown hK hP 15 rfl rfl 5 (Nat.le_of_ble_eq_true rfl) (ho (.fieldLink RX0 27 "NearEnough$Changes" "count" "I") (List.mem_of_getElem? (i := 1) rfl)) (fun _ h9 => h9) rfl dX0_add_15 ?_
  refine lv_iload_n hx hb dX0_add_18 rfl (lv_at hl 2 rfl) ?_
  refine va_iast hx hb hK hP hD hS 17 13 rfl rfl (ti_inx o1 o2) dX0_add_19 (fun H locs hP hD hS => ?_)
  obtain ⟨f2_, ef2_⟩ : ∃ f9 : Nat → Int32, f9 = upd ((sA σ 13 f1_).2.1 14) (Int32.toNatClampNeg (σ.1 18)) y := ⟨_, rfl⟩
  have hP : va_P (dC, dI) vwCl (cW κ (sA (sA σ 13 f1_) 14 f2_)) H := by rw [ef2_]; exact hP
  have hD : va_D A (cW κ (sA (sA σ 13 f1_) 14 f2_)) := by rw [ef2_]; exact hD
  refine lv_aload_n hx hb dX0_add_20 rfl (lv_at hl 0 rfl) ?_
  refine va_get (D := (dC, dI)) (ci := 0) (v := .ref (kA κ 18)) (C := RX0) (T := TX0) (N := 7) hx hb hts hin0 hown hK hP 15 rfl rfl 2 (Nat.le_of_ble_eq_true rfl) (ho (.fieldLink RX0 18 "NearEnough$Changes" "nOf" "[I") (List.mem_of_getElem? (i := 3) rfl)) (fun _ h9 => h9) rfl dX0_add_21 ?_
  refine lv_aload_n hx hb dX0_add_24 rfl (lv_at hl 0 rfl) ?_
  have bσ_18 : 0 ≤ (σ.1 18).toInt ∧ (σ.1 18).toInt ≤ 12 := hI.1 18
  refine va_get (D := (dC, dI)) (ci := 0) (v := .int (σ.1 18)) (C := RX0) (T := TX0) (N := 7) hx hb hts hin0 hown hK hP 15 rfl rfl 5 (Nat.le_of_ble_eq_true rfl) (ho (.fieldLink RX0 27 "NearEnough$Changes" "count" "I") (List.mem_of_getElem? (i := 1) rfl)) (fun _ h9 => h9) rfl dX0_add_25 ?_
  refine lv_iload_n hx hb dX0_add_28 rfl (lv_at hl 3 rfl) ?_
  refine va_iast hx hb hK hP hD hS 18 14 rfl rfl (ti_inx o1 o2) dX0_add_29 (fun H locs hP hD hS => ?_)
  obtain ⟨f3_, ef3_⟩ : ∃ f9 : Nat → Int32, f9 = upd ((sA (sA σ 13 f1_) 14 f2_).2.1 15) (Int32.toNatClampNeg (σ.1 18)) z := ⟨_, rfl⟩
  have o5 : 0 ≤ z.toInt := by omega
  have o6 : z.toInt ≤ 99 := by omega
  have rf3_ : ∀ j, j < 12 → (0 : Int) ≤ (f3_ j).toInt ∧ (f3_ j).toInt ≤ 99 := by rw [ef3_]; exact rgu (hI.2 15) ⟨o5, o6⟩
  have hP : va_P (dC, dI) vwCl (cW κ (sA (sA (sA σ 13 f1_) 14 f2_) 15 f3_)) H := by rw [ef3_]; exact hP
  have hD : va_D A (cW κ (sA (sA (sA σ 13 f1_) 14 f2_) 15 f3_)) := by rw [ef3_]; exact hD
  refine lv_aload_n hx hb dX0_add_30 rfl (lv_at hl 0 rfl) ?_
  refine va_get (D := (dC, dI)) (ci := 0) (v := .ref (kA κ 19)) (C := RX0) (T := TX0) (N := 7) hx hb hts hin0 hown hK hP 15 rfl rfl 3 (Nat.le_of_ble_eq_true rfl) (ho (.fieldLink RX0 21 "NearEnough$Changes" "savesOf" "[I") (List.mem_of_getElem? (i := 4) rfl)) (fun _ h9 => h9) rfl dX0_add_31 ?_
  refine lv_aload_n hx hb dX0_add_34 rfl (lv_at hl 0 rfl) ?_
  have bσ_18 : 0 ≤ (σ.1 18).toInt ∧ (σ.1 18).toInt ≤ 12 := hI.1 18
  refine va_get (D := (dC, dI)) (ci := 0) (v := .int (σ.1 18)) (C := RX0) (T := TX0) (N := 7) hx hb hts hin0 hown hK hP 15 rfl rfl 5 (Nat.le_of_ble_eq_true rfl) (ho (.fieldLink RX0 27 "NearEnough$Changes" "count" "I") (List.mem_of_getElem? (i := 1) rfl)) (fun _ h9 => h9) rfl dX0_add_35 ?_
  refine lv_iload hx hb dX0_add_38 (lv_at hl 4 rfl) ?_
  refine va_iast hx hb hK hP hD hS 19 15 rfl rfl (ti_inx o1 o2) dX0_add_40 (fun H locs hP hD hS => ?_)
  obtain ⟨f4_, ef4_⟩ : ∃ f9 : Nat → Int32, f9 = upd ((sA (sA (sA σ 13 f1_) 14 f2_) 15 f3_).2.1 16) (Int32.toNatClampNeg (σ.1 18)) v := ⟨_, rfl⟩
  have hP : va_P (dC, dI) vwCl (cW κ (sA (sA (sA (sA σ 13 f1_) 14 f2_) 15 f3_) 16 f4_)) H := by rw [ef4_]; exact hP
  have hD : va_D A (cW κ (sA (sA (sA (sA σ 13 f1_) 14 f2_) 15 f3_) 16 f4_)) := by rw [ef4_]; exact hD
  refine lv_aload_n hx hb dX0_add_41 rfl (lv_at hl 0 rfl) ?_
  refine lv_dup hx hb dX0_add_42 rfl ?_
  have bσ_18 : 0 ≤ (σ.1 18).toInt ∧ (σ.1 18).toInt ≤ 12 := hI.1 18
  refine va_get (D := (dC, dI)) (ci := 0) (v := .int (σ.1 18)) (C := RX0) (T := TX0) (N := 7) hx hb hts hin0 hown hK hP 15 rfl rfl 5 (Nat.le_of_ble_eq_true rfl) (ho (.fieldLink RX0 27 "NearEnough$Changes" "count" "I") (List.mem_of_getElem? (i := 1) rfl)) (fun _ h9 => h9) rfl dX0_add_43 ?_
  refine lv_iconst (v := 1) hx hb dX0_add_46 rg_6 ?_
  refine lv_iadd hx hb dX0_add_47 ?_
  refine lv_topi (fun z5_ ez5_ => ?_)
  have o7 : -2147483648 ≤ (σ.1 18).toInt + 1 := by omega
  have o8 : (σ.1 18).toInt + 1 ≤ 2147483647 := by omega
  have tz5_ : z5_.toInt = (σ.1 18).toInt + 1 := ti_add ez5_ rfl rg_18 o7 o8
  refine va_put (D := (dC, dI)) (ci := 0) (v := .int z5_) (ty := tyX0 5) (C := RX0) (T := TX0) (N := 7) hx hb hts hin0 tyX0 tyX0_ok nmX0 hown hK hP hD hS 15 rfl rfl 5 (Nat.le_of_ble_eq_true rfl) (ho (.fieldLink RX0 27 "NearEnough$Changes" "count" "I") (List.mem_of_getElem? (i := 1) rfl)) (fun _ h9 => h9) rfl (tyX0_ok 5 (Nat.le_of_ble_eq_true rfl)) rfl rfl (Nat.le_of_ble_eq_true rfl) dX0_add_48 (fun H locs hP hD hS => ?_)
  have hP : va_P (dC, dI) vwCl (cW κ (sA (sA (sA (sA (sI σ 18 z5_) 13 f1_) 14 f2_) 15 f3_) 16 f4_)) H := hP
  have hD : va_D A (cW κ (sA (sA (sA (sA (sI σ 18 z5_) 13 f1_) 14 f2_) 15 f3_) 16 f4_)) := hD
  refine lv_aload_n hx hb dX0_add_51 rfl (lv_at hl 0 rfl) ?_
  refine va_get (D := (dC, dI)) (ci := 0) (v := .int z5_) (C := RX0) (T := TX0) (N := 7) hx hb hts hin0 hown hK hP 15 rfl rfl 5 (Nat.le_of_ble_eq_true rfl) (ho (.fieldLink RX0 27 "NearEnough$Changes" "count" "I") (List.mem_of_getElem? (i := 1) rfl)) (fun _ h9 => h9) rfl dX0_add_52 ?_
  refine lv_iconst (v := 1) hx hb dX0_add_55 rg_6 ?_
  refine lv_isub hx hb dX0_add_56 ?_
  refine lv_topi (fun z6_ ez6_ => ?_)
  have o9 : -2147483648 ≤ z5_.toInt - 1 := by omega
  have o10 : z5_.toInt - 1 ≤ 2147483647 := by omega
  have tz6_ : z6_.toInt = z5_.toInt - 1 := ti_sub ez6_ rfl rg_18 o9 o10
  have o11 : 0 ≤ z5_.toInt := by omega
  have o12 : z5_.toInt ≤ 12 := by omega
  rw [hQ]
  exact W.iret (v := z6_) hx hb hr (fun t ht hW => ⟨⟨z6_, (sA (sA (sA (sA (sI σ 18 z5_) 13 f1_) 14 f2_) 15 f3_) 16 f4_), rfl, ⟨(CInv.sA (k := 16) (f := f4_) (CInv.sA (k := 15) (f := f3_) (CInv.sA (k := 14) (f := f2_) (CInv.sA (k := 13) (f := f1_) (CInv.sI (k := 18) (v := z5_) hI ⟨o11, o12⟩) rf1_) (fun j _ => Inv.any _)) rf3_) (fun j _ => Inv.any _)), trivial⟩, wEn_of hP (hK.sub [] rfl) hD ht hW⟩, hS.F ht⟩) hS.2.2 dX0_add_57
