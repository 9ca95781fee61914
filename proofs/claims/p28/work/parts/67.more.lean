theorem dX12_guard_0 : decode cX12_guard 0 = .ok (.aload_n 0, 1) := by decide +kernel
theorem dX12_guard_1 : decode cX12_guard 1 = .ok (.iload_n 1, 1) := by decide +kernel
theorem dX12_guard_2 : decode cX12_guard 2 = .ok (.invokevirtual 431, 3) := by decide +kernel
theorem dX12_guard_5 : decode cX12_guard 5 = .ok (.ifCond .eq 30, 3) := by decide +kernel
theorem dX12_guard_35 : decode cX12_guard 35 = .ok (.iconst (-1), 1) := by decide +kernel
theorem dX12_guard_36 : decode cX12_guard 36 = .ok (.ireturn, 1) := by decide +kernel
theorem dX12_guard_8 : decode cX12_guard 8 = .ok (.aload_n 0, 1) := by decide +kernel
theorem dX12_guard_9 : decode cX12_guard 9 = .ok (.iload_n 2, 1) := by decide +kernel
theorem dX12_guard_10 : decode cX12_guard 10 = .ok (.invokevirtual 328, 3) := by decide +kernel
theorem dX12_guard_13 : decode cX12_guard 13 = .ok (.ifCond .eq 22, 3) := by decide +kernel
theorem dX12_guard_16 : decode cX12_guard 16 = .ok (.iload_n 3, 1) := by decide +kernel
theorem dX12_guard_17 : decode cX12_guard 17 = .ok (.iconst 0, 1) := by decide +kernel
theorem dX12_guard_18 : decode cX12_guard 18 = .ok (.sipush 9999, 3) := by decide +kernel
theorem dX12_guard_21 : decode cX12_guard 21 = .ok (.invokestatic 324, 3) := by decide +kernel
theorem dX12_guard_24 : decode cX12_guard 24 = .ok (.ifCond .eq 11, 3) := by decide +kernel
theorem dX12_guard_27 : decode cX12_guard 27 = .ok (.aload_n 0, 1) := by decide +kernel
theorem dX12_guard_28 : decode cX12_guard 28 = .ok (.getfield 255, 3) := by decide +kernel
theorem dX12_guard_31 : decode cX12_guard 31 = .ok (.iconst 4, 1) := by decide +kernel
theorem dX12_guard_32 : decode cX12_guard 32 = .ok (.if_icmp .ne 5, 3) := by decide +kernel
theorem dX12_guard_37 : decode cX12_guard 37 = .ok (.aload_n 0, 1) := by decide +kernel
theorem dX12_guard_38 : decode cX12_guard 38 = .ok (.getfield 116, 3) := by decide +kernel
theorem dX12_guard_41 : decode cX12_guard 41 = .ok (.aload_n 0, 1) := by decide +kernel
theorem dX12_guard_42 : decode cX12_guard 42 = .ok (.getfield 255, 3) := by decide +kernel
theorem dX12_guard_45 : decode cX12_guard 45 = .ok (.iload_n 1, 1) := by decide +kernel
theorem dX12_guard_46 : decode cX12_guard 46 = .ok (.iastore, 1) := by decide +kernel
theorem dX12_guard_47 : decode cX12_guard 47 = .ok (.aload_n 0, 1) := by decide +kernel
theorem dX12_guard_48 : decode cX12_guard 48 = .ok (.getfield 119, 3) := by decide +kernel
theorem dX12_guard_51 : decode cX12_guard 51 = .ok (.aload_n 0, 1) := by decide +kernel
theorem dX12_guard_52 : decode cX12_guard 52 = .ok (.getfield 255, 3) := by decide +kernel
theorem dX12_guard_55 : decode cX12_guard 55 = .ok (.iload_n 2, 1) := by decide +kernel
theorem dX12_guard_56 : decode cX12_guard 56 = .ok (.iastore, 1) := by decide +kernel
theorem dX12_guard_57 : decode cX12_guard 57 = .ok (.aload_n 0, 1) := by decide +kernel
theorem dX12_guard_58 : decode cX12_guard 58 = .ok (.getfield 122, 3) := by decide +kernel
theorem dX12_guard_61 : decode cX12_guard 61 = .ok (.aload_n 0, 1) := by decide +kernel
theorem dX12_guard_62 : decode cX12_guard 62 = .ok (.getfield 255, 3) := by decide +kernel
theorem dX12_guard_65 : decode cX12_guard 65 = .ok (.iload_n 3, 1) := by decide +kernel
theorem dX12_guard_66 : decode cX12_guard 66 = .ok (.iastore, 1) := by decide +kernel
theorem dX12_guard_67 : decode cX12_guard 67 = .ok (.aload_n 0, 1) := by decide +kernel
theorem dX12_guard_68 : decode cX12_guard 68 = .ok (.dup, 1) := by decide +kernel
theorem dX12_guard_69 : decode cX12_guard 69 = .ok (.getfield 255, 3) := by decide +kernel
theorem dX12_guard_72 : decode cX12_guard 72 = .ok (.iconst 1, 1) := by decide +kernel
theorem dX12_guard_73 : decode cX12_guard 73 = .ok (.iadd, 1) := by decide +kernel
theorem dX12_guard_74 : decode cX12_guard 74 = .ok (.putfield 255, 3) := by decide +kernel
theorem dX12_guard_77 : decode cX12_guard 77 = .ok (.aload_n 0, 1) := by decide +kernel
theorem dX12_guard_78 : decode cX12_guard 78 = .ok (.getfield 255, 3) := by decide +kernel
theorem dX12_guard_81 : decode cX12_guard 81 = .ok (.iconst 1, 1) := by decide +kernel
theorem dX12_guard_82 : decode cX12_guard 82 = .ok (.isub, 1) := by decide +kernel
theorem dX12_guard_83 : decode cX12_guard 83 = .ok (.ireturn, 1) := by decide +kernel
theorem dX12_turnsBack_2 : decode cX12_turnsBack 2 = .ok (.iload_n 2, 1) := by decide +kernel
theorem dX12_turnsBack_3 : decode cX12_turnsBack 3 = .ok (.aload_n 0, 1) := by decide +kernel
theorem dX12_turnsBack_4 : decode cX12_turnsBack 4 = .ok (.getfield 255, 3) := by decide +kernel
theorem dX12_turnsBack_7 : decode cX12_turnsBack 7 = .ok (.if_icmp .ge 77, 3) := by decide +kernel
theorem dX12_turnsBack_84 : decode cX12_turnsBack 84 = .ok (.iconst 0, 1) := by decide +kernel
theorem dX12_turnsBack_85 : decode cX12_turnsBack 85 = .ok (.ireturn, 1) := by decide +kernel
theorem dX12_turnsBack_10 : decode cX12_turnsBack 10 = .ok (.aload_n 0, 1) := by decide +kernel
theorem dX12_turnsBack_11 : decode cX12_turnsBack 11 = .ok (.getfield 101, 3) := by decide +kernel
theorem dX12_turnsBack_14 : decode cX12_turnsBack 14 = .ok (.aload_n 0, 1) := by decide +kernel
theorem dX12_turnsBack_15 : decode cX12_turnsBack 15 = .ok (.getfield 54, 3) := by decide +kernel
theorem dX12_turnsBack_18 : decode cX12_turnsBack 18 = .ok (.iconst 4, 1) := by decide +kernel
theorem dX12_turnsBack_19 : decode cX12_turnsBack 19 = .ok (.aload_n 0, 1) := by decide +kernel
theorem dX12_turnsBack_20 : decode cX12_turnsBack 20 = .ok (.getfield 240, 3) := by decide +kernel
theorem dX12_turnsBack_23 : decode cX12_turnsBack 23 = .ok (.imul, 1) := by decide +kernel
theorem dX12_turnsBack_24 : decode cX12_turnsBack 24 = .ok (.iload_n 1, 1) := by decide +kernel
theorem dX12_turnsBack_25 : decode cX12_turnsBack 25 = .ok (.iadd, 1) := by decide +kernel
theorem dX12_turnsBack_26 : decode cX12_turnsBack 26 = .ok (.iaload, 1) := by decide +kernel
theorem dX12_turnsBack_27 : decode cX12_turnsBack 27 = .ok (.laload, 1) := by decide +kernel
theorem dX12_turnsBack_28 : decode cX12_turnsBack 28 = .ok (.aload_n 0, 1) := by decide +kernel
theorem dX12_turnsBack_29 : decode cX12_turnsBack 29 = .ok (.getfield 101, 3) := by decide +kernel
theorem dX12_turnsBack_32 : decode cX12_turnsBack 32 = .ok (.aload_n 0, 1) := by decide +kernel
theorem dX12_turnsBack_33 : decode cX12_turnsBack 33 = .ok (.getfield 119, 3) := by decide +kernel
theorem dX12_turnsBack_36 : decode cX12_turnsBack 36 = .ok (.iload_n 2, 1) := by decide +kernel
theorem dX12_turnsBack_37 : decode cX12_turnsBack 37 = .ok (.iaload, 1) := by decide +kernel
theorem dX12_turnsBack_38 : decode cX12_turnsBack 38 = .ok (.laload, 1) := by decide +kernel
theorem dX12_turnsBack_39 : decode cX12_turnsBack 39 = .ok (.lsub, 1) := by decide +kernel
theorem dX12_turnsBack_40 : decode cX12_turnsBack 40 = .ok (.lstore_n 3, 1) := by decide +kernel
theorem dX12_turnsBack_41 : decode cX12_turnsBack 41 = .ok (.aload_n 0, 1) := by decide +kernel
theorem dX12_turnsBack_42 : decode cX12_turnsBack 42 = .ok (.getfield 116, 3) := by decide +kernel
theorem dX12_turnsBack_45 : decode cX12_turnsBack 45 = .ok (.iload_n 2, 1) := by decide +kernel
theorem dX12_turnsBack_46 : decode cX12_turnsBack 46 = .ok (.iaload, 1) := by decide +kernel
theorem dX12_turnsBack_47 : decode cX12_turnsBack 47 = .ok (.iload_n 1, 1) := by decide +kernel
theorem dX12_turnsBack_48 : decode cX12_turnsBack 48 = .ok (.if_icmp .ne 30, 3) := by decide +kernel
theorem dX12_turnsBack_78 : decode cX12_turnsBack 78 = .ok (.iinc 2 1, 3) := by decide +kernel
theorem dX12_turnsBack_81 : decode cX12_turnsBack 81 = .ok (.goto (-79), 3) := by decide +kernel
theorem dX12_turnsBack_51 : decode cX12_turnsBack 51 = .ok (.lload_n 3, 1) := by decide +kernel
theorem dX12_turnsBack_52 : decode cX12_turnsBack 52 = .ok (.aload_n 0, 1) := by decide +kernel
theorem dX12_turnsBack_53 : decode cX12_turnsBack 53 = .ok (.getfield 122, 3) := by decide +kernel
theorem dX12_turnsBack_56 : decode cX12_turnsBack 56 = .ok (.iload_n 2, 1) := by decide +kernel
theorem dX12_turnsBack_57 : decode cX12_turnsBack 57 = .ok (.iaload, 1) := by decide +kernel
theorem dX12_turnsBack_58 : decode cX12_turnsBack 58 = .ok (.i2l, 1) := by decide +kernel
theorem dX12_turnsBack_59 : decode cX12_turnsBack 59 = .ok (.lcmp, 1) := by decide +kernel
theorem dX12_turnsBack_60 : decode cX12_turnsBack 60 = .ok (.ifCond .gt 16, 3) := by decide +kernel
theorem dX12_turnsBack_76 : decode cX12_turnsBack 76 = .ok (.iconst 1, 1) := by decide +kernel
theorem dX12_turnsBack_77 : decode cX12_turnsBack 77 = .ok (.ireturn, 1) := by decide +kernel
theorem dX12_turnsBack_63 : decode cX12_turnsBack 63 = .ok (.lload_n 3, 1) := by decide +kernel
theorem dX12_turnsBack_64 : decode cX12_turnsBack 64 = .ok (.lneg, 1) := by decide +kernel
theorem dX12_turnsBack_65 : decode cX12_turnsBack 65 = .ok (.aload_n 0, 1) := by decide +kernel
theorem dX12_turnsBack_66 : decode cX12_turnsBack 66 = .ok (.getfield 122, 3) := by decide +kernel
theorem dX12_turnsBack_69 : decode cX12_turnsBack 69 = .ok (.iload_n 2, 1) := by decide +kernel
theorem dX12_turnsBack_70 : decode cX12_turnsBack 70 = .ok (.iaload, 1) := by decide +kernel
theorem dX12_turnsBack_71 : decode cX12_turnsBack 71 = .ok (.i2l, 1) := by decide +kernel
theorem dX12_turnsBack_72 : decode cX12_turnsBack 72 = .ok (.lcmp, 1) := by decide +kernel
theorem dX12_turnsBack_73 : decode cX12_turnsBack 73 = .ok (.ifCond .le 5, 3) := by decide +kernel
theorem dX12_turnsBack_0 : decode cX12_turnsBack 0 = .ok (.iconst 0, 1) := by decide +kernel
theorem dX12_turnsBack_1 : decode cX12_turnsBack 1 = .ok (.istore_n 2, 1) := by decide +kernel
theorem dX12_through_23 : decode cX12_through 23 = .ok (.iload 4, 2) := by decide +kernel
theorem dX12_through_25 : decode cX12_through 25 = .ok (.aload_n 0, 1) := by decide +kernel
theorem dX12_through_26 : decode cX12_through 26 = .ok (.getfield 249, 3) := by decide +kernel
theorem dX12_through_29 : decode cX12_through 29 = .ok (.if_icmp .ge 50, 3) := by decide +kernel
theorem dX12_through_79 : decode cX12_through 79 = .ok (.iload_n 3, 1) := by decide +kernel
theorem dX12_through_80 : decode cX12_through 80 = .ok (.ireturn, 1) := by decide +kernel
theorem dX12_through_32 : decode cX12_through 32 = .ok (.iload_n 3, 1) := by decide +kernel
theorem dX12_through_33 : decode cX12_through 33 = .ok (.aload_n 0, 1) := by decide +kernel
theorem dX12_through_34 : decode cX12_through 34 = .ok (.iload_n 1, 1) := by decide +kernel
theorem dX12_through_35 : decode cX12_through 35 = .ok (.iload 4, 2) := by decide +kernel
theorem dX12_through_37 : decode cX12_through 37 = .ok (.invokevirtual 438, 3) := by decide +kernel
theorem dX12_through_40 : decode cX12_through 40 = .ok (.aload_n 0, 1) := by decide +kernel
theorem dX12_through_41 : decode cX12_through 41 = .ok (.getfield 57, 3) := by decide +kernel
theorem dX12_through_44 : decode cX12_through 44 = .ok (.iconst 4, 1) := by decide +kernel
theorem dX12_through_45 : decode cX12_through 45 = .ok (.aload_n 0, 1) := by decide +kernel
theorem dX12_through_46 : decode cX12_through 46 = .ok (.getfield 240, 3) := by decide +kernel
theorem dX12_through_49 : decode cX12_through 49 = .ok (.imul, 1) := by decide +kernel
theorem dX12_through_50 : decode cX12_through 50 = .ok (.iload_n 1, 1) := by decide +kernel
theorem dX12_through_51 : decode cX12_through 51 = .ok (.iadd, 1) := by decide +kernel
theorem dX12_through_52 : decode cX12_through 52 = .ok (.iaload, 1) := by decide +kernel
theorem dX12_through_53 : decode cX12_through 53 = .ok (.i2l, 1) := by decide +kernel
theorem dX12_through_54 : decode cX12_through 54 = .ok (.lcmp, 1) := by decide +kernel
theorem dX12_through_55 : decode cX12_through 55 = .ok (.ifCond .le 15, 3) := by decide +kernel
theorem dX12_through_70 : decode cX12_through 70 = .ok (.iconst 0, 1) := by decide +kernel
theorem dX12_through_71 : decode cX12_through 71 = .ok (.iadd, 1) := by decide +kernel
theorem dX12_through_72 : decode cX12_through 72 = .ok (.istore_n 3, 1) := by decide +kernel
theorem dX12_through_73 : decode cX12_through 73 = .ok (.iinc 4 1, 3) := by decide +kernel
theorem dX12_through_76 : decode cX12_through 76 = .ok (.goto (-53), 3) := by decide +kernel
theorem dX12_through_58 : decode cX12_through 58 = .ok (.aload_n 0, 1) := by decide +kernel
theorem dX12_through_59 : decode cX12_through 59 = .ok (.iload_n 1, 1) := by decide +kernel
theorem dX12_through_60 : decode cX12_through 60 = .ok (.invokevirtual 468, 3) := by decide +kernel
theorem dX12_through_63 : decode cX12_through 63 = .ok (.ifCond .ne 7, 3) := by decide +kernel
theorem dX12_through_66 : decode cX12_through 66 = .ok (.iconst 1, 1) := by decide +kernel
theorem dX12_through_67 : decode cX12_through 67 = .ok (.goto 4, 3) := by decide +kernel
theorem dX12_through_0 : decode cX12_through 0 = .ok (.aload_n 0, 1) := by decide +kernel
theorem dX12_through_1 : decode cX12_through 1 = .ok (.iload_n 1, 1) := by decide +kernel
theorem dX12_through_2 : decode cX12_through 2 = .ok (.invokevirtual 431, 3) := by decide +kernel
theorem dX12_through_5 : decode cX12_through 5 = .ok (.ifCond .eq 11, 3) := by decide +kernel
theorem dX12_through_16 : decode cX12_through 16 = .ok (.iconst (-1), 1) := by decide +kernel
theorem dX12_through_17 : decode cX12_through 17 = .ok (.ireturn, 1) := by decide +kernel
theorem dX12_through_8 : decode cX12_through 8 = .ok (.aload_n 0, 1) := by decide +kernel
theorem dX12_through_9 : decode cX12_through 9 = .ok (.iload_n 2, 1) := by decide +kernel
theorem dX12_through_10 : decode cX12_through 10 = .ok (.invokevirtual 370, 3) := by decide +kernel
theorem dX12_through_13 : decode cX12_through 13 = .ok (.ifCond .ne 5, 3) := by decide +kernel
theorem dX12_through_18 : decode cX12_through 18 = .ok (.iconst 0, 1) := by decide +kernel
theorem dX12_through_19 : decode cX12_through 19 = .ok (.istore_n 3, 1) := by decide +kernel
theorem dX12_through_20 : decode cX12_through 20 = .ok (.iconst 0, 1) := by decide +kernel
theorem dX12_through_21 : decode cX12_through 21 = .ok (.istore 4, 2) := by decide +kernel
theorem dX12_turned_23 : decode cX12_turned 23 = .ok (.iload 4, 2) := by decide +kernel
theorem dX12_turned_25 : decode cX12_turned 25 = .ok (.aload_n 0, 1) := by decide +kernel
theorem dX12_turned_26 : decode cX12_turned 26 = .ok (.getfield 249, 3) := by decide +kernel
theorem dX12_turned_29 : decode cX12_turned 29 = .ok (.if_icmp .ge 38, 3) := by decide +kernel
theorem dX12_turned_67 : decode cX12_turned 67 = .ok (.iload_n 3, 1) := by decide +kernel
theorem dX12_turned_68 : decode cX12_turned 68 = .ok (.ireturn, 1) := by decide +kernel
theorem dX12_turned_32 : decode cX12_turned 32 = .ok (.aload_n 0, 1) := by decide +kernel
theorem dX12_turned_33 : decode cX12_turned 33 = .ok (.aload_n 0, 1) := by decide +kernel
theorem dX12_turned_34 : decode cX12_turned 34 = .ok (.getfield 76, 3) := by decide +kernel
theorem dX12_turned_37 : decode cX12_turned 37 = .ok (.bipush 12, 2) := by decide +kernel
theorem dX12_turned_39 : decode cX12_turned 39 = .ok (.iload 4, 2) := by decide +kernel
theorem dX12_turned_41 : decode cX12_turned 41 = .ok (.imul, 1) := by decide +kernel
theorem dX12_turned_42 : decode cX12_turned 42 = .ok (.invokevirtual 375, 3) := by decide +kernel
theorem dX12_turned_45 : decode cX12_turned 45 = .ok (.iload_n 3, 1) := by decide +kernel
theorem dX12_turned_46 : decode cX12_turned 46 = .ok (.aload_n 0, 1) := by decide +kernel
theorem dX12_turned_47 : decode cX12_turned 47 = .ok (.iload_n 1, 1) := by decide +kernel
theorem dX12_turned_48 : decode cX12_turned 48 = .ok (.invokevirtual 468, 3) := by decide +kernel
theorem dX12_turned_51 : decode cX12_turned 51 = .ok (.ifCond .eq 7, 3) := by decide +kernel
theorem dX12_turned_58 : decode cX12_turned 58 = .ok (.iconst 0, 1) := by decide +kernel
theorem dX12_turned_59 : decode cX12_turned 59 = .ok (.iadd, 1) := by decide +kernel
theorem dX12_turned_60 : decode cX12_turned 60 = .ok (.istore_n 3, 1) := by decide +kernel
theorem dX12_turned_61 : decode cX12_turned 61 = .ok (.iinc 4 1, 3) := by decide +kernel
theorem dX12_turned_64 : decode cX12_turned 64 = .ok (.goto (-41), 3) := by decide +kernel
theorem dX12_turned_54 : decode cX12_turned 54 = .ok (.iconst 1, 1) := by decide +kernel
theorem dX12_turned_55 : decode cX12_turned 55 = .ok (.goto 4, 3) := by decide +kernel
theorem dX12_turned_0 : decode cX12_turned 0 = .ok (.aload_n 0, 1) := by decide +kernel
theorem dX12_turned_1 : decode cX12_turned 1 = .ok (.iload_n 1, 1) := by decide +kernel
theorem dX12_turned_2 : decode cX12_turned 2 = .ok (.invokevirtual 431, 3) := by decide +kernel
theorem dX12_turned_5 : decode cX12_turned 5 = .ok (.ifCond .eq 11, 3) := by decide +kernel
theorem dX12_turned_16 : decode cX12_turned 16 = .ok (.iconst (-1), 1) := by decide +kernel
theorem dX12_turned_17 : decode cX12_turned 17 = .ok (.ireturn, 1) := by decide +kernel
theorem dX12_turned_8 : decode cX12_turned 8 = .ok (.aload_n 0, 1) := by decide +kernel
theorem dX12_turned_9 : decode cX12_turned 9 = .ok (.iload_n 2, 1) := by decide +kernel
theorem dX12_turned_10 : decode cX12_turned 10 = .ok (.invokevirtual 370, 3) := by decide +kernel
theorem dX12_turned_13 : decode cX12_turned 13 = .ok (.ifCond .ne 5, 3) := by decide +kernel
theorem dX12_turned_18 : decode cX12_turned 18 = .ok (.iconst 0, 1) := by decide +kernel
theorem dX12_turned_19 : decode cX12_turned 19 = .ok (.istore_n 3, 1) := by decide +kernel
theorem dX12_turned_20 : decode cX12_turned 20 = .ok (.iconst 0, 1) := by decide +kernel
theorem dX12_turned_21 : decode cX12_turned 21 = .ok (.istore 4, 2) := by decide +kernel
theorem dX12_placeMany_4 : decode cX12_placeMany 4 = .ok (.iload_n 2, 1) := by decide +kernel
theorem dX12_placeMany_5 : decode cX12_placeMany 5 = .ok (.aload_n 0, 1) := by decide +kernel
theorem dX12_placeMany_6 : decode cX12_placeMany 6 = .ok (.getfield 20, 3) := by decide +kernel
theorem dX12_placeMany_9 : decode cX12_placeMany 9 = .ok (.aload_n 0, 1) := by decide +kernel
theorem dX12_placeMany_10 : decode cX12_placeMany 10 = .ok (.getfield 240, 3) := by decide +kernel
theorem dX12_placeMany_13 : decode cX12_placeMany 13 = .ok (.iaload, 1) := by decide +kernel
theorem dX12_placeMany_14 : decode cX12_placeMany 14 = .ok (.if_icmp .ge 25, 3) := by decide +kernel
theorem dX12_placeMany_39 : decode cX12_placeMany 39 = .ok (.iload_n 1, 1) := by decide +kernel
theorem dX12_placeMany_40 : decode cX12_placeMany 40 = .ok (.ireturn, 1) := by decide +kernel
theorem dX12_placeMany_17 : decode cX12_placeMany 17 = .ok (.iload_n 1, 1) := by decide +kernel
theorem dX12_placeMany_18 : decode cX12_placeMany 18 = .ok (.aload_n 0, 1) := by decide +kernel
theorem dX12_placeMany_19 : decode cX12_placeMany 19 = .ok (.getfield 30, 3) := by decide +kernel
theorem dX12_placeMany_22 : decode cX12_placeMany 22 = .ok (.iconst 2, 1) := by decide +kernel
theorem dX12_placeMany_23 : decode cX12_placeMany 23 = .ok (.aload_n 0, 1) := by decide +kernel
theorem dX12_placeMany_24 : decode cX12_placeMany 24 = .ok (.getfield 240, 3) := by decide +kernel
theorem dX12_placeMany_27 : decode cX12_placeMany 27 = .ok (.imul, 1) := by decide +kernel
theorem dX12_placeMany_28 : decode cX12_placeMany 28 = .ok (.iload_n 2, 1) := by decide +kernel
theorem dX12_placeMany_29 : decode cX12_placeMany 29 = .ok (.iadd, 1) := by decide +kernel
theorem dX12_placeMany_30 : decode cX12_placeMany 30 = .ok (.iaload, 1) := by decide +kernel
theorem dX12_placeMany_31 : decode cX12_placeMany 31 = .ok (.iadd, 1) := by decide +kernel
theorem dX12_placeMany_32 : decode cX12_placeMany 32 = .ok (.istore_n 1, 1) := by decide +kernel
theorem dX12_placeMany_33 : decode cX12_placeMany 33 = .ok (.iinc 2 1, 3) := by decide +kernel
theorem dX12_placeMany_36 : decode cX12_placeMany 36 = .ok (.goto (-32), 3) := by decide +kernel
theorem dX12_placeMany_0 : decode cX12_placeMany 0 = .ok (.iconst 0, 1) := by decide +kernel
theorem dX12_placeMany_1 : decode cX12_placeMany 1 = .ok (.istore_n 1, 1) := by decide +kernel
theorem dX12_placeMany_2 : decode cX12_placeMany 2 = .ok (.iconst 0, 1) := by decide +kernel
theorem dX12_placeMany_3 : decode cX12_placeMany 3 = .ok (.istore_n 2, 1) := by decide +kernel
theorem dX12_layCorner_30 : decode cX12_layCorner 30 = .ok (.iload 5, 2) := by decide +kernel
theorem dX12_layCorner_32 : decode cX12_layCorner 32 = .ok (.aload_n 0, 1) := by decide +kernel
theorem dX12_layCorner_33 : decode cX12_layCorner 33 = .ok (.getfield 30, 3) := by decide +kernel
theorem dX12_layCorner_36 : decode cX12_layCorner 36 = .ok (.iload 4, 2) := by decide +kernel
theorem dX12_layCorner_38 : decode cX12_layCorner 38 = .ok (.iaload, 1) := by decide +kernel
theorem dX12_layCorner_39 : decode cX12_layCorner 39 = .ok (.if_icmp .ge 50, 3) := by decide +kernel
theorem dX12_layCorner_89 : decode cX12_layCorner 89 = .ok (.iinc 3 1, 3) := by decide +kernel
theorem dX12_layCorner_92 : decode cX12_layCorner 92 = .ok (.goto (-88), 3) := by decide +kernel
theorem dX12_layCorner_42 : decode cX12_layCorner 42 = .ok (.aload_n 0, 1) := by decide +kernel
theorem dX12_layCorner_43 : decode cX12_layCorner 43 = .ok (.getfield 79, 3) := by decide +kernel
theorem dX12_layCorner_46 : decode cX12_layCorner 46 = .ok (.bipush 6, 2) := by decide +kernel
theorem dX12_layCorner_48 : decode cX12_layCorner 48 = .ok (.iload_n 3, 1) := by decide +kernel
theorem dX12_layCorner_49 : decode cX12_layCorner 49 = .ok (.imul, 1) := by decide +kernel
theorem dX12_layCorner_50 : decode cX12_layCorner 50 = .ok (.iload 5, 2) := by decide +kernel
theorem dX12_layCorner_52 : decode cX12_layCorner 52 = .ok (.iadd, 1) := by decide +kernel
theorem dX12_layCorner_53 : decode cX12_layCorner 53 = .ok (.iload_n 1, 1) := by decide +kernel
theorem dX12_layCorner_54 : decode cX12_layCorner 54 = .ok (.iload_n 2, 1) := by decide +kernel
theorem dX12_layCorner_55 : decode cX12_layCorner 55 = .ok (.ishr, 1) := by decide +kernel
theorem dX12_layCorner_56 : decode cX12_layCorner 56 = .ok (.iconst 1, 1) := by decide +kernel
theorem dX12_layCorner_57 : decode cX12_layCorner 57 = .ok (.iand, 1) := by decide +kernel
theorem dX12_layCorner_58 : decode cX12_layCorner 58 = .ok (.iconst 1, 1) := by decide +kernel
theorem dX12_layCorner_59 : decode cX12_layCorner 59 = .ok (.if_icmp .ne 13, 3) := by decide +kernel
theorem dX12_layCorner_72 : decode cX12_layCorner 72 = .ok (.aload_n 0, 1) := by decide +kernel
theorem dX12_layCorner_73 : decode cX12_layCorner 73 = .ok (.getfield 33, 3) := by decide +kernel
theorem dX12_layCorner_76 : decode cX12_layCorner 76 = .ok (.iload 4, 2) := by decide +kernel
theorem dX12_layCorner_78 : decode cX12_layCorner 78 = .ok (.iaload, 1) := by decide +kernel
theorem dX12_layCorner_79 : decode cX12_layCorner 79 = .ok (.iastore, 1) := by decide +kernel
theorem dX12_layCorner_80 : decode cX12_layCorner 80 = .ok (.iinc 2 1, 3) := by decide +kernel
theorem dX12_layCorner_83 : decode cX12_layCorner 83 = .ok (.iinc 5 1, 3) := by decide +kernel
theorem dX12_layCorner_86 : decode cX12_layCorner 86 = .ok (.goto (-56), 3) := by decide +kernel
theorem dX12_layCorner_62 : decode cX12_layCorner 62 = .ok (.aload_n 0, 1) := by decide +kernel
theorem dX12_layCorner_63 : decode cX12_layCorner 63 = .ok (.getfield 36, 3) := by decide +kernel
theorem dX12_layCorner_66 : decode cX12_layCorner 66 = .ok (.iload 4, 2) := by decide +kernel
theorem dX12_layCorner_68 : decode cX12_layCorner 68 = .ok (.iaload, 1) := by decide +kernel
theorem dX12_layCorner_69 : decode cX12_layCorner 69 = .ok (.goto 10, 3) := by decide +kernel
theorem dX12_layCorner_4 : decode cX12_layCorner 4 = .ok (.iload_n 3, 1) := by decide +kernel
theorem dX12_layCorner_5 : decode cX12_layCorner 5 = .ok (.aload_n 0, 1) := by decide +kernel
theorem dX12_layCorner_6 : decode cX12_layCorner 6 = .ok (.getfield 20, 3) := by decide +kernel
theorem dX12_layCorner_9 : decode cX12_layCorner 9 = .ok (.aload_n 0, 1) := by decide +kernel
theorem dX12_layCorner_10 : decode cX12_layCorner 10 = .ok (.getfield 240, 3) := by decide +kernel
theorem dX12_layCorner_13 : decode cX12_layCorner 13 = .ok (.iaload, 1) := by decide +kernel
theorem dX12_layCorner_14 : decode cX12_layCorner 14 = .ok (.if_icmp .ge 81, 3) := by decide +kernel
theorem dX12_layCorner_95 : decode cX12_layCorner 95 = .ok (.return_, 1) := by decide +kernel
theorem dX12_layCorner_17 : decode cX12_layCorner 17 = .ok (.iconst 2, 1) := by decide +kernel
theorem dX12_layCorner_18 : decode cX12_layCorner 18 = .ok (.aload_n 0, 1) := by decide +kernel
theorem dX12_layCorner_19 : decode cX12_layCorner 19 = .ok (.getfield 240, 3) := by decide +kernel
theorem dX12_layCorner_22 : decode cX12_layCorner 22 = .ok (.imul, 1) := by decide +kernel
theorem dX12_layCorner_23 : decode cX12_layCorner 23 = .ok (.iload_n 3, 1) := by decide +kernel
theorem dX12_layCorner_24 : decode cX12_layCorner 24 = .ok (.iadd, 1) := by decide +kernel
theorem dX12_layCorner_25 : decode cX12_layCorner 25 = .ok (.istore 4, 2) := by decide +kernel
theorem dX12_layCorner_27 : decode cX12_layCorner 27 = .ok (.iconst 0, 1) := by decide +kernel
theorem dX12_layCorner_28 : decode cX12_layCorner 28 = .ok (.istore 5, 2) := by decide +kernel
theorem dX12_layCorner_0 : decode cX12_layCorner 0 = .ok (.iconst 0, 1) := by decide +kernel
theorem dX12_layCorner_1 : decode cX12_layCorner 1 = .ok (.istore_n 2, 1) := by decide +kernel
theorem dX12_layCorner_2 : decode cX12_layCorner 2 = .ok (.iconst 0, 1) := by decide +kernel
theorem dX12_layCorner_3 : decode cX12_layCorner 3 = .ok (.istore_n 3, 1) := by decide +kernel
theorem dX12_worst_53 : decode cX12_worst 53 = .ok (.iload 8, 2) := by decide +kernel
theorem dX12_worst_55 : decode cX12_worst 55 = .ok (.iconst 1, 1) := by decide +kernel
theorem dX12_worst_56 : decode cX12_worst 56 = .ok (.aload_n 0, 1) := by decide +kernel
theorem dX12_worst_57 : decode cX12_worst 57 = .ok (.invokevirtual 471, 3) := by decide +kernel
theorem dX12_worst_60 : decode cX12_worst 60 = .ok (.ishl, 1) := by decide +kernel
theorem dX12_worst_61 : decode cX12_worst 61 = .ok (.if_icmp .ge 72, 3) := by decide +kernel
theorem dX12_worst_133 : decode cX12_worst 133 = .ok (.iload_n 3, 1) := by decide +kernel
theorem dX12_worst_134 : decode cX12_worst 134 = .ok (.ifCond .ne 8, 3) := by decide +kernel
theorem dX12_worst_142 : decode cX12_worst 142 = .ok (.iload 7, 2) := by decide +kernel
theorem dX12_worst_144 : decode cX12_worst 144 = .ok (.i2l, 1) := by decide +kernel
theorem dX12_worst_145 : decode cX12_worst 145 = .ok (.lreturn, 1) := by decide +kernel
theorem dX12_worst_137 : decode cX12_worst 137 = .ok (.lload 5, 2) := by decide +kernel
theorem dX12_worst_139 : decode cX12_worst 139 = .ok (.goto 6, 3) := by decide +kernel
theorem dX12_worst_64 : decode cX12_worst 64 = .ok (.aload_n 0, 1) := by decide +kernel
theorem dX12_worst_65 : decode cX12_worst 65 = .ok (.iload 8, 2) := by decide +kernel
theorem dX12_worst_67 : decode cX12_worst 67 = .ok (.invokevirtual 474, 3) := by decide +kernel
theorem dX12_worst_70 : decode cX12_worst 70 = .ok (.aload_n 0, 1) := by decide +kernel
theorem dX12_worst_71 : decode cX12_worst 71 = .ok (.aload_n 0, 1) := by decide +kernel
theorem dX12_worst_72 : decode cX12_worst 72 = .ok (.getfield 79, 3) := by decide +kernel
theorem dX12_worst_75 : decode cX12_worst 75 = .ok (.iconst 0, 1) := by decide +kernel
theorem dX12_worst_76 : decode cX12_worst 76 = .ok (.invokevirtual 375, 3) := by decide +kernel
theorem dX12_worst_79 : decode cX12_worst 79 = .ok (.aload_n 0, 1) := by decide +kernel
theorem dX12_worst_80 : decode cX12_worst 80 = .ok (.getfield 101, 3) := by decide +kernel
theorem dX12_worst_83 : decode cX12_worst 83 = .ok (.iload 4, 2) := by decide +kernel
theorem dX12_worst_85 : decode cX12_worst 85 = .ok (.laload, 1) := by decide +kernel
theorem dX12_worst_86 : decode cX12_worst 86 = .ok (.aload_n 0, 1) := by decide +kernel
theorem dX12_worst_87 : decode cX12_worst 87 = .ok (.getfield 104, 3) := by decide +kernel
theorem dX12_worst_90 : decode cX12_worst 90 = .ok (.iload 4, 2) := by decide +kernel
theorem dX12_worst_92 : decode cX12_worst 92 = .ok (.laload, 1) := by decide +kernel
theorem dX12_worst_93 : decode cX12_worst 93 = .ok (.lsub, 1) := by decide +kernel
theorem dX12_worst_94 : decode cX12_worst 94 = .ok (.lstore 9, 2) := by decide +kernel
theorem dX12_worst_96 : decode cX12_worst 96 = .ok (.lload 9, 2) := by decide +kernel
theorem dX12_worst_98 : decode cX12_worst 98 = .ok (.lload 9, 2) := by decide +kernel
theorem dX12_worst_100 : decode cX12_worst 100 = .ok (.lneg, 1) := by decide +kernel
theorem dX12_worst_101 : decode cX12_worst 101 = .ok (.invokestatic 318, 3) := by decide +kernel
theorem dX12_worst_104 : decode cX12_worst 104 = .ok (.lload 5, 2) := by decide +kernel
theorem dX12_worst_106 : decode cX12_worst 106 = .ok (.lload 5, 2) := by decide +kernel
theorem dX12_worst_108 : decode cX12_worst 108 = .ok (.lneg, 1) := by decide +kernel
theorem dX12_worst_109 : decode cX12_worst 109 = .ok (.invokestatic 318, 3) := by decide +kernel
theorem dX12_worst_112 : decode cX12_worst 112 = .ok (.lcmp, 1) := by decide +kernel
theorem dX12_worst_113 : decode cX12_worst 113 = .ok (.ifCond .gt 6, 3) := by decide +kernel
theorem dX12_worst_119 : decode cX12_worst 119 = .ok (.lload 9, 2) := by decide +kernel
theorem dX12_worst_121 : decode cX12_worst 121 = .ok (.lstore 5, 2) := by decide +kernel
theorem dX12_worst_123 : decode cX12_worst 123 = .ok (.iload 8, 2) := by decide +kernel
theorem dX12_worst_125 : decode cX12_worst 125 = .ok (.istore 7, 2) := by decide +kernel
theorem dX12_worst_127 : decode cX12_worst 127 = .ok (.iinc 8 1, 3) := by decide +kernel
theorem dX12_worst_130 : decode cX12_worst 130 = .ok (.goto (-77), 3) := by decide +kernel
theorem dX12_worst_116 : decode cX12_worst 116 = .ok (.goto 11, 3) := by decide +kernel
theorem dX12_worst_0 : decode cX12_worst 0 = .ok (.aload_n 0, 1) := by decide +kernel
theorem dX12_worst_1 : decode cX12_worst 1 = .ok (.iload_n 1, 1) := by decide +kernel
theorem dX12_worst_2 : decode cX12_worst 2 = .ok (.invokevirtual 431, 3) := by decide +kernel
theorem dX12_worst_5 : decode cX12_worst 5 = .ok (.ifCond .eq 20, 3) := by decide +kernel
theorem dX12_worst_25 : decode cX12_worst 25 = .ok (.ldc2_w 429, 3) := by decide +kernel
theorem dX12_worst_28 : decode cX12_worst 28 = .ok (.lreturn, 1) := by decide +kernel
theorem dX12_worst_8 : decode cX12_worst 8 = .ok (.aload_n 0, 1) := by decide +kernel
theorem dX12_worst_9 : decode cX12_worst 9 = .ok (.iload_n 2, 1) := by decide +kernel
theorem dX12_worst_10 : decode cX12_worst 10 = .ok (.invokevirtual 370, 3) := by decide +kernel
theorem dX12_worst_13 : decode cX12_worst 13 = .ok (.ifCond .eq 12, 3) := by decide +kernel
theorem dX12_worst_16 : decode cX12_worst 16 = .ok (.iload_n 3, 1) := by decide +kernel
theorem dX12_worst_17 : decode cX12_worst 17 = .ok (.iconst 0, 1) := by decide +kernel
theorem dX12_worst_18 : decode cX12_worst 18 = .ok (.iconst 1, 1) := by decide +kernel
theorem dX12_worst_19 : decode cX12_worst 19 = .ok (.invokestatic 324, 3) := by decide +kernel
theorem dX12_worst_22 : decode cX12_worst 22 = .ok (.ifCond .ne 7, 3) := by decide +kernel
theorem dX12_worst_29 : decode cX12_worst 29 = .ok (.aload_n 0, 1) := by decide +kernel
theorem dX12_worst_30 : decode cX12_worst 30 = .ok (.getfield 54, 3) := by decide +kernel
theorem dX12_worst_33 : decode cX12_worst 33 = .ok (.iconst 4, 1) := by decide +kernel
theorem dX12_worst_34 : decode cX12_worst 34 = .ok (.aload_n 0, 1) := by decide +kernel
theorem dX12_worst_35 : decode cX12_worst 35 = .ok (.getfield 240, 3) := by decide +kernel
theorem dX12_worst_38 : decode cX12_worst 38 = .ok (.imul, 1) := by decide +kernel
theorem dX12_worst_39 : decode cX12_worst 39 = .ok (.iload_n 1, 1) := by decide +kernel
theorem dX12_worst_40 : decode cX12_worst 40 = .ok (.iadd, 1) := by decide +kernel
theorem dX12_worst_41 : decode cX12_worst 41 = .ok (.iaload, 1) := by decide +kernel
theorem dX12_worst_42 : decode cX12_worst 42 = .ok (.istore 4, 2) := by decide +kernel
theorem dX12_worst_44 : decode cX12_worst 44 = .ok (.lconst 0, 1) := by decide +kernel
theorem dX12_worst_45 : decode cX12_worst 45 = .ok (.lstore 5, 2) := by decide +kernel
theorem dX12_worst_47 : decode cX12_worst 47 = .ok (.iconst 0, 1) := by decide +kernel
theorem dX12_worst_48 : decode cX12_worst 48 = .ok (.istore 7, 2) := by decide +kernel
theorem dX12_worst_50 : decode cX12_worst 50 = .ok (.iconst 0, 1) := by decide +kernel
theorem dX12_worst_51 : decode cX12_worst 51 = .ok (.istore 8, 2) := by decide +kernel
theorem dX12_errorOn_0 : decode cX12_errorOn 0 = .ok (.aload_n 0, 1) := by decide +kernel
theorem dX12_errorOn_1 : decode cX12_errorOn 1 = .ok (.iload_n 3, 1) := by decide +kernel
theorem dX12_errorOn_2 : decode cX12_errorOn 2 = .ok (.invokevirtual 423, 3) := by decide +kernel
theorem dX12_errorOn_5 : decode cX12_errorOn 5 = .ok (.istore 4, 2) := by decide +kernel
theorem dX12_errorOn_7 : decode cX12_errorOn 7 = .ok (.aload_n 0, 1) := by decide +kernel
theorem dX12_errorOn_8 : decode cX12_errorOn 8 = .ok (.aload_n 0, 1) := by decide +kernel
theorem dX12_errorOn_9 : decode cX12_errorOn 9 = .ok (.getfield 76, 3) := by decide +kernel
theorem dX12_errorOn_12 : decode cX12_errorOn 12 = .ok (.bipush 12, 2) := by decide +kernel
theorem dX12_errorOn_14 : decode cX12_errorOn 14 = .ok (.iload_n 2, 1) := by decide +kernel
theorem dX12_errorOn_15 : decode cX12_errorOn 15 = .ok (.imul, 1) := by decide +kernel
theorem dX12_errorOn_16 : decode cX12_errorOn 16 = .ok (.invokevirtual 375, 3) := by decide +kernel
theorem dX12_errorOn_19 : decode cX12_errorOn 19 = .ok (.aload_n 0, 1) := by decide +kernel
theorem dX12_errorOn_20 : decode cX12_errorOn 20 = .ok (.getfield 54, 3) := by decide +kernel
theorem dX12_errorOn_23 : decode cX12_errorOn 23 = .ok (.iconst 4, 1) := by decide +kernel
theorem dX12_errorOn_24 : decode cX12_errorOn 24 = .ok (.aload_n 0, 1) := by decide +kernel
theorem dX12_errorOn_25 : decode cX12_errorOn 25 = .ok (.getfield 240, 3) := by decide +kernel
theorem dX12_errorOn_28 : decode cX12_errorOn 28 = .ok (.imul, 1) := by decide +kernel
theorem dX12_errorOn_29 : decode cX12_errorOn 29 = .ok (.iload_n 1, 1) := by decide +kernel
theorem dX12_errorOn_30 : decode cX12_errorOn 30 = .ok (.iadd, 1) := by decide +kernel
theorem dX12_errorOn_31 : decode cX12_errorOn 31 = .ok (.iaload, 1) := by decide +kernel
theorem dX12_errorOn_32 : decode cX12_errorOn 32 = .ok (.istore 5, 2) := by decide +kernel
theorem dX12_errorOn_34 : decode cX12_errorOn 34 = .ok (.iload 4, 2) := by decide +kernel
theorem dX12_errorOn_36 : decode cX12_errorOn 36 = .ok (.ifCond .eq 21, 3) := by decide +kernel
theorem dX12_errorOn_57 : decode cX12_errorOn 57 = .ok (.lconst 0, 1) := by decide +kernel
theorem dX12_errorOn_58 : decode cX12_errorOn 58 = .ok (.lreturn, 1) := by decide +kernel
theorem dX12_errorOn_39 : decode cX12_errorOn 39 = .ok (.aload_n 0, 1) := by decide +kernel
theorem dX12_errorOn_40 : decode cX12_errorOn 40 = .ok (.getfield 101, 3) := by decide +kernel
theorem dX12_errorOn_43 : decode cX12_errorOn 43 = .ok (.iload 5, 2) := by decide +kernel
theorem dX12_errorOn_45 : decode cX12_errorOn 45 = .ok (.laload, 1) := by decide +kernel
theorem dX12_errorOn_46 : decode cX12_errorOn 46 = .ok (.aload_n 0, 1) := by decide +kernel
theorem dX12_errorOn_47 : decode cX12_errorOn 47 = .ok (.getfield 104, 3) := by decide +kernel
theorem dX12_errorOn_50 : decode cX12_errorOn 50 = .ok (.iload 5, 2) := by decide +kernel
theorem dX12_errorOn_52 : decode cX12_errorOn 52 = .ok (.laload, 1) := by decide +kernel
theorem dX12_errorOn_53 : decode cX12_errorOn 53 = .ok (.lsub, 1) := by decide +kernel
theorem dX12_errorOn_54 : decode cX12_errorOn 54 = .ok (.goto 4, 3) := by decide +kernel
theorem dX12_purse_0 : decode cX12_purse 0 = .ok (.iload_n 1, 1) := by decide +kernel
theorem dX12_purse_1 : decode cX12_purse 1 = .ok (.iconst 0, 1) := by decide +kernel
theorem dX12_purse_2 : decode cX12_purse 2 = .ok (.ldc_w 488, 3) := by decide +kernel
theorem dX12_purse_5 : decode cX12_purse 5 = .ok (.invokestatic 324, 3) := by decide +kernel
theorem dX12_purse_8 : decode cX12_purse 8 = .ok (.ifCond .ne 5, 3) := by decide +kernel
theorem dX12_purse_13 : decode cX12_purse 13 = .ok (.aload_n 0, 1) := by decide +kernel
theorem dX12_purse_14 : decode cX12_purse 14 = .ok (.iload_n 1, 1) := by decide +kernel
theorem dX12_purse_15 : decode cX12_purse 15 = .ok (.putfield 258, 3) := by decide +kernel
theorem dX12_purse_18 : decode cX12_purse 18 = .ok (.iconst 1, 1) := by decide +kernel
theorem dX12_purse_19 : decode cX12_purse 19 = .ok (.ireturn, 1) := by decide +kernel
theorem dX12_purse_11 : decode cX12_purse 11 = .ok (.iconst 0, 1) := by decide +kernel
theorem dX12_purse_12 : decode cX12_purse 12 = .ok (.ireturn, 1) := by decide +kernel
theorem rg_601 : 50 ∈ [50, 51, 52, 53] := by decide
theorem rg_602 : 51 ∈ [50, 51, 52, 53] := by decide
theorem rg_603 : 52 ∈ [50, 51, 52, 53] := by decide
theorem rg_604 : 53 ∈ [50, 51, 52, 53] := by decide
theorem rg_605 : 0 ≤ (0 : Int32).toInt ∧ (0 : Int32).toInt ≤ 6 * (0 : Int32).toInt ∧ (0 : Int32).toInt ≤ 2 := by decide
theorem rg_606 : 29 ∉ [32] := by decide
theorem rg_607 : 14 ∉ [32] := by decide
theorem rg_608 : 15 ∉ [32] := by decide
theorem rg_609 : 32 ∈ [32] := by decide
theorem rg_610 : 16 ∉ [32] := by decide
theorem rg_611 : 11 ∉ [32] := by decide
theorem rg_612 : ∀ q, q ∈ [32] → q ∈ [37, 41, 42, 43, 44, 45, 46, 32, 47, 48, 49, 54, 55, 56, 57] := by decide
theorem rg_613 : 34 ∉ [32] := by decide
theorem rg_614 : 35 ∉ [32] := by decide
theorem rg_615 : 37 ∉ [32] := by decide
theorem rg_616 : 22 ∉ [37, 43, 44, 45, 46] := by decide
theorem rg_617 : ∀ q, q ∈ [37] → q ∈ [37, 41, 42] := by decide
theorem rg_620 : 34 ∉ [37] := by decide
theorem rg_621 : 35 ∉ [37] := by decide
theorem rg_618 : 29 ∉ [37, 41, 42] := by decide
theorem rg_619 : ∀ q, 11 ≤ q → q ≤ 22 → q ∉ [37, 41, 42] := by intro q h1 h2 h; simp at h; omega
theorem rg_622 : ∀ q, q ∈ [42, 41] → q ∈ [37, 41, 42] := by decide
theorem rg_623 : 22 ∉ [37] := by decide
theorem rg_624 : (99999 : Int32).toInt = 99999 := by decide
theorem rg_625 : 58 ∈ [58] := by decide
def ow_n_guard : List Cond := [.fieldLink RX12 255 "NearEnoughModel" "guards" "I", .fieldLink RX12 116 "NearEnoughModel" "gEnd" "[I", .fieldLink RX12 119 "NearEnoughModel" "gStep" "[I", .fieldLink RX12 122 "NearEnoughModel" "gWithin" "[I"]
def vs_n_guard : List Cond := .code yX12_guard cX12_guard 4 (some .int) :: (ow_n_guard ++ (([.methodLink RX12 431 yX12_isEnd, .instanceMethod yX12_isEnd, .selects RX12 yX12_isEnd yX12_isEnd, .initialized RX12] : List Cond) ++ (vs_n_isEnd ++ (([.methodLink RX12 328 yX12_isStep, .instanceMethod yX12_isStep, .selects RX12 yX12_isStep yX12_isStep, .initialized RX12] : List Cond) ++ (vs_n_isStep ++ (([.methodLink RX12 324 yX12_isIn, .static yX12_isIn, .initialized yX12_isIn.cls] : List Cond) ++ (vs_n_isIn ++ (wsX120))))))))
theorem vg_n_guard : vs_n_guard.all goodWord = true := by decide +kernel
theorem dd_n_guard : yX12_guard.cls = RX12 ∧ yX12_guard.cls ≠ "java/lang/invoke/MethodHandle" ∧ yX12_guard.cls ≠ "java/lang/invoke/VarHandle" ∧ (parseMethodDescriptor yX12_guard.desc).map (fun d => d.parameters.length) = some 3 := by decide +kernel
def rm_n_guard : Room := { frames := 2, cells := 0, slots := 0, locals := 43 }
theorem gd_n_guard_431_n_isEnd : GoodIn vs_n_guard (wsV RX12 431 RX12 yX12_isEnd vs_n_isEnd) := goodIn_app (goodIn_sub (fun w h => (List.mem_cons_of_mem _ (List.mem_append_right _ (List.mem_append_left _ h)))) (by decide +kernel)) (goodIn_sub (fun w h => (List.mem_cons_of_mem _ (List.mem_append_right _ (List.mem_append_right _ (List.mem_append_left _ h))))) vg_n_isEnd)
theorem gd_n_guard_328_n_isStep : GoodIn vs_n_guard (wsV RX12 328 RX12 yX12_isStep vs_n_isStep) := goodIn_app (goodIn_sub (fun w h => (List.mem_cons_of_mem _ (List.mem_append_right _ (List.mem_append_right _ (List.mem_append_right _ (List.mem_append_left _ h)))))) (by decide +kernel)) (goodIn_sub (fun w h => (List.mem_cons_of_mem _ (List.mem_append_right _ (List.mem_append_right _ (List.mem_append_right _ (List.mem_append_right _ (List.mem_append_left _ h))))))) vg_n_isStep)
theorem gd_n_guard_324_n_isIn : GoodIn vs_n_guard (va_wsS RX12 324 yX12_isIn vs_n_isIn) := goodIn_app (goodIn_sub (fun w h => (List.mem_cons_of_mem _ (List.mem_append_right _ (List.mem_append_right _ (List.mem_append_right _ (List.mem_append_right _ (List.mem_append_right _ (List.mem_append_left _ h)))))))) (by decide +kernel)) (goodIn_sub (fun w h => (List.mem_cons_of_mem _ (List.mem_append_right _ (List.mem_append_right _ (List.mem_append_right _ (List.mem_append_right _ (List.mem_append_right _ (List.mem_append_right _ (List.mem_append_left _ h))))))))) vg_n_isIn)
set_option maxHeartbeats 4000000 in
set_option maxRecDepth 100000 in
theorem n_guard (l : Launch) (dC : Nat → ClassId) (dI : Nat → Nat → Nat) (h : Nat) (ad : Nat → Nat) (cl : Nat → ClassId) (sz : Nat) (σ : MS) (x : Int32) (y : Int32) (z : Int32) (hI : Inv σ) : Met l yX12_guard vs_n_guard rm_n_guard (va_Pc [.ref h, .int x, .int y, .int z] (wSt dC dI (mW h ad cl σ) (mT cl) sz)) (va_Qi (fun (r : Int32) (τ : MS) => Inv τ ∧ eqx [50, 51, 52, 53] τ σ) (fun (τ : MS) => wEn dC dI (va_A (mW h ad cl σ) sz) (mW h ad cl τ) []) (va_A (mW h ad cl σ) sz)) 0 0 (va_A (mW h ad cl σ) sz) := by
  refine Met.ofW (cc := cX12_guard) (maxL := 4) (ret := (some .int)) (by decide) rfl ?_
  intro p e s m args below meth c s₁ B hml hv
  obtain ⟨rfl, hsz, hP, hK, hD0, hE⟩ := hv
  have hx := B.exec
  have hb := B.bytes
  have hr := B.returns
  have hts := atoms_spec (ws := vs_n_guard) B.pre
  have hown : s.vm.findClass RX12 = some m.cls := findClass_of_methodNamed B.named
  have hlocks := B.notSynchronized
  subst hsz
  have hD := hD0.self (sz := s.heap.size)
  generalize hAe : va_A (mW h ad cl σ) s.heap.size = A at hD ⊢
  have hA : ∀ q : Nat, s.heap.size ≤ q → A q := fun q h => by rw [← hAe]; exact Or.inr h
  have hl := lv_entry ([.ref h, .int x, .int y, .int z]) (n := 4) (Nat.le_of_ble_eq_true rfl)
  rw [lg_entry_eq]
  generalize (lg_sl ([.ref h, .int x, .int y, .int z]) ++ List.replicate (4 - (lg_sl ([.ref h, .int x, .int y, .int z])).length) Slot.unset).toArray = ls at hl ⊢
  have hl : lv_has ls 4 [(0, .ref h), (1, .int x), (2, .int y), (3, .int z)] := hl
  have ho := fun w (h : w ∈ ow_n_guard) => hts w (List.mem_cons_of_mem _ (List.mem_append_left _ h))
  have hin12 : ∀ w ∈ u_ws RX12 TX12 59, w ∈ vs_n_guard := fun w h => (List.mem_cons_of_mem _ (List.mem_append_right _ (List.mem_append_right _ (List.mem_append_right _ (List.mem_append_right _ (List.mem_append_right _ (List.mem_append_right _ (List.mem_append_right _ h))))))))
  refine zQ (fun Q hQ => ?_)
  refine zH (A := A) (ws := mW h ad cl σ) (fun H hP hS => ?_) hP
  have bσ_29 : 0 ≤ (σ.1 29).toInt ∧ (σ.1 29).toInt ≤ 1 := hI.1 29
  have bσ_53 : 0 ≤ (σ.1 53).toInt ∧ (σ.1 53).toInt ≤ 4 := hI.1 53
  refine lv_aload_n hx hb dX12_guard_0 rfl (lv_at hl 0 rfl) ?_
  refine lv_iload_n hx hb dX12_guard_1 rfl (lv_at hl 1 rfl) ?_
  refine zy_i (va_runV (As := [.int x]) (rest := []) ⟨hx, hb, hml, hown, hts⟩ (n_isEnd l dC dI h ad cl H.size σ x hI) (cwV 1 hts gd_n_guard_431_n_isEnd rfl rfl rfl dd_n_isEnd ⟨Nat.le_of_ble_eq_true rfl, Nat.le_of_ble_eq_true rfl⟩) (preV hP hK hD hE (ci := 12) (q0 := 0) rfl rfl) rfl rfl hl.1 rfl (lv_room (Nat.le_of_ble_eq_true rfl)) dX12_guard_2 ⟨Nat.le_of_ble_eq_true rfl, Nat.le_of_ble_eq_true rfl⟩) hD hS hA (fun z2_ τ1_ H locs hq hP hD hS => ?_)
  obtain ⟨rfl, f3_⟩ := hq
  refine W.widen (k := 0) (n := 0) (Nat.le_of_ble_eq_true rfl) (Nat.le_of_ble_eq_true rfl) ?_
  refine lv_if_eq (tgt := 35) hx hb dX12_guard_5 rfl (fun c4_ => ?_) (fun c4_ => ?_)
  · have tc4_ := (show z2_.toInt = 0 from ti_eq rfl rg_11 c4_)
    refine lv_iconst (v := (-1)) hx hb dX12_guard_35 rg_53 ?_
    rw [hQ]
    exact W.iret (v := (-1)) hx hb hr (fun t ht hW => ⟨⟨(-1), σ, rfl, ⟨hI, eqx.rf⟩, wEn_of hP (hK.sub [] rfl) hD ht hW⟩, hS.F ht⟩) hS.2.2 dX12_guard_36
  · have tc4_ := (show z2_.toInt ≠ 0 from ti_ne rfl rg_11 c4_)
    refine lv_aload_n hx hb dX12_guard_8 rfl (lv_at hl 0 rfl) ?_
    refine lv_iload_n hx hb dX12_guard_9 rfl (lv_at hl 2 rfl) ?_
    refine zy_i (va_runV (As := [.int y]) (rest := []) ⟨hx, hb, hml, hown, hts⟩ (n_isStep l dC dI h ad cl H.size σ y hI) (cwV 1 hts gd_n_guard_328_n_isStep rfl rfl rfl dd_n_isStep ⟨Nat.le_of_ble_eq_true rfl, Nat.le_of_ble_eq_true rfl⟩) (preV hP hK hD hE (ci := 12) (q0 := 0) rfl rfl) rfl rfl hl.1 rfl (lv_room (Nat.le_of_ble_eq_true rfl)) dX12_guard_10 ⟨Nat.le_of_ble_eq_true rfl, Nat.le_of_ble_eq_true rfl⟩) hD hS hA (fun z6_ τ5_ H locs hq hP hD hS => ?_)
    obtain ⟨rfl, f7_⟩ := hq
    refine W.widen (k := 0) (n := 0) (Nat.le_of_ble_eq_true rfl) (Nat.le_of_ble_eq_true rfl) ?_
    refine lv_if_eq (tgt := 35) hx hb dX12_guard_13 rfl (fun c8_ => ?_) (fun c8_ => ?_)
    · have tc8_ := (show z6_.toInt = 0 from ti_eq rfl rg_11 c8_)
      refine lv_iconst (v := (-1)) hx hb dX12_guard_35 rg_53 ?_
      rw [hQ]
      exact W.iret (v := (-1)) hx hb hr (fun t ht hW => ⟨⟨(-1), σ, rfl, ⟨hI, eqx.rf⟩, wEn_of hP (hK.sub [] rfl) hD ht hW⟩, hS.F ht⟩) hS.2.2 dX12_guard_36
    · have tc8_ := (show z6_.toInt ≠ 0 from ti_ne rfl rg_11 c8_)
      refine lv_iload_n hx hb dX12_guard_16 rfl (lv_at hl 3 rfl) ?_
      refine lv_iconst (v := 0) hx hb dX12_guard_17 rg_0 ?_
      refine lv_sipush (v := 9999) hx hb dX12_guard_18 rg_385 ?_
      have kk9_ : (0 : Int32).toInt = 0 := rg_11
      have kk10_ : (9999 : Int32).toInt = 9999 := rg_386
      refine zs_i (va_runS (As := [.int z, .int 0, .int 9999]) (rest := []) ⟨hx, hb, hml, hown, hts⟩ (n_isIn l dC dI z 0 9999  H.size) (va_cwS 3 hts gd_n_guard_324_n_isIn rfl rfl rfl dd_n_isIn ⟨Nat.le_of_ble_eq_true rfl, Nat.le_of_ble_eq_true rfl⟩) (preS (A := A) empP (hK.sub (tys' := []) [] rfl) empD hE) rfl rfl hl.1 rfl (lv_room (Nat.le_of_ble_eq_true rfl)) dX12_guard_21 ⟨Nat.le_of_ble_eq_true rfl, Nat.le_of_ble_eq_true rfl⟩) hP hD hS hA (fun z11_ H locs hq hP hD hS => ?_)
      have f12_ := hq
      refine W.widen (k := 0) (n := 0) (Nat.le_of_ble_eq_true rfl) (Nat.le_of_ble_eq_true rfl) ?_
      refine lv_if_eq (tgt := 35) hx hb dX12_guard_24 rfl (fun c13_ => ?_) (fun c13_ => ?_)
      · have tc13_ := (show z11_.toInt = 0 from ti_eq rfl rg_11 c13_)
        refine lv_iconst (v := (-1)) hx hb dX12_guard_35 rg_53 ?_
        rw [hQ]
        exact W.iret (v := (-1)) hx hb hr (fun t ht hW => ⟨⟨(-1), σ, rfl, ⟨hI, eqx.rf⟩, wEn_of hP (hK.sub [] rfl) hD ht hW⟩, hS.F ht⟩) hS.2.2 dX12_guard_36
      · have tc13_ := (show z11_.toInt ≠ 0 from ti_ne rfl rg_11 c13_)
        refine lv_aload_n hx hb dX12_guard_27 rfl (lv_at hl 0 rfl) ?_
        refine va_get (D := (dC, dI)) (ci := 12) (v := .int (σ.1 53)) (C := RX12) (T := TX12) (N := 59) hx hb hts hin12 hown hK hP 0 rfl rfl 53 (Nat.le_of_ble_eq_true rfl) (ho (.fieldLink RX12 255 "NearEnoughModel" "guards" "I") (List.mem_of_getElem? (i := 0) rfl)) (fun _ h9 => h9) rfl dX12_guard_28 ?_
        have bσ_53 : 0 ≤ (σ.1 53).toInt ∧ (σ.1 53).toInt ≤ 4 := hI.1 53
        refine lv_iconst (v := 4) hx hb dX12_guard_31 rg_31 ?_
        refine lv_icmp_ne (tgt := 37) hx hb dX12_guard_32 rfl (fun c14_ => ?_) (fun c14_ => ?_)
        · have tc14_ := (show (σ.1 53).toInt ≠ 4 from ti_ne rfl rg_32 c14_)
          refine lv_aload_n hx hb dX12_guard_37 rfl (lv_at hl 0 rfl) ?_
          refine va_get (D := (dC, dI)) (ci := 12) (v := .ref (ad 50)) (C := RX12) (T := TX12) (N := 59) hx hb hts hin12 hown hK hP 0 rfl rfl 50 (Nat.le_of_ble_eq_true rfl) (ho (.fieldLink RX12 116 "NearEnoughModel" "gEnd" "[I") (List.mem_of_getElem? (i := 1) rfl)) (fun _ h9 => h9) rfl dX12_guard_38 ?_
          refine lv_aload_n hx hb dX12_guard_41 rfl (lv_at hl 0 rfl) ?_
          refine va_get (D := (dC, dI)) (ci := 12) (v := .int (σ.1 53)) (C := RX12) (T := TX12) (N := 59) hx hb hts hin12 hown hK hP 0 rfl rfl 53 (Nat.le_of_ble_eq_true rfl) (ho (.fieldLink RX12 255 "NearEnoughModel" "guards" "I") (List.mem_of_getElem? (i := 0) rfl)) (fun _ h9 => h9) rfl dX12_guard_42 ?_
          have bσ_53 : 0 ≤ (σ.1 53).toInt ∧ (σ.1 53).toInt ≤ 4 := hI.1 53
          refine lv_iload_n hx hb dX12_guard_45 rfl (lv_at hl 1 rfl) ?_
          have o1 : 0 ≤ (σ.1 53).toInt := by omega
          have o2 : (σ.1 53).toInt < ((4 : Nat) : Int) := by omega
          refine va_iast hx hb hK hP hD hS 34 33 rfl rfl (ti_inx o1 o2) dX12_guard_46 (fun H locs hP hD hS => ?_)
          rw [wS50] at hP hD
          obtain ⟨τ15_, eτ15_⟩ : ∃ x9 : MS, x9 = sA σ 50 (upd (σ.2.1 50) (Int32.toNatClampNeg (σ.1 53)) x) := ⟨_, rfl⟩
          have hP : va_P (dC, dI) vwCl (mW h ad cl τ15_) H := by rw [eτ15_]; exact hP
          have hD : va_D A (mW h ad cl τ15_) := by rw [eτ15_]; exact hD
          have hIτ15_ : Inv τ15_ := by rw [eτ15_]; exact (Inv_sA1 hI (fun j _ => Inv.any _))
          have Xτ15_ : eqx [50, 51, 52, 53] τ15_ σ := (eqx.eq eτ15_ (eqx.sA eqx.rf rg_601))
          have qq16_ : (τ15_.1 29).toInt = ((σ.1 29) : Int32).toInt := congrArg Int32.toInt ((show τ15_.1 29 = (σ.1 29) from (congrArg (fun x9 : MS => x9.1 29) eτ15_).trans rfl))
          have qq17_ : (τ15_.1 53).toInt = ((σ.1 53) : Int32).toInt := congrArg Int32.toInt ((show τ15_.1 53 = (σ.1 53) from (congrArg (fun x9 : MS => x9.1 53) eτ15_).trans rfl))
          refine lv_aload_n hx hb dX12_guard_47 rfl (lv_at hl 0 rfl) ?_
          refine va_get (D := (dC, dI)) (ci := 12) (v := .ref (ad 51)) (C := RX12) (T := TX12) (N := 59) hx hb hts hin12 hown hK hP 0 rfl rfl 51 (Nat.le_of_ble_eq_true rfl) (ho (.fieldLink RX12 119 "NearEnoughModel" "gStep" "[I") (List.mem_of_getElem? (i := 2) rfl)) (fun _ h9 => h9) rfl dX12_guard_48 ?_
          refine lv_aload_n hx hb dX12_guard_51 rfl (lv_at hl 0 rfl) ?_
          refine va_get (D := (dC, dI)) (ci := 12) (v := .int (τ15_.1 53)) (C := RX12) (T := TX12) (N := 59) hx hb hts hin12 hown hK hP 0 rfl rfl 53 (Nat.le_of_ble_eq_true rfl) (ho (.fieldLink RX12 255 "NearEnoughModel" "guards" "I") (List.mem_of_getElem? (i := 0) rfl)) (fun _ h9 => h9) rfl dX12_guard_52 ?_
          refine zi (v := (σ.1 53)) (show τ15_.1 53 = (σ.1 53) from (congrArg (fun x9 : MS => x9.1 53) eτ15_).trans rfl) ?_
          have bb18_ : 0 ≤ (σ.1 53).toInt ∧ (σ.1 53).toInt ≤ 4 := by have h9 := hIτ15_.1 53; rw [show (τ15_.1 53) = (σ.1 53) from (show τ15_.1 53 = (σ.1 53) from (congrArg (fun x9 : MS => x9.1 53) eτ15_).trans rfl)] at h9; exact h9
          refine lv_iload_n hx hb dX12_guard_55 rfl (lv_at hl 2 rfl) ?_
          refine va_iast hx hb hK hP hD hS 35 34 rfl rfl (ti_inx o1 o2) dX12_guard_56 (fun H locs hP hD hS => ?_)
          rw [wS51] at hP hD
          obtain ⟨τ19_, eτ19_⟩ : ∃ x9 : MS, x9 = sA τ15_ 51 (upd (τ15_.2.1 51) (Int32.toNatClampNeg (σ.1 53)) y) := ⟨_, rfl⟩
          have hP : va_P (dC, dI) vwCl (mW h ad cl τ19_) H := by rw [eτ19_]; exact hP
          have hD : va_D A (mW h ad cl τ19_) := by rw [eτ19_]; exact hD
          have o3 : (0 : Int) ≤ (y : Int32).toInt := by omega
          have o4 : (y : Int32).toInt ≤ 11 := by omega
          have hIτ19_ : Inv τ19_ := by rw [eτ19_]; exact (Inv_sA1 hIτ15_ (rgu (hIτ15_.2 51) (show (0 : Int) ≤ (y : Int32).toInt ∧ (y : Int32).toInt ≤ 11 from ⟨o3, o4⟩)))
          have Xτ19_ : eqx [50, 51, 52, 53] τ19_ σ := (eqx.eq eτ19_ (eqx.sA Xτ15_ rg_602))
          have qq20_ : (τ19_.1 29).toInt = ((σ.1 29) : Int32).toInt := congrArg Int32.toInt ((show τ19_.1 29 = (σ.1 29) from (congrArg (fun x9 : MS => x9.1 29) eτ19_).trans (show τ15_.1 29 = (σ.1 29) from (congrArg (fun x9 : MS => x9.1 29) eτ15_).trans rfl)))
          have qq21_ : (τ19_.1 53).toInt = ((σ.1 53) : Int32).toInt := congrArg Int32.toInt ((show τ19_.1 53 = (σ.1 53) from (congrArg (fun x9 : MS => x9.1 53) eτ19_).trans (show τ15_.1 53 = (σ.1 53) from (congrArg (fun x9 : MS => x9.1 53) eτ15_).trans rfl)))
          refine lv_aload_n hx hb dX12_guard_57 rfl (lv_at hl 0 rfl) ?_
          refine va_get (D := (dC, dI)) (ci := 12) (v := .ref (ad 52)) (C := RX12) (T := TX12) (N := 59) hx hb hts hin12 hown hK hP 0 rfl rfl 52 (Nat.le_of_ble_eq_true rfl) (ho (.fieldLink RX12 122 "NearEnoughModel" "gWithin" "[I") (List.mem_of_getElem? (i := 3) rfl)) (fun _ h9 => h9) rfl dX12_guard_58 ?_
          refine lv_aload_n hx hb dX12_guard_61 rfl (lv_at hl 0 rfl) ?_
          refine va_get (D := (dC, dI)) (ci := 12) (v := .int (τ19_.1 53)) (C := RX12) (T := TX12) (N := 59) hx hb hts hin12 hown hK hP 0 rfl rfl 53 (Nat.le_of_ble_eq_true rfl) (ho (.fieldLink RX12 255 "NearEnoughModel" "guards" "I") (List.mem_of_getElem? (i := 0) rfl)) (fun _ h9 => h9) rfl dX12_guard_62 ?_
          refine zi (v := (σ.1 53)) (show τ19_.1 53 = (σ.1 53) from (congrArg (fun x9 : MS => x9.1 53) eτ19_).trans (show τ15_.1 53 = (σ.1 53) from (congrArg (fun x9 : MS => x9.1 53) eτ15_).trans rfl)) ?_
          have bb22_ : 0 ≤ (σ.1 53).toInt ∧ (σ.1 53).toInt ≤ 4 := by have h9 := hIτ19_.1 53; rw [show (τ19_.1 53) = (σ.1 53) from (show τ19_.1 53 = (σ.1 53) from (congrArg (fun x9 : MS => x9.1 53) eτ19_).trans (show τ15_.1 53 = (σ.1 53) from (congrArg (fun x9 : MS => x9.1 53) eτ15_).trans rfl))] at h9; exact h9
          refine lv_iload_n hx hb dX12_guard_65 rfl (lv_at hl 3 rfl) ?_
          refine va_iast hx hb hK hP hD hS 36 35 rfl rfl (ti_inx o1 o2) dX12_guard_66 (fun H locs hP hD hS => ?_)
          rw [wS52] at hP hD
          obtain ⟨τ23_, eτ23_⟩ : ∃ x9 : MS, x9 = sA τ19_ 52 (upd (τ19_.2.1 52) (Int32.toNatClampNeg (σ.1 53)) z) := ⟨_, rfl⟩
          have hP : va_P (dC, dI) vwCl (mW h ad cl τ23_) H := by rw [eτ23_]; exact hP
          have hD : va_D A (mW h ad cl τ23_) := by rw [eτ23_]; exact hD
          have hIτ23_ : Inv τ23_ := by rw [eτ23_]; exact (Inv_sA1 hIτ19_ (fun j _ => Inv.any _))
          have Xτ23_ : eqx [50, 51, 52, 53] τ23_ σ := (eqx.eq eτ23_ (eqx.sA Xτ19_ rg_603))
          have qq24_ : (τ23_.1 29).toInt = ((σ.1 29) : Int32).toInt := congrArg Int32.toInt ((show τ23_.1 29 = (σ.1 29) from (congrArg (fun x9 : MS => x9.1 29) eτ23_).trans (show τ19_.1 29 = (σ.1 29) from (congrArg (fun x9 : MS => x9.1 29) eτ19_).trans (show τ15_.1 29 = (σ.1 29) from (congrArg (fun x9 : MS => x9.1 29) eτ15_).trans rfl))))
          have qq25_ : (τ23_.1 53).toInt = ((σ.1 53) : Int32).toInt := congrArg Int32.toInt ((show τ23_.1 53 = (σ.1 53) from (congrArg (fun x9 : MS => x9.1 53) eτ23_).trans (show τ19_.1 53 = (σ.1 53) from (congrArg (fun x9 : MS => x9.1 53) eτ19_).trans (show τ15_.1 53 = (σ.1 53) from (congrArg (fun x9 : MS => x9.1 53) eτ15_).trans rfl))))
          refine lv_aload_n hx hb dX12_guard_67 rfl (lv_at hl 0 rfl) ?_
          refine lv_dup hx hb dX12_guard_68 rfl ?_
          refine va_get (D := (dC, dI)) (ci := 12) (v := .int (τ23_.1 53)) (C := RX12) (T := TX12) (N := 59) hx hb hts hin12 hown hK hP 0 rfl rfl 53 (Nat.le_of_ble_eq_true rfl) (ho (.fieldLink RX12 255 "NearEnoughModel" "guards" "I") (List.mem_of_getElem? (i := 0) rfl)) (fun _ h9 => h9) rfl dX12_guard_69 ?_
          refine zi (v := (σ.1 53)) (show τ23_.1 53 = (σ.1 53) from (congrArg (fun x9 : MS => x9.1 53) eτ23_).trans (show τ19_.1 53 = (σ.1 53) from (congrArg (fun x9 : MS => x9.1 53) eτ19_).trans (show τ15_.1 53 = (σ.1 53) from (congrArg (fun x9 : MS => x9.1 53) eτ15_).trans rfl))) ?_
          have bb26_ : 0 ≤ (σ.1 53).toInt ∧ (σ.1 53).toInt ≤ 4 := by have h9 := hIτ23_.1 53; rw [show (τ23_.1 53) = (σ.1 53) from (show τ23_.1 53 = (σ.1 53) from (congrArg (fun x9 : MS => x9.1 53) eτ23_).trans (show τ19_.1 53 = (σ.1 53) from (congrArg (fun x9 : MS => x9.1 53) eτ19_).trans (show τ15_.1 53 = (σ.1 53) from (congrArg (fun x9 : MS => x9.1 53) eτ15_).trans rfl)))] at h9; exact h9
          refine lv_iconst (v := 1) hx hb dX12_guard_72 rg_6 ?_
          refine lv_iadd hx hb dX12_guard_73 ?_
          refine lv_topi (fun z27_ ez27_ => ?_)
          have o5 : -2147483648 ≤ (σ.1 53).toInt + 1 := by omega
          have o6 : (σ.1 53).toInt + 1 ≤ 2147483647 := by omega
          have tz27_ : z27_.toInt = (σ.1 53).toInt + 1 := ti_add ez27_ rfl rg_18 o5 o6
          refine va_put (D := (dC, dI)) (ci := 12) (v := .int z27_) (ty := tyX12 53) (C := RX12) (T := TX12) (N := 59) hx hb hts hin12 tyX12 tyX12_ok nmX12 hown hK hP hD hS 0 rfl rfl 53 (Nat.le_of_ble_eq_true rfl) (ho (.fieldLink RX12 255 "NearEnoughModel" "guards" "I") (List.mem_of_getElem? (i := 0) rfl)) (fun _ h9 => h9) rfl (tyX12_ok 53 (Nat.le_of_ble_eq_true rfl)) rfl rfl (Nat.le_of_ble_eq_true rfl) dX12_guard_74 (fun H locs hP hD hS => ?_)
          have hP : va_P (dC, dI) vwCl (mW h ad cl (sI τ23_ 53 z27_)) H := hP
          have hD : va_D A (mW h ad cl (sI τ23_ 53 z27_)) := hD
          refine lv_aload_n hx hb dX12_guard_77 rfl (lv_at hl 0 rfl) ?_
          refine va_get (D := (dC, dI)) (ci := 12) (v := .int z27_) (C := RX12) (T := TX12) (N := 59) hx hb hts hin12 hown hK hP 0 rfl rfl 53 (Nat.le_of_ble_eq_true rfl) (ho (.fieldLink RX12 255 "NearEnoughModel" "guards" "I") (List.mem_of_getElem? (i := 0) rfl)) (fun _ h9 => h9) rfl dX12_guard_78 ?_
          refine lv_iconst (v := 1) hx hb dX12_guard_81 rg_6 ?_
          refine lv_isub hx hb dX12_guard_82 ?_
          refine lv_topi (fun z28_ ez28_ => ?_)
          have o7 : -2147483648 ≤ z27_.toInt - 1 := by omega
          have o8 : z27_.toInt - 1 ≤ 2147483647 := by omega
          have tz28_ : z28_.toInt = z27_.toInt - 1 := ti_sub ez28_ rfl rg_18 o7 o8
          rw [hQ]
          have o9 : (0 : Int) ≤ z27_.toInt := by omega
          have o10 : z27_.toInt ≤ 4 := by omega
          exact W.iret (v := z28_) hx hb hr (fun t ht hW => ⟨⟨z28_, (sI τ23_ 53 z27_), rfl, ⟨(Inv.sI (k := 53) (v := z27_) hIτ23_ (show (0 : Int) ≤ z27_.toInt ∧ z27_.toInt ≤ 4 from ⟨o9, o10⟩)), (eqx.sI Xτ23_ rg_604)⟩, wEn_of hP (hK.sub [] rfl) hD ht hW⟩, hS.F ht⟩) hS.2.2 dX12_guard_83
        · have tc14_ := (show (σ.1 53).toInt = 4 from ti_eq rfl rg_32 c14_)
          refine lv_iconst (v := (-1)) hx hb dX12_guard_35 rg_53 ?_
          rw [hQ]
          exact W.iret (v := (-1)) hx hb hr (fun t ht hW => ⟨⟨(-1), σ, rfl, ⟨hI, eqx.rf⟩, wEn_of hP (hK.sub [] rfl) hD ht hW⟩, hS.F ht⟩) hS.2.2 dX12_guard_36
def ow_n_turnsBack : List Cond := [.fieldLink RX12 255 "NearEnoughModel" "guards" "I", .fieldLink RX12 101 "NearEnoughModel" "came" "[J", .fieldLink RX12 54 "NearEnoughModel" "eStep" "[I", .fieldLink RX12 240 "NearEnoughModel" "bank" "I", .fieldLink RX12 119 "NearEnoughModel" "gStep" "[I", .fieldLink RX12 116 "NearEnoughModel" "gEnd" "[I", .fieldLink RX12 122 "NearEnoughModel" "gWithin" "[I"]
def vs_n_turnsBack : List Cond := .code yX12_turnsBack cX12_turnsBack 5 (some .boolean) :: (ow_n_turnsBack ++ (wsX120))
theorem vg_n_turnsBack : vs_n_turnsBack.all goodWord = true := by decide +kernel
theorem dd_n_turnsBack : yX12_turnsBack.cls = RX12 ∧ yX12_turnsBack.cls ≠ "java/lang/invoke/MethodHandle" ∧ yX12_turnsBack.cls ≠ "java/lang/invoke/VarHandle" ∧ (parseMethodDescriptor yX12_turnsBack.desc).map (fun d => d.parameters.length) = some 1 := by decide +kernel
def rm_n_turnsBack : Room := { frames := 0, cells := 0, slots := 0, locals := 0 }
set_option maxHeartbeats 4000000 in
set_option maxRecDepth 100000 in
theorem n_turnsBack (l : Launch) (dC : Nat → ClassId) (dI : Nat → Nat → Nat) (h : Nat) (ad : Nat → Nat) (cl : Nat → ClassId) (sz : Nat) (σ : MS) (x : Int32) (hI : Inv σ) (hR : RelP σ (σ.1 29).toNatClampNeg) (he : EndOk σ x) : Met l yX12_turnsBack vs_n_turnsBack rm_n_turnsBack (va_Pc [.ref h, .int x] (wSt dC dI (mW h ad cl σ) (mT cl) sz)) (va_Qi (fun (r : Int32) (τ : MS) => σ = τ) (fun (τ : MS) => wEn dC dI (va_A (mW h ad cl σ) sz) (mW h ad cl τ) []) (va_A (mW h ad cl σ) sz)) 0 0 (va_A (mW h ad cl σ) sz) := by
  refine Met.ofW (cc := cX12_turnsBack) (maxL := 5) (ret := (some .boolean)) (by decide) rfl ?_
  intro p e s m args below meth c s₁ B hml hv
  obtain ⟨rfl, hsz, hP, hK, hD0, hE⟩ := hv
  have hx := B.exec
  have hb := B.bytes
  have hr := B.returns
  have hts := atoms_spec (ws := vs_n_turnsBack) B.pre
  have hown : s.vm.findClass RX12 = some m.cls := findClass_of_methodNamed B.named
  have hlocks := B.notSynchronized
  subst hsz
  have hD := hD0.self (sz := s.heap.size)
  generalize hAe : va_A (mW h ad cl σ) s.heap.size = A at hD ⊢
  have hA : ∀ q : Nat, s.heap.size ≤ q → A q := fun q h => by rw [← hAe]; exact Or.inr h
  have hl := lv_entry ([.ref h, .int x]) (n := 5) (Nat.le_of_ble_eq_true rfl)
  rw [lg_entry_eq]
  generalize (lg_sl ([.ref h, .int x]) ++ List.replicate (5 - (lg_sl ([.ref h, .int x])).length) Slot.unset).toArray = ls at hl ⊢
  have hl : lv_has ls 5 [(0, .ref h), (1, .int x)] := hl
  have ho := fun w (h : w ∈ ow_n_turnsBack) => hts w (List.mem_cons_of_mem _ (List.mem_append_left _ h))
  have hin12 : ∀ w ∈ u_ws RX12 TX12 59, w ∈ vs_n_turnsBack := fun w h => (List.mem_cons_of_mem _ (List.mem_append_right _ h))
  refine zQ (fun Q hQ => ?_)
  have he0 := he
  unfold EndOk at he0
  have pt_2 : ∀ (n2 : Nat) (kv : Int32) (H : Heap) (locs : List Loc) (ls : Array Slot), (4 - kv.toInt).toNat < n2 → (0 ≤ kv.toInt) → va_P (dC, dI) vwCl (mW h ad cl σ) H → va_D A (mW h ad cl σ) → va_S A s.heap H locs → lv_has ls 5 [(0, .ref h), (1, .int x), (2, .int kv)] → W p l e (headSpec vs_n_turnsBack rm_n_turnsBack).room s m #[Value.ref h, Value.int x] below meth c H locs 0 0 Q (F0 m 2 ls []) := by
    intro n2
    induction n2 with
    | zero => intro kv H locs ls hn2 hk0 hP hD hS hl; exact absurd hn2 (Nat.not_lt_zero _)
    | succ n2 ih2 =>
      intro kv H locs ls hn2 hk0 hP hD hS hl
      have bσ_29 : 0 ≤ (σ.1 29).toInt ∧ (σ.1 29).toInt ≤ 1 := hI.1 29
      have bσ_53 : 0 ≤ (σ.1 53).toInt ∧ (σ.1 53).toInt ≤ 4 := hI.1 53
      refine lv_iload_n hx hb dX12_turnsBack_2 rfl (lv_at hl 2 rfl) ?_
      refine lv_aload_n hx hb dX12_turnsBack_3 rfl (lv_at hl 0 rfl) ?_
      refine va_get (D := (dC, dI)) (ci := 12) (v := .int (σ.1 53)) (C := RX12) (T := TX12) (N := 59) hx hb hts hin12 hown hK hP 0 rfl rfl 53 (Nat.le_of_ble_eq_true rfl) (ho (.fieldLink RX12 255 "NearEnoughModel" "guards" "I") (List.mem_of_getElem? (i := 0) rfl)) (fun _ h9 => h9) rfl dX12_turnsBack_4 ?_
      have bσ_53 : 0 ≤ (σ.1 53).toInt ∧ (σ.1 53).toInt ≤ 4 := hI.1 53
      refine lv_icmp_ge (tgt := 84) hx hb dX12_turnsBack_7 rfl (fun c1_ => ?_) (fun c1_ => ?_)
      · have tc1_ := (show (σ.1 53).toInt ≤ kv.toInt from ti_le rfl rfl c1_)
        refine lv_iconst (v := 0) hx hb dX12_turnsBack_84 rg_0 ?_
        rw [hQ]
        exact W.zret (v := 0) hx hb hr rfl (fun t ht hW => ⟨⟨0, σ, rfl, rfl, wEn_of hP (hK.sub [] rfl) hD ht hW⟩, hS.F ht⟩) hS.2.2 dX12_turnsBack_85
      · have tc1_ := (show kv.toInt < (σ.1 53).toInt from ti_nle rfl rfl c1_)
        refine lv_aload_n hx hb dX12_turnsBack_10 rfl (lv_at hl 0 rfl) ?_
        refine va_get (D := (dC, dI)) (ci := 12) (v := .ref (ad 41)) (C := RX12) (T := TX12) (N := 59) hx hb hts hin12 hown hK hP 0 rfl rfl 41 (Nat.le_of_ble_eq_true rfl) (ho (.fieldLink RX12 101 "NearEnoughModel" "came" "[J") (List.mem_of_getElem? (i := 1) rfl)) (fun _ h9 => h9) rfl dX12_turnsBack_11 ?_
        refine lv_aload_n hx hb dX12_turnsBack_14 rfl (lv_at hl 0 rfl) ?_
        refine va_get (D := (dC, dI)) (ci := 12) (v := .ref (ad 22)) (C := RX12) (T := TX12) (N := 59) hx hb hts hin12 hown hK hP 0 rfl rfl 22 (Nat.le_of_ble_eq_true rfl) (ho (.fieldLink RX12 54 "NearEnoughModel" "eStep" "[I") (List.mem_of_getElem? (i := 2) rfl)) (fun _ h9 => h9) rfl dX12_turnsBack_15 ?_
        refine lv_iconst (v := 4) hx hb dX12_turnsBack_18 rg_31 ?_
        refine lv_aload_n hx hb dX12_turnsBack_19 rfl (lv_at hl 0 rfl) ?_
        refine va_get (D := (dC, dI)) (ci := 12) (v := .int (σ.1 29)) (C := RX12) (T := TX12) (N := 59) hx hb hts hin12 hown hK hP 0 rfl rfl 29 (Nat.le_of_ble_eq_true rfl) (ho (.fieldLink RX12 240 "NearEnoughModel" "bank" "I") (List.mem_of_getElem? (i := 3) rfl)) (fun _ h9 => h9) rfl dX12_turnsBack_20 ?_
        have bσ_29 : 0 ≤ (σ.1 29).toInt ∧ (σ.1 29).toInt ≤ 1 := hI.1 29
        refine lv_imul hx hb dX12_turnsBack_23 ?_
        refine lv_topi (fun z2_ ez2_ => ?_)
        have o1 : -2147483648 ≤ 4 * (σ.1 29).toInt := by omega
        have o2 : 4 * (σ.1 29).toInt ≤ 2147483647 := by omega
        have tz2_ : z2_.toInt = 4 * (σ.1 29).toInt := ti_mul ez2_ rg_32 rfl o1 o2
        refine lv_iload_n hx hb dX12_turnsBack_24 rfl (lv_at hl 1 rfl) ?_
        refine lv_iadd hx hb dX12_turnsBack_25 ?_
        refine lv_topi (fun z3_ ez3_ => ?_)
        have o3 : -2147483648 ≤ z2_.toInt + x.toInt := by omega
        have o4 : z2_.toInt + x.toInt ≤ 2147483647 := by omega
        have tz3_ : z3_.toInt = z2_.toInt + x.toInt := ti_add ez3_ rfl rfl o3 o4
        have o5 : 0 ≤ z3_.toInt := by omega
        have o6 : z3_.toInt < ((8 : Nat) : Int) := by omega
        refine va_iald hx hb hK hP 14 13 rfl rfl (ti_inx o5 o6) dX12_turnsBack_26 ?_
        refine lv_topi (fun z4_ ez4_ => ?_)
        have gz4_ : z4_.toInt = ((σ.2.1 22) (Int32.toNatClampNeg z3_)).toInt := congrArg Int32.toInt (ez4_.trans (congrFun rfl (Int32.toNatClampNeg z3_)))
        have bz4_ : (-1) ≤ z4_.toInt ∧ z4_.toInt ≤ 11 := by rw [ez4_]; exact (hI.2 22) _ (cl_lt (n := 8) o5 o6)
        have EQ6_ : z4_ = σ.2.1 22 (Int32.toNatClampNeg z3_) := ez4_.trans (congrFun rfl (Int32.toNatClampNeg z3_))
        have o7 : z3_.toInt = 4 * (σ.1 29).toInt + x.toInt := by omega
        have EN5_ := end_ld hI hR he o7 EQ6_
        have o8 : 0 ≤ z4_.toInt := by omega
        have o9 : z4_.toInt < ((12 : Nat) : Int) := by omega
        refine va_lald hx hb hK hP 29 28 rfl rfl (ti_inx o8 o9) dX12_turnsBack_27 ?_
        refine lv_topl (fun y7_ ey7_ => ?_)
        refine lv_aload_n hx hb dX12_turnsBack_28 rfl (lv_at hl 0 rfl) ?_
        refine va_get (D := (dC, dI)) (ci := 12) (v := .ref (ad 41)) (C := RX12) (T := TX12) (N := 59) hx hb hts hin12 hown hK hP 0 rfl rfl 41 (Nat.le_of_ble_eq_true rfl) (ho (.fieldLink RX12 101 "NearEnoughModel" "came" "[J") (List.mem_of_getElem? (i := 1) rfl)) (fun _ h9 => h9) rfl dX12_turnsBack_29 ?_
        refine lv_aload_n hx hb dX12_turnsBack_32 rfl (lv_at hl 0 rfl) ?_
        refine va_get (D := (dC, dI)) (ci := 12) (v := .ref (ad 51)) (C := RX12) (T := TX12) (N := 59) hx hb hts hin12 hown hK hP 0 rfl rfl 51 (Nat.le_of_ble_eq_true rfl) (ho (.fieldLink RX12 119 "NearEnoughModel" "gStep" "[I") (List.mem_of_getElem? (i := 4) rfl)) (fun _ h9 => h9) rfl dX12_turnsBack_33 ?_
        refine lv_iload_n hx hb dX12_turnsBack_36 rfl (lv_at hl 2 rfl) ?_
        have o10 : 0 ≤ kv.toInt := by omega
        have o11 : kv.toInt < ((4 : Nat) : Int) := by omega
        refine va_iald hx hb hK hP 35 34 rfl rfl (ti_inx o10 o11) dX12_turnsBack_37 ?_
        refine lv_topi (fun z8_ ez8_ => ?_)
        have gz8_ : z8_.toInt = ((σ.2.1 51) (Int32.toNatClampNeg kv)).toInt := congrArg Int32.toInt (ez8_.trans (congrFun rfl (Int32.toNatClampNeg kv)))
        have bz8_ : 0 ≤ z8_.toInt ∧ z8_.toInt ≤ 11 := by rw [ez8_]; exact (hI.2 51) _ (cl_lt (n := 4) o10 o11)
        have o12 : 0 ≤ z8_.toInt := by omega
        have o13 : z8_.toInt < ((12 : Nat) : Int) := by omega
        refine va_lald hx hb hK hP 29 28 rfl rfl (ti_inx o12 o13) dX12_turnsBack_38 ?_
        refine lv_topl (fun y9_ ey9_ => ?_)
        refine lv_lsub hx hb dX12_turnsBack_39 ?_
        refine lv_topl (fun y10_ ey10_ => ?_)
        refine lv_lstore_n (lv' := [(3, .long y10_), (0, .ref h), (1, .int x), (2, .int kv)]) hx hb dX12_turnsBack_40 rfl hl (Nat.le_of_ble_eq_true rfl) rfl (fun ls hl => ?_)
        refine lv_aload_n hx hb dX12_turnsBack_41 rfl (lv_at hl 1 rfl) ?_
        refine va_get (D := (dC, dI)) (ci := 12) (v := .ref (ad 50)) (C := RX12) (T := TX12) (N := 59) hx hb hts hin12 hown hK hP 0 rfl rfl 50 (Nat.le_of_ble_eq_true rfl) (ho (.fieldLink RX12 116 "NearEnoughModel" "gEnd" "[I") (List.mem_of_getElem? (i := 5) rfl)) (fun _ h9 => h9) rfl dX12_turnsBack_42 ?_
        refine lv_iload_n hx hb dX12_turnsBack_45 rfl (lv_at hl 3 rfl) ?_
        refine va_iald hx hb hK hP 34 33 rfl rfl (ti_inx o10 o11) dX12_turnsBack_46 ?_
        refine lv_topi (fun z11_ ez11_ => ?_)
        have gz11_ : z11_.toInt = ((σ.2.1 50) (Int32.toNatClampNeg kv)).toInt := congrArg Int32.toInt (ez11_.trans (congrFun rfl (Int32.toNatClampNeg kv)))
        refine lv_iload_n hx hb dX12_turnsBack_47 rfl (lv_at hl 2 rfl) ?_
        refine lv_icmp_ne (tgt := 78) hx hb dX12_turnsBack_48 rfl (fun c12_ => ?_) (fun c12_ => ?_)
        · have tc12_ := (show z11_.toInt ≠ x.toInt from ti_ne rfl rfl c12_)
          obtain ⟨z13_, ez13_⟩ : ∃ y : Int32, y = kv + 1 := ⟨_, rfl⟩
          have o14 : -2147483648 ≤ kv.toInt + 1 := by omega
          have o15 : kv.toInt + 1 ≤ 2147483647 := by omega
          have tz13_ := ti_add ez13_ rfl rg_18 o14 o15
          refine lv_iinc (v := z13_) (lv' := [(2, .int z13_), (3, .long y10_), (0, .ref h), (1, .int x)]) hx hb dX12_turnsBack_78 hl (k := 3) rfl (iincp ez13_ rg_6) (Nat.le_of_ble_eq_true rfl) rfl (fun ls hl => ?_)
          refine lv_goto (tgt := 2) hx hb dX12_turnsBack_81 rfl ?_
          have o16 : (4 - z13_.toInt).toNat < n2 := by omega
          have o17 : 0 ≤ z13_.toInt := by omega
          exact ih2  z13_ _ _ _ (show (4 - z13_.toInt).toNat < n2 from o16) (show 0 ≤ z13_.toInt from o17) hP hD hS (lv_sub hl [2, 3, 0] rfl)
        · have tc12_ := (show z11_.toInt = x.toInt from ti_eq rfl rfl c12_)
          refine lv_lload_n hx hb dX12_turnsBack_51 rfl (lv_at hl 0 rfl) ?_
          refine lv_aload_n hx hb dX12_turnsBack_52 rfl (lv_at hl 1 rfl) ?_
          refine va_get (D := (dC, dI)) (ci := 12) (v := .ref (ad 52)) (C := RX12) (T := TX12) (N := 59) hx hb hts hin12 hown hK hP 0 rfl rfl 52 (Nat.le_of_ble_eq_true rfl) (ho (.fieldLink RX12 122 "NearEnoughModel" "gWithin" "[I") (List.mem_of_getElem? (i := 6) rfl)) (fun _ h9 => h9) rfl dX12_turnsBack_53 ?_
          refine lv_iload_n hx hb dX12_turnsBack_56 rfl (lv_at hl 3 rfl) ?_
          refine va_iald hx hb hK hP 36 35 rfl rfl (ti_inx o10 o11) dX12_turnsBack_57 ?_
          refine lv_topi (fun z14_ ez14_ => ?_)
          have gz14_ : z14_.toInt = ((σ.2.1 52) (Int32.toNatClampNeg kv)).toInt := congrArg Int32.toInt (ez14_.trans (congrFun rfl (Int32.toNatClampNeg kv)))
          refine lv_i2l hx hb dX12_turnsBack_58 rfl ?_
          refine lv_topl (fun y15_ ey15_ => ?_)
          refine W.lcmp hx hb dX12_turnsBack_59 ?_
          refine lv_topi (fun z16_ ez16_ => ?_)
          refine lv_if_gt (tgt := 76) hx hb dX12_turnsBack_60 rfl (fun c17_ => ?_) (fun c17_ => ?_)
          · have tc17_ := (show 0 < z16_.toInt from ti_lt rg_11 rfl c17_)
            have lc17_ : y15_ < y10_ := (lg_cmp_gt y10_ y15_).mp (by rw [← ez16_]; exact c17_)
            refine lv_iconst (v := 1) hx hb dX12_turnsBack_76 rg_6 ?_
            rw [hQ]
            exact W.zret (v := 1) hx hb hr rfl (fun t ht hW => ⟨⟨1, σ, rfl, rfl, wEn_of hP (hK.sub [] rfl) hD ht hW⟩, hS.F ht⟩) hS.2.2 dX12_turnsBack_77
          · have tc17_ := (show z16_.toInt ≤ 0 from ti_nlt rg_11 rfl c17_)
            have lc17_ : ¬ y15_ < y10_ := fun h => c17_ (by rw [ez16_]; exact (lg_cmp_gt y10_ y15_).mpr h)
            refine lv_lload_n hx hb dX12_turnsBack_63 rfl (lv_at hl 0 rfl) ?_
            refine lv_lneg hx hb dX12_turnsBack_64 ?_
            refine lv_topl (fun y18_ ey18_ => ?_)
            refine lv_aload_n hx hb dX12_turnsBack_65 rfl (lv_at hl 1 rfl) ?_
            refine va_get (D := (dC, dI)) (ci := 12) (v := .ref (ad 52)) (C := RX12) (T := TX12) (N := 59) hx hb hts hin12 hown hK hP 0 rfl rfl 52 (Nat.le_of_ble_eq_true rfl) (ho (.fieldLink RX12 122 "NearEnoughModel" "gWithin" "[I") (List.mem_of_getElem? (i := 6) rfl)) (fun _ h9 => h9) rfl dX12_turnsBack_66 ?_
            refine lv_iload_n hx hb dX12_turnsBack_69 rfl (lv_at hl 3 rfl) ?_
            refine va_iald hx hb hK hP 36 35 rfl rfl (ti_inx o10 o11) dX12_turnsBack_70 ?_
            refine lv_topi (fun z19_ ez19_ => ?_)
            have qq20_ : z19_.toInt = z14_.toInt := congrArg Int32.toInt ((ez19_.trans (congrFun rfl (Int32.toNatClampNeg kv))).trans ((ez14_.trans (congrFun rfl (Int32.toNatClampNeg kv)))).symm)
            have gz19_ : z19_.toInt = ((σ.2.1 52) (Int32.toNatClampNeg kv)).toInt := congrArg Int32.toInt (ez19_.trans (congrFun rfl (Int32.toNatClampNeg kv)))
            refine lv_i2l hx hb dX12_turnsBack_71 rfl ?_
            refine lv_topl (fun y21_ ey21_ => ?_)
            refine W.lcmp hx hb dX12_turnsBack_72 ?_
            refine lv_topi (fun z22_ ez22_ => ?_)
            refine lv_if_le (tgt := 78) hx hb dX12_turnsBack_73 rfl (fun c23_ => ?_) (fun c23_ => ?_)
            · have tc23_ := (show z22_.toInt ≤ 0 from ti_le rfl rg_11 c23_)
              have lc23_ : y18_ ≤ y21_ := (lg_cmp_le y18_ y21_).mp (by rw [← ez22_]; exact c23_)
              obtain ⟨z24_, ez24_⟩ : ∃ y : Int32, y = kv + 1 := ⟨_, rfl⟩
              have o18 : -2147483648 ≤ kv.toInt + 1 := by omega
              have o19 : kv.toInt + 1 ≤ 2147483647 := by omega
              have tz24_ := ti_add ez24_ rfl rg_18 o18 o19
              refine lv_iinc (v := z24_) (lv' := [(2, .int z24_), (3, .long y10_), (0, .ref h), (1, .int x)]) hx hb dX12_turnsBack_78 hl (k := 3) rfl (iincp ez24_ rg_6) (Nat.le_of_ble_eq_true rfl) rfl (fun ls hl => ?_)
              refine lv_goto (tgt := 2) hx hb dX12_turnsBack_81 rfl ?_
              have o20 : (4 - z24_.toInt).toNat < n2 := by omega
              have o21 : 0 ≤ z24_.toInt := by omega
              exact ih2  z24_ _ _ _ (show (4 - z24_.toInt).toNat < n2 from o20) (show 0 ≤ z24_.toInt from o21) hP hD hS (lv_sub hl [2, 3, 0] rfl)
            · have tc23_ := (show 0 < z22_.toInt from ti_nle rfl rg_11 c23_)
              have lc23_ : ¬ y18_ ≤ y21_ := fun h => c23_ (by rw [ez22_]; exact (lg_cmp_le y18_ y21_).mpr h)
              refine lv_iconst (v := 1) hx hb dX12_turnsBack_76 rg_6 ?_
              rw [hQ]
              exact W.zret (v := 1) hx hb hr rfl (fun t ht hW => ⟨⟨1, σ, rfl, rfl, wEn_of hP (hK.sub [] rfl) hD ht hW⟩, hS.F ht⟩) hS.2.2 dX12_turnsBack_77
  refine zH (A := A) (ws := mW h ad cl σ) (fun H hP hS => ?_) hP
  have bσ_29 : 0 ≤ (σ.1 29).toInt ∧ (σ.1 29).toInt ≤ 1 := hI.1 29
  have bσ_53 : 0 ≤ (σ.1 53).toInt ∧ (σ.1 53).toInt ≤ 4 := hI.1 53
  refine lv_iconst (v := 0) hx hb dX12_turnsBack_0 rg_0 ?_
  refine lv_istore_n (lv' := [(2, .int 0), (0, .ref h), (1, .int x)]) hx hb dX12_turnsBack_1 rfl hl (Nat.le_of_ble_eq_true rfl) rfl (fun ls hl => ?_)
  exact pt_2 _  0 _ _ _ (Nat.lt_succ_self _) rg_56 hP hD hS (lv_sub hl [1, 2, 0] rfl)
def ow_n_through : List Cond := [.fieldLink RX12 249 "NearEnoughModel" "sheets" "I", .fieldLink RX12 57 "NearEnoughModel" "eOff" "[I", .fieldLink RX12 240 "NearEnoughModel" "bank" "I"]
def vs_n_through : List Cond := .code yX12_through cX12_through 5 (some .int) :: (ow_n_through ++ (([.methodLink RX12 438 yX12_farOn, .instanceMethod yX12_farOn, .selects RX12 yX12_farOn yX12_farOn, .initialized RX12] : List Cond) ++ (vs_n_farOn ++ (([.methodLink RX12 468 yX12_turnsBack, .instanceMethod yX12_turnsBack, .selects RX12 yX12_turnsBack yX12_turnsBack, .initialized RX12] : List Cond) ++ (vs_n_turnsBack ++ (([.methodLink RX12 431 yX12_isEnd, .instanceMethod yX12_isEnd, .selects RX12 yX12_isEnd yX12_isEnd, .initialized RX12] : List Cond) ++ (vs_n_isEnd ++ (([.methodLink RX12 370 yX12_isOpen, .instanceMethod yX12_isOpen, .selects RX12 yX12_isOpen yX12_isOpen, .initialized RX12] : List Cond) ++ (vs_n_isOpen ++ (wsX120))))))))))
theorem vg_n_through : vs_n_through.all goodWord = true := by decide +kernel
theorem dd_n_through : yX12_through.cls = RX12 ∧ yX12_through.cls ≠ "java/lang/invoke/MethodHandle" ∧ yX12_through.cls ≠ "java/lang/invoke/VarHandle" ∧ (parseMethodDescriptor yX12_through.desc).map (fun d => d.parameters.length) = some 2 := by decide +kernel
def rm_n_through : Room := { frames := 7, cells := 0, slots := 0, locals := 180 }
theorem gd_n_through_438_n_farOn : GoodIn vs_n_through (wsV RX12 438 RX12 yX12_farOn vs_n_farOn) := goodIn_app (goodIn_sub (fun w h => (List.mem_cons_of_mem _ (List.mem_append_right _ (List.mem_append_left _ h)))) (by decide +kernel)) (goodIn_sub (fun w h => (List.mem_cons_of_mem _ (List.mem_append_right _ (List.mem_append_right _ (List.mem_append_left _ h))))) vg_n_farOn)
theorem gd_n_through_468_n_turnsBack : GoodIn vs_n_through (wsV RX12 468 RX12 yX12_turnsBack vs_n_turnsBack) := goodIn_app (goodIn_sub (fun w h => (List.mem_cons_of_mem _ (List.mem_append_right _ (List.mem_append_right _ (List.mem_append_right _ (List.mem_append_left _ h)))))) (by decide +kernel)) (goodIn_sub (fun w h => (List.mem_cons_of_mem _ (List.mem_append_right _ (List.mem_append_right _ (List.mem_append_right _ (List.mem_append_right _ (List.mem_append_left _ h))))))) vg_n_turnsBack)
theorem gd_n_through_431_n_isEnd : GoodIn vs_n_through (wsV RX12 431 RX12 yX12_isEnd vs_n_isEnd) := goodIn_app (goodIn_sub (fun w h => (List.mem_cons_of_mem _ (List.mem_append_right _ (List.mem_append_right _ (List.mem_append_right _ (List.mem_append_right _ (List.mem_append_right _ (List.mem_append_left _ h)))))))) (by decide +kernel)) (goodIn_sub (fun w h => (List.mem_cons_of_mem _ (List.mem_append_right _ (List.mem_append_right _ (List.mem_append_right _ (List.mem_append_right _ (List.mem_append_right _ (List.mem_append_right _ (List.mem_append_left _ h))))))))) vg_n_isEnd)
theorem gd_n_through_370_n_isOpen : GoodIn vs_n_through (wsV RX12 370 RX12 yX12_isOpen vs_n_isOpen) := goodIn_app (goodIn_sub (fun w h => (List.mem_cons_of_mem _ (List.mem_append_right _ (List.mem_append_right _ (List.mem_append_right _ (List.mem_append_right _ (List.mem_append_right _ (List.mem_append_right _ (List.mem_append_right _ (List.mem_append_left _ h)))))))))) (by decide +kernel)) (goodIn_sub (fun w h => (List.mem_cons_of_mem _ (List.mem_append_right _ (List.mem_append_right _ (List.mem_append_right _ (List.mem_append_right _ (List.mem_append_right _ (List.mem_append_right _ (List.mem_append_right _ (List.mem_append_right _ (List.mem_append_left _ h))))))))))) vg_n_isOpen)
set_option maxHeartbeats 4000000 in
set_option maxRecDepth 100000 in
theorem n_through (l : Launch) (dC : Nat → ClassId) (dI : Nat → Nat → Nat) (h : Nat) (ad : Nat → Nat) (cl : Nat → ClassId) (sz : Nat) (σ : MS) (x : Int32) (y : Int32) (hI : Inv σ) (hR : RelP σ (σ.1 29).toNatClampNeg) (hC : ChR σ) : Met l yX12_through vs_n_through rm_n_through (va_Pc [.ref h, .int x, .int y] (wSt dC dI (mW h ad cl σ) (mT cl) sz)) (va_Qi (fun (r : Int32) (τ : MS) => Inv τ ∧ eqx [37, 41, 42, 43, 44, 45, 46, 32, 47, 48, 49, 54, 55, 56, 57] τ σ) (fun (τ : MS) => wEn dC dI (va_A (mW h ad cl σ) sz) (mW h ad cl τ) []) (va_A (mW h ad cl σ) sz)) 0 0 (va_A (mW h ad cl σ) sz) := by
  refine Met.ofW (cc := cX12_through) (maxL := 5) (ret := (some .int)) (by decide) rfl ?_
  intro p e s m args below meth c s₁ B hml hv
  obtain ⟨rfl, hsz, hP, hK, hD0, hE⟩ := hv
  have hx := B.exec
  have hb := B.bytes
  have hr := B.returns
  have hts := atoms_spec (ws := vs_n_through) B.pre
  have hown : s.vm.findClass RX12 = some m.cls := findClass_of_methodNamed B.named
  have hlocks := B.notSynchronized
  subst hsz
  have hD := hD0.self (sz := s.heap.size)
  generalize hAe : va_A (mW h ad cl σ) s.heap.size = A at hD ⊢
  have hA : ∀ q : Nat, s.heap.size ≤ q → A q := fun q h => by rw [← hAe]; exact Or.inr h
  have hl := lv_entry ([.ref h, .int x, .int y]) (n := 5) (Nat.le_of_ble_eq_true rfl)
  rw [lg_entry_eq]
  generalize (lg_sl ([.ref h, .int x, .int y]) ++ List.replicate (5 - (lg_sl ([.ref h, .int x, .int y])).length) Slot.unset).toArray = ls at hl ⊢
  have hl : lv_has ls 5 [(0, .ref h), (1, .int x), (2, .int y)] := hl
  have ho := fun w (h : w ∈ ow_n_through) => hts w (List.mem_cons_of_mem _ (List.mem_append_left _ h))
  have hin12 : ∀ w ∈ u_ws RX12 TX12 59, w ∈ vs_n_through := fun w h => (List.mem_cons_of_mem _ (List.mem_append_right _ (List.mem_append_right _ (List.mem_append_right _ (List.mem_append_right _ (List.mem_append_right _ (List.mem_append_right _ (List.mem_append_right _ (List.mem_append_right _ (List.mem_append_right _ h))))))))))
  refine zQ (fun Q hQ => ?_)
  have pt_23 : ∀ (n23 : Nat) (τ : MS) (nv : Int32) (kv : Int32) (H : Heap) (locs : List Loc) (ls : Array Slot), (40 - kv.toInt).toNat < n23 → (Inv τ) → (eqx [37, 41, 42, 43, 44, 45, 46, 32, 47, 48, 49, 54, 55, 56, 57] τ σ) → (0 ≤ kv.toInt) → (OnOk τ) → (EndOk σ x) → (0 ≤ x.toInt ∧ x.toInt ≤ 3) → va_P (dC, dI) vwCl (mW h ad cl τ) H → va_D A (mW h ad cl τ) → va_S A s.heap H locs → lv_has ls 5 [(0, .ref h), (1, .int x), (2, .int y), (3, .int nv), (4, .int kv)] → W p l e (headSpec vs_n_through rm_n_through).room s m #[Value.ref h, Value.int x, Value.int y] below meth c H locs 0 0 Q (F0 m 23 ls []) := by
    intro n23
    induction n23 with
    | zero => intro τ nv kv H locs ls hn23 hIτ hxτ hk0τ honτ henτ hx3 hP hD hS hl; exact absurd hn23 (Nat.not_lt_zero _)
    | succ n23 ih23 =>
      intro τ nv kv H locs ls hn23 hIτ hxτ hk0τ honτ henτ hx3 hP hD hS hl
      have bτ_29 : 0 ≤ (τ.1 29).toInt ∧ (τ.1 29).toInt ≤ 1 := hIτ.1 29
      have qq1_ : (τ.1 29).toInt = ((σ.1 29) : Int32).toInt := congrArg Int32.toInt (((hxτ 29 rg_571).1))
      have bτ_39 : 0 ≤ (τ.1 39).toInt ∧ (τ.1 39).toInt ≤ 40 := hIτ.1 39
      have qq2_ : (τ.1 39).toInt = ((σ.1 39) : Int32).toInt := congrArg Int32.toInt (((hxτ 39 rg_582).1))
      refine lv_iload hx hb dX12_through_23 (lv_at hl 4 rfl) ?_
      refine lv_aload_n hx hb dX12_through_25 rfl (lv_at hl 0 rfl) ?_
      refine va_get (D := (dC, dI)) (ci := 12) (v := .int (τ.1 39)) (C := RX12) (T := TX12) (N := 59) hx hb hts hin12 hown hK hP 0 rfl rfl 39 (Nat.le_of_ble_eq_true rfl) (ho (.fieldLink RX12 249 "NearEnoughModel" "sheets" "I") (List.mem_of_getElem? (i := 0) rfl)) (fun _ h9 => h9) rfl dX12_through_26 ?_
      refine zi (v := (σ.1 39)) ((hxτ 39 rg_582).1) ?_
      have bb3_ : 0 ≤ (σ.1 39).toInt ∧ (σ.1 39).toInt ≤ 40 := by have h9 := hIτ.1 39; rw [show (τ.1 39) = (σ.1 39) from ((hxτ 39 rg_582).1)] at h9; exact h9
      refine lv_icmp_ge (tgt := 79) hx hb dX12_through_29 rfl (fun c4_ => ?_) (fun c4_ => ?_)
      · have tc4_ := (show (σ.1 39).toInt ≤ kv.toInt from ti_le rfl rfl c4_)
        refine lv_iload_n hx hb dX12_through_79 rfl (lv_at hl 3 rfl) ?_
        rw [hQ]
        exact W.iret (v := nv) hx hb hr (fun t ht hW => ⟨⟨nv, τ, rfl, ⟨hIτ, hxτ⟩, wEn_of hP (hK.sub [] rfl) hD ht hW⟩, hS.F ht⟩) hS.2.2 dX12_through_80
      · have tc4_ := (show kv.toInt < (σ.1 39).toInt from ti_nle rfl rfl c4_)
        refine lv_iload_n hx hb dX12_through_32 rfl (lv_at hl 3 rfl) ?_
        refine lv_aload_n hx hb dX12_through_33 rfl (lv_at hl 0 rfl) ?_
        refine lv_iload_n hx hb dX12_through_34 rfl (lv_at hl 1 rfl) ?_
        refine lv_iload hx hb dX12_through_35 (lv_at hl 4 rfl) ?_
        have o1 : 0 ≤ kv.toInt := by omega
        have o2 : kv.toInt ≤ 39 := by omega
        refine zy_l (va_runV (As := [.int x, .int kv]) (rest := [.int nv]) ⟨hx, hb, hml, hown, hts⟩ (n_farOn l dC dI h ad cl H.size τ x kv hIτ (RelP.x hR hxτ rg_571 rg_572) honτ (EndOk.x henτ hxτ rg_571 rg_577) ⟨o1, o2⟩) (cwV 2 hts gd_n_through_438_n_farOn rfl rfl rfl dd_n_farOn ⟨Nat.le_of_ble_eq_true rfl, Nat.le_of_ble_eq_true rfl⟩) (preV hP hK hD hE (ci := 12) (q0 := 0) rfl rfl) rfl rfl hl.1 rfl (lv_room (Nat.le_of_ble_eq_true rfl)) dX12_through_37 ⟨Nat.le_of_ble_eq_true rfl, Nat.le_of_ble_eq_true rfl⟩) hD hS hA (fun y6_ τ5_ H locs hq hP hD hS => ?_)
        obtain ⟨hI7_, hx8_, f9_⟩ := hq
        have Xτ5_ : eqx [37, 41, 42, 43, 44, 45, 46, 32, 47, 48, 49, 54, 55, 56, 57] τ5_ σ := eqx.tr hx8_ hxτ rg_575
        have qq10_ : (τ5_.1 29).toInt = ((σ.1 29) : Int32).toInt := congrArg Int32.toInt ((show τ5_.1 29 = (σ.1 29) from ((hx8_ 29 rg_483).1).trans ((hxτ 29 rg_571).1)))
        have qq11_ : (τ5_.1 39).toInt = ((σ.1 39) : Int32).toInt := congrArg Int32.toInt ((show τ5_.1 39 = (σ.1 39) from ((hx8_ 39 rg_576).1).trans ((hxτ 39 rg_582).1)))
        refine W.widen (k := 0) (n := 0) (Nat.le_of_ble_eq_true rfl) (Nat.le_of_ble_eq_true rfl) ?_
        refine lv_aload_n hx hb dX12_through_40 rfl (lv_at hl 0 rfl) ?_
        refine va_get (D := (dC, dI)) (ci := 12) (v := .ref (ad 23)) (C := RX12) (T := TX12) (N := 59) hx hb hts hin12 hown hK hP 0 rfl rfl 23 (Nat.le_of_ble_eq_true rfl) (ho (.fieldLink RX12 57 "NearEnoughModel" "eOff" "[I") (List.mem_of_getElem? (i := 1) rfl)) (fun _ h9 => h9) rfl dX12_through_41 ?_
        refine lv_iconst (v := 4) hx hb dX12_through_44 rg_31 ?_
        refine lv_aload_n hx hb dX12_through_45 rfl (lv_at hl 0 rfl) ?_
        refine va_get (D := (dC, dI)) (ci := 12) (v := .int (τ5_.1 29)) (C := RX12) (T := TX12) (N := 59) hx hb hts hin12 hown hK hP 0 rfl rfl 29 (Nat.le_of_ble_eq_true rfl) (ho (.fieldLink RX12 240 "NearEnoughModel" "bank" "I") (List.mem_of_getElem? (i := 2) rfl)) (fun _ h9 => h9) rfl dX12_through_46 ?_
        refine zi (v := (σ.1 29)) (show τ5_.1 29 = (σ.1 29) from ((hx8_ 29 rg_483).1).trans ((hxτ 29 rg_571).1)) ?_
        have bb12_ : 0 ≤ (σ.1 29).toInt ∧ (σ.1 29).toInt ≤ 1 := by have h9 := hI7_.1 29; rw [show (τ5_.1 29) = (σ.1 29) from (show τ5_.1 29 = (σ.1 29) from ((hx8_ 29 rg_483).1).trans ((hxτ 29 rg_571).1))] at h9; exact h9
        refine lv_imul hx hb dX12_through_49 ?_
        refine lv_topi (fun z13_ ez13_ => ?_)
        have o3 : -2147483648 ≤ 4 * (σ.1 29).toInt := by omega
        have o4 : 4 * (σ.1 29).toInt ≤ 2147483647 := by omega
        have tz13_ : z13_.toInt = 4 * (σ.1 29).toInt := ti_mul ez13_ rg_32 rfl o3 o4
        refine lv_iload_n hx hb dX12_through_50 rfl (lv_at hl 1 rfl) ?_
        refine lv_iadd hx hb dX12_through_51 ?_
        refine lv_topi (fun z14_ ez14_ => ?_)
        have o5 : -2147483648 ≤ z13_.toInt + x.toInt := by omega
        have o6 : z13_.toInt + x.toInt ≤ 2147483647 := by omega
        have tz14_ : z14_.toInt = z13_.toInt + x.toInt := ti_add ez14_ rfl rfl o5 o6
        have o7 : 0 ≤ z14_.toInt := by omega
        have o8 : z14_.toInt < ((8 : Nat) : Int) := by omega
        refine va_iald hx hb hK hP 15 14 rfl rfl (ti_inx o7 o8) dX12_through_52 ?_
        refine lv_topi (fun z15_ ez15_ => ?_)
        have gz15_ : z15_.toInt = ((σ.2.1 23) (Int32.toNatClampNeg z14_)).toInt := congrArg Int32.toInt (ez15_.trans (congrFun (((hx8_ 23 rg_587).2.1).trans (hxτ 23 rg_586).2.1) (Int32.toNatClampNeg z14_)))
        refine lv_i2l hx hb dX12_through_53 rfl ?_
        refine lv_topl (fun y16_ ey16_ => ?_)
        refine W.lcmp hx hb dX12_through_54 ?_
        refine lv_topi (fun z17_ ez17_ => ?_)
        refine lv_if_le (tgt := 70) hx hb dX12_through_55 rfl (fun c18_ => ?_) (fun c18_ => ?_)
        · have tc18_ := (show z17_.toInt ≤ 0 from ti_le rfl rg_11 c18_)
          have lc18_ : y6_ ≤ y16_ := (lg_cmp_le y6_ y16_).mp (by rw [← ez17_]; exact c18_)
          refine lv_iconst (v := 0) hx hb dX12_through_70 rg_0 ?_
          refine lv_iadd hx hb dX12_through_71 ?_
          refine lv_topi (fun z19_ ez19_ => ?_)
          refine lv_istore_n (lv' := [(3, .int z19_), (0, .ref h), (1, .int x), (2, .int y), (4, .int kv)]) hx hb dX12_through_72 rfl hl (Nat.le_of_ble_eq_true rfl) rfl (fun ls hl => ?_)
          obtain ⟨z20_, ez20_⟩ : ∃ y : Int32, y = kv + 1 := ⟨_, rfl⟩
          have o9 : -2147483648 ≤ kv.toInt + 1 := by omega
          have o10 : kv.toInt + 1 ≤ 2147483647 := by omega
          have tz20_ := ti_add ez20_ rfl rg_18 o9 o10
          refine lv_iinc (v := z20_) (lv' := [(4, .int z20_), (3, .int z19_), (0, .ref h), (1, .int x), (2, .int y)]) hx hb dX12_through_73 hl (k := 4) rfl (iincp ez20_ rg_6) (Nat.le_of_ble_eq_true rfl) rfl (fun ls hl => ?_)
          refine lv_goto (tgt := 23) hx hb dX12_through_76 rfl ?_
          have o11 : (40 - z20_.toInt).toNat < n23 := by omega
          have o12 : 0 ≤ z20_.toInt := by omega
          have o13 : 0 ≤ x.toInt ∧ x.toInt ≤ 3 := by omega
          exact ih23 τ5_ z19_ z20_ _ _ _ (show (40 - z20_.toInt).toNat < n23 from o11) hI7_ Xτ5_ (show 0 ≤ z20_.toInt from o12) (OnOk.x honτ hx8_ rg_492 rg_493 rg_487) henτ (show 0 ≤ x.toInt ∧ x.toInt ≤ 3 from o13) hP hD hS (lv_sub hl [2, 3, 4, 1, 0] rfl)
        · have tc18_ := (show 0 < z17_.toInt from ti_nle rfl rg_11 c18_)
          have lc18_ : ¬ y6_ ≤ y16_ := fun h => c18_ (by rw [ez17_]; exact (lg_cmp_le y6_ y16_).mpr h)
          refine lv_aload_n hx hb dX12_through_58 rfl (lv_at hl 0 rfl) ?_
          refine lv_iload_n hx hb dX12_through_59 rfl (lv_at hl 1 rfl) ?_
          refine zy_i (va_runV (As := [.int x]) (rest := [.int nv]) ⟨hx, hb, hml, hown, hts⟩ (n_turnsBack l dC dI h ad cl H.size τ5_ x hI7_ (RelP.x hR Xτ5_ rg_571 rg_572) (EndOk.x henτ Xτ5_ rg_571 rg_577)) (cwV 1 hts gd_n_through_468_n_turnsBack rfl rfl rfl dd_n_turnsBack ⟨Nat.le_of_ble_eq_true rfl, Nat.le_of_ble_eq_true rfl⟩) (preV hP hK hD hE (ci := 12) (q0 := 0) rfl rfl) rfl rfl hl.1 rfl (lv_room (Nat.le_of_ble_eq_true rfl)) dX12_through_60 ⟨Nat.le_of_ble_eq_true rfl, Nat.le_of_ble_eq_true rfl⟩) hD hS hA (fun z22_ τ21_ H locs hq hP hD hS => ?_)
          obtain rfl := hq
          refine W.widen (k := 0) (n := 0) (Nat.le_of_ble_eq_true rfl) (Nat.le_of_ble_eq_true rfl) ?_
          refine lv_if_ne (tgt := 70) hx hb dX12_through_63 rfl (fun c23_ => ?_) (fun c23_ => ?_)
          · have tc23_ := (show z22_.toInt ≠ 0 from ti_ne rfl rg_11 c23_)
            refine lv_iconst (v := 0) hx hb dX12_through_70 rg_0 ?_
            refine lv_iadd hx hb dX12_through_71 ?_
            refine lv_topi (fun z24_ ez24_ => ?_)
            refine lv_istore_n (lv' := [(3, .int z24_), (0, .ref h), (1, .int x), (2, .int y), (4, .int kv)]) hx hb dX12_through_72 rfl hl (Nat.le_of_ble_eq_true rfl) rfl (fun ls hl => ?_)
            obtain ⟨z25_, ez25_⟩ : ∃ y : Int32, y = kv + 1 := ⟨_, rfl⟩
            have o14 : -2147483648 ≤ kv.toInt + 1 := by omega
            have o15 : kv.toInt + 1 ≤ 2147483647 := by omega
            have tz25_ := ti_add ez25_ rfl rg_18 o14 o15
            refine lv_iinc (v := z25_) (lv' := [(4, .int z25_), (3, .int z24_), (0, .ref h), (1, .int x), (2, .int y)]) hx hb dX12_through_73 hl (k := 4) rfl (iincp ez25_ rg_6) (Nat.le_of_ble_eq_true rfl) rfl (fun ls hl => ?_)
            refine lv_goto (tgt := 23) hx hb dX12_through_76 rfl ?_
            have o16 : (40 - z25_.toInt).toNat < n23 := by omega
            have o17 : 0 ≤ z25_.toInt := by omega
            have o18 : 0 ≤ x.toInt ∧ x.toInt ≤ 3 := by omega
            exact ih23 τ5_ z24_ z25_ _ _ _ (show (40 - z25_.toInt).toNat < n23 from o16) hI7_ Xτ5_ (show 0 ≤ z25_.toInt from o17) (OnOk.x honτ hx8_ rg_492 rg_493 rg_487) henτ (show 0 ≤ x.toInt ∧ x.toInt ≤ 3 from o18) hP hD hS (lv_sub hl [2, 3, 4, 1, 0] rfl)
          · have tc23_ := (show z22_.toInt = 0 from ti_eq rfl rg_11 c23_)
            refine lv_iconst (v := 1) hx hb dX12_through_66 rg_6 ?_
            refine lv_goto (tgt := 71) hx hb dX12_through_67 rfl ?_
            refine lv_iadd hx hb dX12_through_71 ?_
            refine lv_topi (fun z26_ ez26_ => ?_)
            refine lv_istore_n (lv' := [(3, .int z26_), (0, .ref h), (1, .int x), (2, .int y), (4, .int kv)]) hx hb dX12_through_72 rfl hl (Nat.le_of_ble_eq_true rfl) rfl (fun ls hl => ?_)
            obtain ⟨z27_, ez27_⟩ : ∃ y : Int32, y = kv + 1 := ⟨_, rfl⟩
            have o19 : -2147483648 ≤ kv.toInt + 1 := by omega
            have o20 : kv.toInt + 1 ≤ 2147483647 := by omega
            have tz27_ := ti_add ez27_ rfl rg_18 o19 o20
            refine lv_iinc (v := z27_) (lv' := [(4, .int z27_), (3, .int z26_), (0, .ref h), (1, .int x), (2, .int y)]) hx hb dX12_through_73 hl (k := 4) rfl (iincp ez27_ rg_6) (Nat.le_of_ble_eq_true rfl) rfl (fun ls hl => ?_)
            refine lv_goto (tgt := 23) hx hb dX12_through_76 rfl ?_
            have o21 : (40 - z27_.toInt).toNat < n23 := by omega
            have o22 : 0 ≤ z27_.toInt := by omega
            have o23 : 0 ≤ x.toInt ∧ x.toInt ≤ 3 := by omega
            exact ih23 τ5_ z26_ z27_ _ _ _ (show (40 - z27_.toInt).toNat < n23 from o21) hI7_ Xτ5_ (show 0 ≤ z27_.toInt from o22) (OnOk.x honτ hx8_ rg_492 rg_493 rg_487) henτ (show 0 ≤ x.toInt ∧ x.toInt ≤ 3 from o23) hP hD hS (lv_sub hl [2, 3, 4, 1, 0] rfl)
  refine zH (A := A) (ws := mW h ad cl σ) (fun H hP hS => ?_) hP
  have bσ_29 : 0 ≤ (σ.1 29).toInt ∧ (σ.1 29).toInt ≤ 1 := hI.1 29
  have bσ_39 : 0 ≤ (σ.1 39).toInt ∧ (σ.1 39).toInt ≤ 40 := hI.1 39
  refine lv_aload_n hx hb dX12_through_0 rfl (lv_at hl 0 rfl) ?_
  refine lv_iload_n hx hb dX12_through_1 rfl (lv_at hl 1 rfl) ?_
  refine zy_i (va_runV (As := [.int x]) (rest := []) ⟨hx, hb, hml, hown, hts⟩ (n_isEnd l dC dI h ad cl H.size σ x hI) (cwV 1 hts gd_n_through_431_n_isEnd rfl rfl rfl dd_n_isEnd ⟨Nat.le_of_ble_eq_true rfl, Nat.le_of_ble_eq_true rfl⟩) (preV hP hK hD hE (ci := 12) (q0 := 0) rfl rfl) rfl rfl hl.1 rfl (lv_room (Nat.le_of_ble_eq_true rfl)) dX12_through_2 ⟨Nat.le_of_ble_eq_true rfl, Nat.le_of_ble_eq_true rfl⟩) hD hS hA (fun z29_ τ28_ H locs hq hP hD hS => ?_)
  obtain ⟨rfl, f30_⟩ := hq
  refine W.widen (k := 0) (n := 0) (Nat.le_of_ble_eq_true rfl) (Nat.le_of_ble_eq_true rfl) ?_
  refine lv_if_eq (tgt := 16) hx hb dX12_through_5 rfl (fun c31_ => ?_) (fun c31_ => ?_)
  · have tc31_ := (show z29_.toInt = 0 from ti_eq rfl rg_11 c31_)
    refine lv_iconst (v := (-1)) hx hb dX12_through_16 rg_53 ?_
    rw [hQ]
    exact W.iret (v := (-1)) hx hb hr (fun t ht hW => ⟨⟨(-1), σ, rfl, ⟨hI, eqx.rf⟩, wEn_of hP (hK.sub [] rfl) hD ht hW⟩, hS.F ht⟩) hS.2.2 dX12_through_17
  · have tc31_ := (show z29_.toInt ≠ 0 from ti_ne rfl rg_11 c31_)
    refine lv_aload_n hx hb dX12_through_8 rfl (lv_at hl 0 rfl) ?_
    refine lv_iload_n hx hb dX12_through_9 rfl (lv_at hl 2 rfl) ?_
    refine zy_i (va_runV (As := [.int y]) (rest := []) ⟨hx, hb, hml, hown, hts⟩ (n_isOpen l dC dI h ad cl H.size σ y hI hR hC) (cwV 1 hts gd_n_through_370_n_isOpen rfl rfl rfl dd_n_isOpen ⟨Nat.le_of_ble_eq_true rfl, Nat.le_of_ble_eq_true rfl⟩) (preV hP hK hD hE (ci := 12) (q0 := 0) rfl rfl) rfl rfl hl.1 rfl (lv_room (Nat.le_of_ble_eq_true rfl)) dX12_through_10 ⟨Nat.le_of_ble_eq_true rfl, Nat.le_of_ble_eq_true rfl⟩) hD hS hA (fun z33_ τ32_ H locs hq hP hD hS => ?_)
    obtain ⟨hI34_, hx35_, f36_⟩ := hq
    have Xτ32_ : eqx [37, 41, 42, 43, 44, 45, 46, 32, 47, 48, 49, 54, 55, 56, 57] τ32_ σ := eqx.tr hx35_ eqx.rf rg_568
    have qq37_ : (τ32_.1 29).toInt = ((σ.1 29) : Int32).toInt := congrArg Int32.toInt ((show τ32_.1 29 = (σ.1 29) from ((hx35_ 29 rg_569).1).trans rfl))
    have qq38_ : (τ32_.1 39).toInt = ((σ.1 39) : Int32).toInt := congrArg Int32.toInt ((show τ32_.1 39 = (σ.1 39) from ((hx35_ 39 rg_570).1).trans rfl))
    refine W.widen (k := 0) (n := 0) (Nat.le_of_ble_eq_true rfl) (Nat.le_of_ble_eq_true rfl) ?_
    refine lv_if_ne (tgt := 18) hx hb dX12_through_13 rfl (fun c39_ => ?_) (fun c39_ => ?_)
    · have tc39_ := (show z33_.toInt ≠ 0 from ti_ne rfl rg_11 c39_)
      refine lv_iconst (v := 0) hx hb dX12_through_18 rg_0 ?_
      refine lv_istore_n (lv' := [(3, .int 0), (0, .ref h), (1, .int x), (2, .int y)]) hx hb dX12_through_19 rfl hl (Nat.le_of_ble_eq_true rfl) rfl (fun ls hl => ?_)
      refine lv_iconst (v := 0) hx hb dX12_through_20 rg_0 ?_
      refine lv_istore (lv' := [(4, .int 0), (3, .int 0), (0, .ref h), (1, .int x), (2, .int y)]) hx hb dX12_through_21 hl (Nat.le_of_ble_eq_true rfl) rfl (fun ls hl => ?_)
      have o24 : ¬ z33_.toInt = 0 := by omega
      have POK40_ : Opn σ y (τ32_.2.1 37) (τ32_.2.2.1 43) (τ32_.2.2.1 44) := by rcases f36_ with q | q; exact q.2; exact absurd q.1 o24
      have OK40_ : OnOk τ32_ := OnR.ok hI hC hx35_ rg_573 rg_574 POK40_.1
      have o25 : 0 ≤ x.toInt := by omega
      have o26 : x.toInt ≤ 3 := by omega
      have o27 : x.toInt < (σ.2.1 13 (σ.1 29).toNatClampNeg).toInt := by omega
      have HE41_ : EndOk σ x := ⟨o25, o26, o27⟩
      have o28 : 0 ≤ x.toInt ∧ x.toInt ≤ 3 := by omega
      exact pt_23 _ τ32_ 0 0 _ _ _ (Nat.lt_succ_self _) hI34_ Xτ32_ rg_56 OK40_ HE41_ (show 0 ≤ x.toInt ∧ x.toInt ≤ 3 from o28) hP hD hS (lv_sub hl [2, 3, 4, 1, 0] rfl)
    · have tc39_ := (show z33_.toInt = 0 from ti_eq rfl rg_11 c39_)
      refine lv_iconst (v := (-1)) hx hb dX12_through_16 rg_53 ?_
      rw [hQ]
      exact W.iret (v := (-1)) hx hb hr (fun t ht hW => ⟨⟨(-1), τ32_, rfl, ⟨hI34_, Xτ32_⟩, wEn_of hP (hK.sub [] rfl) hD ht hW⟩, hS.F ht⟩) hS.2.2 dX12_through_17
def ow_n_turned : List Cond := [.fieldLink RX12 249 "NearEnoughModel" "sheets" "I", .fieldLink RX12 76 "NearEnoughModel" "numbers" "[I"]
def vs_n_turned : List Cond := .code yX12_turned cX12_turned 5 (some .int) :: (ow_n_turned ++ (([.methodLink RX12 375 yX12_run, .instanceMethod yX12_run, .selects RX12 yX12_run yX12_run, .initialized RX12] : List Cond) ++ (vs_n_run_n ++ (([.methodLink RX12 468 yX12_turnsBack, .instanceMethod yX12_turnsBack, .selects RX12 yX12_turnsBack yX12_turnsBack, .initialized RX12] : List Cond) ++ (vs_n_turnsBack ++ (([.methodLink RX12 431 yX12_isEnd, .instanceMethod yX12_isEnd, .selects RX12 yX12_isEnd yX12_isEnd, .initialized RX12] : List Cond) ++ (vs_n_isEnd ++ (([.methodLink RX12 370 yX12_isOpen, .instanceMethod yX12_isOpen, .selects RX12 yX12_isOpen yX12_isOpen, .initialized RX12] : List Cond) ++ (vs_n_isOpen ++ (wsX120))))))))))
theorem vg_n_turned : vs_n_turned.all goodWord = true := by decide +kernel
theorem dd_n_turned : yX12_turned.cls = RX12 ∧ yX12_turned.cls ≠ "java/lang/invoke/MethodHandle" ∧ yX12_turned.cls ≠ "java/lang/invoke/VarHandle" ∧ (parseMethodDescriptor yX12_turned.desc).map (fun d => d.parameters.length) = some 2 := by decide +kernel
def rm_n_turned : Room := { frames := 7, cells := 0, slots := 0, locals := 180 }
theorem gd_n_turned_375_n_run_n : GoodIn vs_n_turned (wsV RX12 375 RX12 yX12_run vs_n_run_n) := goodIn_app (goodIn_sub (fun w h => (List.mem_cons_of_mem _ (List.mem_append_right _ (List.mem_append_left _ h)))) (by decide +kernel)) (goodIn_sub (fun w h => (List.mem_cons_of_mem _ (List.mem_append_right _ (List.mem_append_right _ (List.mem_append_left _ h))))) vg_n_run_n)
theorem gd_n_turned_468_n_turnsBack : GoodIn vs_n_turned (wsV RX12 468 RX12 yX12_turnsBack vs_n_turnsBack) := goodIn_app (goodIn_sub (fun w h => (List.mem_cons_of_mem _ (List.mem_append_right _ (List.mem_append_right _ (List.mem_append_right _ (List.mem_append_left _ h)))))) (by decide +kernel)) (goodIn_sub (fun w h => (List.mem_cons_of_mem _ (List.mem_append_right _ (List.mem_append_right _ (List.mem_append_right _ (List.mem_append_right _ (List.mem_append_left _ h))))))) vg_n_turnsBack)
theorem gd_n_turned_431_n_isEnd : GoodIn vs_n_turned (wsV RX12 431 RX12 yX12_isEnd vs_n_isEnd) := goodIn_app (goodIn_sub (fun w h => (List.mem_cons_of_mem _ (List.mem_append_right _ (List.mem_append_right _ (List.mem_append_right _ (List.mem_append_right _ (List.mem_append_right _ (List.mem_append_left _ h)))))))) (by decide +kernel)) (goodIn_sub (fun w h => (List.mem_cons_of_mem _ (List.mem_append_right _ (List.mem_append_right _ (List.mem_append_right _ (List.mem_append_right _ (List.mem_append_right _ (List.mem_append_right _ (List.mem_append_left _ h))))))))) vg_n_isEnd)
theorem gd_n_turned_370_n_isOpen : GoodIn vs_n_turned (wsV RX12 370 RX12 yX12_isOpen vs_n_isOpen) := goodIn_app (goodIn_sub (fun w h => (List.mem_cons_of_mem _ (List.mem_append_right _ (List.mem_append_right _ (List.mem_append_right _ (List.mem_append_right _ (List.mem_append_right _ (List.mem_append_right _ (List.mem_append_right _ (List.mem_append_left _ h)))))))))) (by decide +kernel)) (goodIn_sub (fun w h => (List.mem_cons_of_mem _ (List.mem_append_right _ (List.mem_append_right _ (List.mem_append_right _ (List.mem_append_right _ (List.mem_append_right _ (List.mem_append_right _ (List.mem_append_right _ (List.mem_append_right _ (List.mem_append_left _ h))))))))))) vg_n_isOpen)
set_option maxHeartbeats 4000000 in
set_option maxRecDepth 100000 in
theorem n_turned (l : Launch) (dC : Nat → ClassId) (dI : Nat → Nat → Nat) (h : Nat) (ad : Nat → Nat) (cl : Nat → ClassId) (sz : Nat) (σ : MS) (x : Int32) (y : Int32) (hI : Inv σ) (hR : RelP σ (σ.1 29).toNatClampNeg) (hC : ChR σ) : Met l yX12_turned vs_n_turned rm_n_turned (va_Pc [.ref h, .int x, .int y] (wSt dC dI (mW h ad cl σ) (mT cl) sz)) (va_Qi (fun (r : Int32) (τ : MS) => Inv τ ∧ eqx [37, 41, 42, 43, 44, 45, 46, 32, 47, 48, 49, 54, 55, 56, 57] τ σ) (fun (τ : MS) => wEn dC dI (va_A (mW h ad cl σ) sz) (mW h ad cl τ) []) (va_A (mW h ad cl σ) sz)) 0 0 (va_A (mW h ad cl σ) sz) := by
  refine Met.ofW (cc := cX12_turned) (maxL := 5) (ret := (some .int)) (by decide) rfl ?_
  intro p e s m args below meth c s₁ B hml hv
  obtain ⟨rfl, hsz, hP, hK, hD0, hE⟩ := hv
  have hx := B.exec
  have hb := B.bytes
  have hr := B.returns
  have hts := atoms_spec (ws := vs_n_turned) B.pre
  have hown : s.vm.findClass RX12 = some m.cls := findClass_of_methodNamed B.named
  have hlocks := B.notSynchronized
  subst hsz
  have hD := hD0.self (sz := s.heap.size)
  generalize hAe : va_A (mW h ad cl σ) s.heap.size = A at hD ⊢
  have hA : ∀ q : Nat, s.heap.size ≤ q → A q := fun q h => by rw [← hAe]; exact Or.inr h
  have hl := lv_entry ([.ref h, .int x, .int y]) (n := 5) (Nat.le_of_ble_eq_true rfl)
  rw [lg_entry_eq]
  generalize (lg_sl ([.ref h, .int x, .int y]) ++ List.replicate (5 - (lg_sl ([.ref h, .int x, .int y])).length) Slot.unset).toArray = ls at hl ⊢
  have hl : lv_has ls 5 [(0, .ref h), (1, .int x), (2, .int y)] := hl
  have ho := fun w (h : w ∈ ow_n_turned) => hts w (List.mem_cons_of_mem _ (List.mem_append_left _ h))
  have hin12 : ∀ w ∈ u_ws RX12 TX12 59, w ∈ vs_n_turned := fun w h => (List.mem_cons_of_mem _ (List.mem_append_right _ (List.mem_append_right _ (List.mem_append_right _ (List.mem_append_right _ (List.mem_append_right _ (List.mem_append_right _ (List.mem_append_right _ (List.mem_append_right _ (List.mem_append_right _ h))))))))))
  refine zQ (fun Q hQ => ?_)
  have pt_23 : ∀ (n23 : Nat) (τ : MS) (nv : Int32) (kv : Int32) (H : Heap) (locs : List Loc) (ls : Array Slot), (40 - kv.toInt).toNat < n23 → (Inv τ) → (eqx [37, 41, 42, 43, 44, 45, 46, 32, 47, 48, 49, 54, 55, 56, 57] τ σ) → (0 ≤ kv.toInt) → (OnOk τ) → (EndOk σ x) → (0 ≤ x.toInt ∧ x.toInt ≤ 3) → va_P (dC, dI) vwCl (mW h ad cl τ) H → va_D A (mW h ad cl τ) → va_S A s.heap H locs → lv_has ls 5 [(0, .ref h), (1, .int x), (2, .int y), (3, .int nv), (4, .int kv)] → W p l e (headSpec vs_n_turned rm_n_turned).room s m #[Value.ref h, Value.int x, Value.int y] below meth c H locs 0 0 Q (F0 m 23 ls []) := by
    intro n23
    induction n23 with
    | zero => intro τ nv kv H locs ls hn23 hIτ hxτ hk0τ honτ henτ hx3 hP hD hS hl; exact absurd hn23 (Nat.not_lt_zero _)
    | succ n23 ih23 =>
      intro τ nv kv H locs ls hn23 hIτ hxτ hk0τ honτ henτ hx3 hP hD hS hl
      have bτ_29 : 0 ≤ (τ.1 29).toInt ∧ (τ.1 29).toInt ≤ 1 := hIτ.1 29
      have qq1_ : (τ.1 29).toInt = ((σ.1 29) : Int32).toInt := congrArg Int32.toInt (((hxτ 29 rg_571).1))
      have bτ_39 : 0 ≤ (τ.1 39).toInt ∧ (τ.1 39).toInt ≤ 40 := hIτ.1 39
      have qq2_ : (τ.1 39).toInt = ((σ.1 39) : Int32).toInt := congrArg Int32.toInt (((hxτ 39 rg_582).1))
      refine lv_iload hx hb dX12_turned_23 (lv_at hl 4 rfl) ?_
      refine lv_aload_n hx hb dX12_turned_25 rfl (lv_at hl 0 rfl) ?_
      refine va_get (D := (dC, dI)) (ci := 12) (v := .int (τ.1 39)) (C := RX12) (T := TX12) (N := 59) hx hb hts hin12 hown hK hP 0 rfl rfl 39 (Nat.le_of_ble_eq_true rfl) (ho (.fieldLink RX12 249 "NearEnoughModel" "sheets" "I") (List.mem_of_getElem? (i := 0) rfl)) (fun _ h9 => h9) rfl dX12_turned_26 ?_
      refine zi (v := (σ.1 39)) ((hxτ 39 rg_582).1) ?_
      have bb3_ : 0 ≤ (σ.1 39).toInt ∧ (σ.1 39).toInt ≤ 40 := by have h9 := hIτ.1 39; rw [show (τ.1 39) = (σ.1 39) from ((hxτ 39 rg_582).1)] at h9; exact h9
      refine lv_icmp_ge (tgt := 67) hx hb dX12_turned_29 rfl (fun c4_ => ?_) (fun c4_ => ?_)
      · have tc4_ := (show (σ.1 39).toInt ≤ kv.toInt from ti_le rfl rfl c4_)
        refine lv_iload_n hx hb dX12_turned_67 rfl (lv_at hl 3 rfl) ?_
        rw [hQ]
        exact W.iret (v := nv) hx hb hr (fun t ht hW => ⟨⟨nv, τ, rfl, ⟨hIτ, hxτ⟩, wEn_of hP (hK.sub [] rfl) hD ht hW⟩, hS.F ht⟩) hS.2.2 dX12_turned_68
      · have tc4_ := (show kv.toInt < (σ.1 39).toInt from ti_nle rfl rfl c4_)
        refine lv_aload_n hx hb dX12_turned_32 rfl (lv_at hl 0 rfl) ?_
        refine lv_aload_n hx hb dX12_turned_33 rfl (lv_at hl 0 rfl) ?_
        refine va_get (D := (dC, dI)) (ci := 12) (v := .ref (ad 31)) (C := RX12) (T := TX12) (N := 59) hx hb hts hin12 hown hK hP 0 rfl rfl 31 (Nat.le_of_ble_eq_true rfl) (ho (.fieldLink RX12 76 "NearEnoughModel" "numbers" "[I") (List.mem_of_getElem? (i := 1) rfl)) (fun _ h9 => h9) rfl dX12_turned_34 ?_
        refine lv_bipush (v := 12) hx hb dX12_turned_37 rg_57 ?_
        refine lv_iload hx hb dX12_turned_39 (lv_at hl 4 rfl) ?_
        refine lv_imul hx hb dX12_turned_41 ?_
        refine lv_topi (fun z5_ ez5_ => ?_)
        have o1 : -2147483648 ≤ 12 * kv.toInt := by omega
        have o2 : 12 * kv.toInt ≤ 2147483647 := by omega
        have tz5_ : z5_.toInt = 12 * kv.toInt := ti_mul ez5_ rg_58 rfl o1 o2
        have o3 : 0 ≤ z5_.toInt := by omega
        have o4 : z5_.toInt ≤ 468 := by omega
        have o5 : z5_.toInt = 0 ∨ 12 ≤ z5_.toInt := by omega
        refine zy_v (va_runV (As := [.ref (ad 31), .int z5_]) (rest := []) ⟨hx, hb, hml, hown, hts⟩ (n_run_n l dC dI h ad cl H.size τ z5_ hIτ ⟨o3, o4⟩ (show z5_.toInt = 0 ∨ 12 ≤ z5_.toInt from o5) (RelP.x hR hxτ rg_571 rg_572) honτ) (cwV 2 hts gd_n_turned_375_n_run_n rfl rfl rfl dd_n_run_n ⟨Nat.le_of_ble_eq_true rfl, Nat.le_of_ble_eq_true rfl⟩) (preV hP hK hD hE (ci := 12) (q0 := 0) rfl rfl) rfl rfl hl.1 rfl (lv_room (Nat.le_of_ble_eq_true rfl)) dX12_turned_42 ⟨Nat.le_of_ble_eq_true rfl, Nat.le_of_ble_eq_true rfl⟩) hD hS hA (fun τ6_ H locs hq hP hD hS => ?_)
        obtain ⟨hI8_, hx9_, f10_, f11_⟩ := hq
        have Xτ6_ : eqx [37, 41, 42, 43, 44, 45, 46, 32, 47, 48, 49, 54, 55, 56, 57] τ6_ σ := eqx.tr hx9_ hxτ rg_575
        have qq12_ : (τ6_.1 29).toInt = ((σ.1 29) : Int32).toInt := congrArg Int32.toInt ((show τ6_.1 29 = (σ.1 29) from ((hx9_ 29 rg_483).1).trans ((hxτ 29 rg_571).1)))
        have qq13_ : (τ6_.1 39).toInt = ((σ.1 39) : Int32).toInt := congrArg Int32.toInt ((show τ6_.1 39 = (σ.1 39) from ((hx9_ 39 rg_576).1).trans ((hxτ 39 rg_582).1)))
        refine W.widen (k := 0) (n := 0) (Nat.le_of_ble_eq_true rfl) (Nat.le_of_ble_eq_true rfl) ?_
        refine lv_iload_n hx hb dX12_turned_45 rfl (lv_at hl 3 rfl) ?_
        refine lv_aload_n hx hb dX12_turned_46 rfl (lv_at hl 0 rfl) ?_
        refine lv_iload_n hx hb dX12_turned_47 rfl (lv_at hl 1 rfl) ?_
        refine zy_i (va_runV (As := [.int x]) (rest := [.int nv]) ⟨hx, hb, hml, hown, hts⟩ (n_turnsBack l dC dI h ad cl H.size τ6_ x hI8_ (RelP.x hR Xτ6_ rg_571 rg_572) (EndOk.x henτ Xτ6_ rg_571 rg_577)) (cwV 1 hts gd_n_turned_468_n_turnsBack rfl rfl rfl dd_n_turnsBack ⟨Nat.le_of_ble_eq_true rfl, Nat.le_of_ble_eq_true rfl⟩) (preV hP hK hD hE (ci := 12) (q0 := 0) rfl rfl) rfl rfl hl.1 rfl (lv_room (Nat.le_of_ble_eq_true rfl)) dX12_turned_48 ⟨Nat.le_of_ble_eq_true rfl, Nat.le_of_ble_eq_true rfl⟩) hD hS hA (fun z15_ τ14_ H locs hq hP hD hS => ?_)
        obtain rfl := hq
        refine W.widen (k := 0) (n := 0) (Nat.le_of_ble_eq_true rfl) (Nat.le_of_ble_eq_true rfl) ?_
        refine lv_if_eq (tgt := 58) hx hb dX12_turned_51 rfl (fun c16_ => ?_) (fun c16_ => ?_)
        · have tc16_ := (show z15_.toInt = 0 from ti_eq rfl rg_11 c16_)
          refine lv_iconst (v := 0) hx hb dX12_turned_58 rg_0 ?_
          refine lv_iadd hx hb dX12_turned_59 ?_
          refine lv_topi (fun z17_ ez17_ => ?_)
          refine lv_istore_n (lv' := [(3, .int z17_), (0, .ref h), (1, .int x), (2, .int y), (4, .int kv)]) hx hb dX12_turned_60 rfl hl (Nat.le_of_ble_eq_true rfl) rfl (fun ls hl => ?_)
          obtain ⟨z18_, ez18_⟩ : ∃ y : Int32, y = kv + 1 := ⟨_, rfl⟩
          have o6 : -2147483648 ≤ kv.toInt + 1 := by omega
          have o7 : kv.toInt + 1 ≤ 2147483647 := by omega
          have tz18_ := ti_add ez18_ rfl rg_18 o6 o7
          refine lv_iinc (v := z18_) (lv' := [(4, .int z18_), (3, .int z17_), (0, .ref h), (1, .int x), (2, .int y)]) hx hb dX12_turned_61 hl (k := 4) rfl (iincp ez18_ rg_6) (Nat.le_of_ble_eq_true rfl) rfl (fun ls hl => ?_)
          refine lv_goto (tgt := 23) hx hb dX12_turned_64 rfl ?_
          have o8 : (40 - z18_.toInt).toNat < n23 := by omega
          have o9 : 0 ≤ z18_.toInt := by omega
          have o10 : 0 ≤ x.toInt ∧ x.toInt ≤ 3 := by omega
          exact ih23 τ6_ z17_ z18_ _ _ _ (show (40 - z18_.toInt).toNat < n23 from o8) hI8_ Xτ6_ (show 0 ≤ z18_.toInt from o9) (OnOk.x honτ hx9_ rg_492 rg_493 rg_487) henτ (show 0 ≤ x.toInt ∧ x.toInt ≤ 3 from o10) hP hD hS (lv_sub hl [2, 3, 4, 1, 0] rfl)
        · have tc16_ := (show z15_.toInt ≠ 0 from ti_ne rfl rg_11 c16_)
          refine lv_iconst (v := 1) hx hb dX12_turned_54 rg_6 ?_
          refine lv_goto (tgt := 59) hx hb dX12_turned_55 rfl ?_
          refine lv_iadd hx hb dX12_turned_59 ?_
          refine lv_topi (fun z19_ ez19_ => ?_)
          refine lv_istore_n (lv' := [(3, .int z19_), (0, .ref h), (1, .int x), (2, .int y), (4, .int kv)]) hx hb dX12_turned_60 rfl hl (Nat.le_of_ble_eq_true rfl) rfl (fun ls hl => ?_)
          obtain ⟨z20_, ez20_⟩ : ∃ y : Int32, y = kv + 1 := ⟨_, rfl⟩
          have o11 : -2147483648 ≤ kv.toInt + 1 := by omega
          have o12 : kv.toInt + 1 ≤ 2147483647 := by omega
          have tz20_ := ti_add ez20_ rfl rg_18 o11 o12
          refine lv_iinc (v := z20_) (lv' := [(4, .int z20_), (3, .int z19_), (0, .ref h), (1, .int x), (2, .int y)]) hx hb dX12_turned_61 hl (k := 4) rfl (iincp ez20_ rg_6) (Nat.le_of_ble_eq_true rfl) rfl (fun ls hl => ?_)
          refine lv_goto (tgt := 23) hx hb dX12_turned_64 rfl ?_
          have o13 : (40 - z20_.toInt).toNat < n23 := by omega
          have o14 : 0 ≤ z20_.toInt := by omega
          have o15 : 0 ≤ x.toInt ∧ x.toInt ≤ 3 := by omega
          exact ih23 τ6_ z19_ z20_ _ _ _ (show (40 - z20_.toInt).toNat < n23 from o13) hI8_ Xτ6_ (show 0 ≤ z20_.toInt from o14) (OnOk.x honτ hx9_ rg_492 rg_493 rg_487) henτ (show 0 ≤ x.toInt ∧ x.toInt ≤ 3 from o15) hP hD hS (lv_sub hl [2, 3, 4, 1, 0] rfl)
  refine zH (A := A) (ws := mW h ad cl σ) (fun H hP hS => ?_) hP
  have bσ_29 : 0 ≤ (σ.1 29).toInt ∧ (σ.1 29).toInt ≤ 1 := hI.1 29
  have bσ_39 : 0 ≤ (σ.1 39).toInt ∧ (σ.1 39).toInt ≤ 40 := hI.1 39
  refine lv_aload_n hx hb dX12_turned_0 rfl (lv_at hl 0 rfl) ?_
  refine lv_iload_n hx hb dX12_turned_1 rfl (lv_at hl 1 rfl) ?_
  refine zy_i (va_runV (As := [.int x]) (rest := []) ⟨hx, hb, hml, hown, hts⟩ (n_isEnd l dC dI h ad cl H.size σ x hI) (cwV 1 hts gd_n_turned_431_n_isEnd rfl rfl rfl dd_n_isEnd ⟨Nat.le_of_ble_eq_true rfl, Nat.le_of_ble_eq_true rfl⟩) (preV hP hK hD hE (ci := 12) (q0 := 0) rfl rfl) rfl rfl hl.1 rfl (lv_room (Nat.le_of_ble_eq_true rfl)) dX12_turned_2 ⟨Nat.le_of_ble_eq_true rfl, Nat.le_of_ble_eq_true rfl⟩) hD hS hA (fun z22_ τ21_ H locs hq hP hD hS => ?_)
  obtain ⟨rfl, f23_⟩ := hq
  refine W.widen (k := 0) (n := 0) (Nat.le_of_ble_eq_true rfl) (Nat.le_of_ble_eq_true rfl) ?_
  refine lv_if_eq (tgt := 16) hx hb dX12_turned_5 rfl (fun c24_ => ?_) (fun c24_ => ?_)
  · have tc24_ := (show z22_.toInt = 0 from ti_eq rfl rg_11 c24_)
    refine lv_iconst (v := (-1)) hx hb dX12_turned_16 rg_53 ?_
    rw [hQ]
    exact W.iret (v := (-1)) hx hb hr (fun t ht hW => ⟨⟨(-1), σ, rfl, ⟨hI, eqx.rf⟩, wEn_of hP (hK.sub [] rfl) hD ht hW⟩, hS.F ht⟩) hS.2.2 dX12_turned_17
  · have tc24_ := (show z22_.toInt ≠ 0 from ti_ne rfl rg_11 c24_)
    refine lv_aload_n hx hb dX12_turned_8 rfl (lv_at hl 0 rfl) ?_
    refine lv_iload_n hx hb dX12_turned_9 rfl (lv_at hl 2 rfl) ?_
    refine zy_i (va_runV (As := [.int y]) (rest := []) ⟨hx, hb, hml, hown, hts⟩ (n_isOpen l dC dI h ad cl H.size σ y hI hR hC) (cwV 1 hts gd_n_turned_370_n_isOpen rfl rfl rfl dd_n_isOpen ⟨Nat.le_of_ble_eq_true rfl, Nat.le_of_ble_eq_true rfl⟩) (preV hP hK hD hE (ci := 12) (q0 := 0) rfl rfl) rfl rfl hl.1 rfl (lv_room (Nat.le_of_ble_eq_true rfl)) dX12_turned_10 ⟨Nat.le_of_ble_eq_true rfl, Nat.le_of_ble_eq_true rfl⟩) hD hS hA (fun z26_ τ25_ H locs hq hP hD hS => ?_)
    obtain ⟨hI27_, hx28_, f29_⟩ := hq
    have Xτ25_ : eqx [37, 41, 42, 43, 44, 45, 46, 32, 47, 48, 49, 54, 55, 56, 57] τ25_ σ := eqx.tr hx28_ eqx.rf rg_568
    have qq30_ : (τ25_.1 29).toInt = ((σ.1 29) : Int32).toInt := congrArg Int32.toInt ((show τ25_.1 29 = (σ.1 29) from ((hx28_ 29 rg_569).1).trans rfl))
    have qq31_ : (τ25_.1 39).toInt = ((σ.1 39) : Int32).toInt := congrArg Int32.toInt ((show τ25_.1 39 = (σ.1 39) from ((hx28_ 39 rg_570).1).trans rfl))
    refine W.widen (k := 0) (n := 0) (Nat.le_of_ble_eq_true rfl) (Nat.le_of_ble_eq_true rfl) ?_
    refine lv_if_ne (tgt := 18) hx hb dX12_turned_13 rfl (fun c32_ => ?_) (fun c32_ => ?_)
    · have tc32_ := (show z26_.toInt ≠ 0 from ti_ne rfl rg_11 c32_)
      refine lv_iconst (v := 0) hx hb dX12_turned_18 rg_0 ?_
      refine lv_istore_n (lv' := [(3, .int 0), (0, .ref h), (1, .int x), (2, .int y)]) hx hb dX12_turned_19 rfl hl (Nat.le_of_ble_eq_true rfl) rfl (fun ls hl => ?_)
      refine lv_iconst (v := 0) hx hb dX12_turned_20 rg_0 ?_
      refine lv_istore (lv' := [(4, .int 0), (3, .int 0), (0, .ref h), (1, .int x), (2, .int y)]) hx hb dX12_turned_21 hl (Nat.le_of_ble_eq_true rfl) rfl (fun ls hl => ?_)
      have o16 : ¬ z26_.toInt = 0 := by omega
      have POK33_ : Opn σ y (τ25_.2.1 37) (τ25_.2.2.1 43) (τ25_.2.2.1 44) := by rcases f29_ with q | q; exact q.2; exact absurd q.1 o16
      have OK33_ : OnOk τ25_ := OnR.ok hI hC hx28_ rg_573 rg_574 POK33_.1
      have o17 : 0 ≤ x.toInt := by omega
      have o18 : x.toInt ≤ 3 := by omega
      have o19 : x.toInt < (σ.2.1 13 (σ.1 29).toNatClampNeg).toInt := by omega
      have HE34_ : EndOk σ x := ⟨o17, o18, o19⟩
      have o20 : 0 ≤ x.toInt ∧ x.toInt ≤ 3 := by omega
      exact pt_23 _ τ25_ 0 0 _ _ _ (Nat.lt_succ_self _) hI27_ Xτ25_ rg_56 OK33_ HE34_ (show 0 ≤ x.toInt ∧ x.toInt ≤ 3 from o20) hP hD hS (lv_sub hl [2, 3, 4, 1, 0] rfl)
    · have tc32_ := (show z26_.toInt = 0 from ti_eq rfl rg_11 c32_)
      refine lv_iconst (v := (-1)) hx hb dX12_turned_16 rg_53 ?_
      rw [hQ]
      exact W.iret (v := (-1)) hx hb hr (fun t ht hW => ⟨⟨(-1), τ25_, rfl, ⟨hI27_, Xτ25_⟩, wEn_of hP (hK.sub [] rfl) hD ht hW⟩, hS.F ht⟩) hS.2.2 dX12_turned_17
def ow_n_placeMany : List Cond := [.fieldLink RX12 20 "NearEnoughModel" "rowMany" "[I", .fieldLink RX12 240 "NearEnoughModel" "bank" "I", .fieldLink RX12 30 "NearEnoughModel" "rHas" "[I"]
def vs_n_placeMany : List Cond := .code yX12_placeMany cX12_placeMany 3 (some .int) :: (ow_n_placeMany ++ (wsX120))
theorem vg_n_placeMany : vs_n_placeMany.all goodWord = true := by decide +kernel
theorem dd_n_placeMany : yX12_placeMany.cls = RX12 ∧ yX12_placeMany.cls ≠ "java/lang/invoke/MethodHandle" ∧ yX12_placeMany.cls ≠ "java/lang/invoke/VarHandle" ∧ (parseMethodDescriptor yX12_placeMany.desc).map (fun d => d.parameters.length) = some 0 := by decide +kernel
def rm_n_placeMany : Room := { frames := 0, cells := 0, slots := 0, locals := 0 }
set_option maxHeartbeats 4000000 in
set_option maxRecDepth 100000 in
theorem n_placeMany (l : Launch) (dC : Nat → ClassId) (dI : Nat → Nat → Nat) (h : Nat) (ad : Nat → Nat) (cl : Nat → ClassId) (sz : Nat) (σ : MS)  (hI : Inv σ) : Met l yX12_placeMany vs_n_placeMany rm_n_placeMany (va_Pc [.ref h] (wSt dC dI (mW h ad cl σ) (mT cl) sz)) (va_Qi (fun (r : Int32) (τ : MS) => σ = τ ∧ 0 ≤ r.toInt ∧ r.toInt ≤ 12) (fun (τ : MS) => wEn dC dI (va_A (mW h ad cl σ) sz) (mW h ad cl τ) []) (va_A (mW h ad cl σ) sz)) 0 0 (va_A (mW h ad cl σ) sz) := by
  refine Met.ofW (cc := cX12_placeMany) (maxL := 3) (ret := (some .int)) (by decide) rfl ?_
  intro p e s m args below meth c s₁ B hml hv
  obtain ⟨rfl, hsz, hP, hK, hD0, hE⟩ := hv
  have hx := B.exec
  have hb := B.bytes
  have hr := B.returns
  have hts := atoms_spec (ws := vs_n_placeMany) B.pre
  have hown : s.vm.findClass RX12 = some m.cls := findClass_of_methodNamed B.named
  have hlocks := B.notSynchronized
  subst hsz
  have hD := hD0.self (sz := s.heap.size)
  generalize hAe : va_A (mW h ad cl σ) s.heap.size = A at hD ⊢
  have hA : ∀ q : Nat, s.heap.size ≤ q → A q := fun q h => by rw [← hAe]; exact Or.inr h
  have hl := lv_entry ([.ref h]) (n := 3) (Nat.le_of_ble_eq_true rfl)
  rw [lg_entry_eq]
  generalize (lg_sl ([.ref h]) ++ List.replicate (3 - (lg_sl ([.ref h])).length) Slot.unset).toArray = ls at hl ⊢
  have hl : lv_has ls 3 [(0, .ref h)] := hl
  have ho := fun w (h : w ∈ ow_n_placeMany) => hts w (List.mem_cons_of_mem _ (List.mem_append_left _ h))
  have hin12 : ∀ w ∈ u_ws RX12 TX12 59, w ∈ vs_n_placeMany := fun w h => (List.mem_cons_of_mem _ (List.mem_append_right _ h))
  refine zQ (fun Q hQ => ?_)
  have pt_4 : ∀ (n4 : Nat) (nv : Int32) (kv : Int32) (H : Heap) (locs : List Loc) (ls : Array Slot), (2 - kv.toInt).toNat < n4 → (0 ≤ kv.toInt) → (0 ≤ nv.toInt ∧ nv.toInt ≤ 6 * kv.toInt ∧ kv.toInt ≤ 2) → va_P (dC, dI) vwCl (mW h ad cl σ) H → va_D A (mW h ad cl σ) → va_S A s.heap H locs → lv_has ls 3 [(0, .ref h), (1, .int nv), (2, .int kv)] → W p l e (headSpec vs_n_placeMany rm_n_placeMany).room s m #[Value.ref h] below meth c H locs 0 0 Q (F0 m 4 ls []) := by
    intro n4
    induction n4 with
    | zero => intro nv kv H locs ls hn4 hk0 hnv hP hD hS hl; exact absurd hn4 (Nat.not_lt_zero _)
    | succ n4 ih4 =>
      intro nv kv H locs ls hn4 hk0 hnv hP hD hS hl
      have bσ_29 : 0 ≤ (σ.1 29).toInt ∧ (σ.1 29).toInt ≤ 1 := hI.1 29
      refine lv_iload_n hx hb dX12_placeMany_4 rfl (lv_at hl 2 rfl) ?_
      refine lv_aload_n hx hb dX12_placeMany_5 rfl (lv_at hl 0 rfl) ?_
      refine va_get (D := (dC, dI)) (ci := 12) (v := .ref (ad 11)) (C := RX12) (T := TX12) (N := 59) hx hb hts hin12 hown hK hP 0 rfl rfl 11 (Nat.le_of_ble_eq_true rfl) (ho (.fieldLink RX12 20 "NearEnoughModel" "rowMany" "[I") (List.mem_of_getElem? (i := 0) rfl)) (fun _ h9 => h9) rfl dX12_placeMany_6 ?_
      refine lv_aload_n hx hb dX12_placeMany_9 rfl (lv_at hl 0 rfl) ?_
      refine va_get (D := (dC, dI)) (ci := 12) (v := .int (σ.1 29)) (C := RX12) (T := TX12) (N := 59) hx hb hts hin12 hown hK hP 0 rfl rfl 29 (Nat.le_of_ble_eq_true rfl) (ho (.fieldLink RX12 240 "NearEnoughModel" "bank" "I") (List.mem_of_getElem? (i := 1) rfl)) (fun _ h9 => h9) rfl dX12_placeMany_10 ?_
      have bσ_29 : 0 ≤ (σ.1 29).toInt ∧ (σ.1 29).toInt ≤ 1 := hI.1 29
      have o1 : 0 ≤ (σ.1 29).toInt := by omega
      have o2 : (σ.1 29).toInt < ((2 : Nat) : Int) := by omega
      refine va_iald hx hb hK hP 3 2 rfl rfl (ti_inx o1 o2) dX12_placeMany_13 ?_
      refine lv_topi (fun z1_ ez1_ => ?_)
      have gz1_ : z1_.toInt = ((σ.2.1 11) (Int32.toNatClampNeg (σ.1 29))).toInt := congrArg Int32.toInt (ez1_.trans (congrFun rfl (Int32.toNatClampNeg (σ.1 29))))
      have bz1_ : 0 ≤ z1_.toInt ∧ z1_.toInt ≤ 2 := by rw [ez1_]; exact (hI.2 11) _ (cl_lt (n := 2) o1 o2)
      refine lv_icmp_ge (tgt := 39) hx hb dX12_placeMany_14 rfl (fun c2_ => ?_) (fun c2_ => ?_)
      · have tc2_ := (show z1_.toInt ≤ kv.toInt from ti_le rfl rfl c2_)
        refine lv_iload_n hx hb dX12_placeMany_39 rfl (lv_at hl 1 rfl) ?_
        rw [hQ]
        have o3 : 0 ≤ nv.toInt := by omega
        have o4 : nv.toInt ≤ 12 := by omega
        exact W.iret (v := nv) hx hb hr (fun t ht hW => ⟨⟨nv, σ, rfl, ⟨rfl, o3, o4⟩, wEn_of hP (hK.sub [] rfl) hD ht hW⟩, hS.F ht⟩) hS.2.2 dX12_placeMany_40
      · have tc2_ := (show kv.toInt < z1_.toInt from ti_nle rfl rfl c2_)
        refine lv_iload_n hx hb dX12_placeMany_17 rfl (lv_at hl 1 rfl) ?_
        refine lv_aload_n hx hb dX12_placeMany_18 rfl (lv_at hl 0 rfl) ?_
        refine va_get (D := (dC, dI)) (ci := 12) (v := .ref (ad 14)) (C := RX12) (T := TX12) (N := 59) hx hb hts hin12 hown hK hP 0 rfl rfl 14 (Nat.le_of_ble_eq_true rfl) (ho (.fieldLink RX12 30 "NearEnoughModel" "rHas" "[I") (List.mem_of_getElem? (i := 2) rfl)) (fun _ h9 => h9) rfl dX12_placeMany_19 ?_
        refine lv_iconst (v := 2) hx hb dX12_placeMany_22 rg_19 ?_
        refine lv_aload_n hx hb dX12_placeMany_23 rfl (lv_at hl 0 rfl) ?_
        refine va_get (D := (dC, dI)) (ci := 12) (v := .int (σ.1 29)) (C := RX12) (T := TX12) (N := 59) hx hb hts hin12 hown hK hP 0 rfl rfl 29 (Nat.le_of_ble_eq_true rfl) (ho (.fieldLink RX12 240 "NearEnoughModel" "bank" "I") (List.mem_of_getElem? (i := 1) rfl)) (fun _ h9 => h9) rfl dX12_placeMany_24 ?_
        have bσ_29 : 0 ≤ (σ.1 29).toInt ∧ (σ.1 29).toInt ≤ 1 := hI.1 29
        refine lv_imul hx hb dX12_placeMany_27 ?_
        refine lv_topi (fun z3_ ez3_ => ?_)
        have o5 : -2147483648 ≤ 2 * (σ.1 29).toInt := by omega
        have o6 : 2 * (σ.1 29).toInt ≤ 2147483647 := by omega
        have tz3_ : z3_.toInt = 2 * (σ.1 29).toInt := ti_mul ez3_ rg_20 rfl o5 o6
        refine lv_iload_n hx hb dX12_placeMany_28 rfl (lv_at hl 2 rfl) ?_
        refine lv_iadd hx hb dX12_placeMany_29 ?_
        refine lv_topi (fun z4_ ez4_ => ?_)
        have o7 : -2147483648 ≤ z3_.toInt + kv.toInt := by omega
        have o8 : z3_.toInt + kv.toInt ≤ 2147483647 := by omega
        have tz4_ : z4_.toInt = z3_.toInt + kv.toInt := ti_add ez4_ rfl rfl o7 o8
        have o9 : 0 ≤ z4_.toInt := by omega
        have o10 : z4_.toInt < ((4 : Nat) : Int) := by omega
        refine va_iald hx hb hK hP 6 5 rfl rfl (ti_inx o9 o10) dX12_placeMany_30 ?_
        refine lv_topi (fun z5_ ez5_ => ?_)
        have gz5_ : z5_.toInt = ((σ.2.1 14) (Int32.toNatClampNeg z4_)).toInt := congrArg Int32.toInt (ez5_.trans (congrFun rfl (Int32.toNatClampNeg z4_)))
        have bz5_ : 0 ≤ z5_.toInt ∧ z5_.toInt ≤ 6 := by rw [ez5_]; exact (hI.2 14) _ (cl_lt (n := 4) o9 o10)
        refine lv_iadd hx hb dX12_placeMany_31 ?_
        refine lv_topi (fun z6_ ez6_ => ?_)
        have o11 : -2147483648 ≤ nv.toInt + z5_.toInt := by omega
        have o12 : nv.toInt + z5_.toInt ≤ 2147483647 := by omega
        have tz6_ : z6_.toInt = nv.toInt + z5_.toInt := ti_add ez6_ rfl rfl o11 o12
        refine lv_istore_n (lv' := [(1, .int z6_), (0, .ref h), (2, .int kv)]) hx hb dX12_placeMany_32 rfl hl (Nat.le_of_ble_eq_true rfl) rfl (fun ls hl => ?_)
        obtain ⟨z7_, ez7_⟩ : ∃ y : Int32, y = kv + 1 := ⟨_, rfl⟩
        have o13 : -2147483648 ≤ kv.toInt + 1 := by omega
        have o14 : kv.toInt + 1 ≤ 2147483647 := by omega
        have tz7_ := ti_add ez7_ rfl rg_18 o13 o14
        refine lv_iinc (v := z7_) (lv' := [(2, .int z7_), (1, .int z6_), (0, .ref h)]) hx hb dX12_placeMany_33 hl (k := 2) rfl (iincp ez7_ rg_6) (Nat.le_of_ble_eq_true rfl) rfl (fun ls hl => ?_)
        refine lv_goto (tgt := 4) hx hb dX12_placeMany_36 rfl ?_
        have o15 : (2 - z7_.toInt).toNat < n4 := by omega
        have o16 : 0 ≤ z7_.toInt := by omega
        have o17 : 0 ≤ z6_.toInt ∧ z6_.toInt ≤ 6 * z7_.toInt ∧ z7_.toInt ≤ 2 := by omega
        exact ih4  z6_ z7_ _ _ _ (show (2 - z7_.toInt).toNat < n4 from o15) (show 0 ≤ z7_.toInt from o16) (show 0 ≤ z6_.toInt ∧ z6_.toInt ≤ 6 * z7_.toInt ∧ z7_.toInt ≤ 2 from o17) hP hD hS (lv_sub hl [2, 1, 0] rfl)
  refine zH (A := A) (ws := mW h ad cl σ) (fun H hP hS => ?_) hP
  have bσ_29 : 0 ≤ (σ.1 29).toInt ∧ (σ.1 29).toInt ≤ 1 := hI.1 29
  refine lv_iconst (v := 0) hx hb dX12_placeMany_0 rg_0 ?_
  refine lv_istore_n (lv' := [(1, .int 0), (0, .ref h)]) hx hb dX12_placeMany_1 rfl hl (Nat.le_of_ble_eq_true rfl) rfl (fun ls hl => ?_)
  refine lv_iconst (v := 0) hx hb dX12_placeMany_2 rg_0 ?_
  refine lv_istore_n (lv' := [(2, .int 0), (1, .int 0), (0, .ref h)]) hx hb dX12_placeMany_3 rfl hl (Nat.le_of_ble_eq_true rfl) rfl (fun ls hl => ?_)
  exact pt_4 _  0 0 _ _ _ (Nat.lt_succ_self _) rg_56 rg_605 hP hD hS (lv_sub hl [2, 1, 0] rfl)
def ow_n_layCorner : List Cond := [.fieldLink RX12 30 "NearEnoughModel" "rHas" "[I", .fieldLink RX12 79 "NearEnoughModel" "corner" "[I", .fieldLink RX12 33 "NearEnoughModel" "rLeast" "[I", .fieldLink RX12 36 "NearEnoughModel" "rMost" "[I", .fieldLink RX12 20 "NearEnoughModel" "rowMany" "[I", .fieldLink RX12 240 "NearEnoughModel" "bank" "I"]
def vs_n_layCorner : List Cond := .code yX12_layCorner cX12_layCorner 6 none :: (ow_n_layCorner ++ (wsX120))
theorem vg_n_layCorner : vs_n_layCorner.all goodWord = true := by decide +kernel
theorem dd_n_layCorner : yX12_layCorner.cls = RX12 ∧ yX12_layCorner.cls ≠ "java/lang/invoke/MethodHandle" ∧ yX12_layCorner.cls ≠ "java/lang/invoke/VarHandle" ∧ (parseMethodDescriptor yX12_layCorner.desc).map (fun d => d.parameters.length) = some 1 := by decide +kernel
def rm_n_layCorner : Room := { frames := 0, cells := 0, slots := 0, locals := 0 }
set_option maxHeartbeats 4000000 in
set_option maxRecDepth 100000 in
theorem n_layCorner (l : Launch) (dC : Nat → ClassId) (dI : Nat → Nat → Nat) (h : Nat) (ad : Nat → Nat) (cl : Nat → ClassId) (sz : Nat) (σ : MS) (x : Int32) (hI : Inv σ) : Met l yX12_layCorner vs_n_layCorner rm_n_layCorner (va_Pc [.ref h, .int x] (wSt dC dI (mW h ad cl σ) (mT cl) sz)) (va_Qv (fun (τ : MS) => Inv τ ∧ eqx [32] τ σ) (fun (τ : MS) => wEn dC dI (va_A (mW h ad cl σ) sz) (mW h ad cl τ) []) (va_A (mW h ad cl σ) sz)) 0 0 (va_A (mW h ad cl σ) sz) := by
  refine Met.ofW (cc := cX12_layCorner) (maxL := 6) (ret := none) (by decide) rfl ?_
  intro p e s m args below meth c s₁ B hml hv
  obtain ⟨rfl, hsz, hP, hK, hD0, hE⟩ := hv
  have hx := B.exec
  have hb := B.bytes
  have hr := B.returns
  have hts := atoms_spec (ws := vs_n_layCorner) B.pre
  have hown : s.vm.findClass RX12 = some m.cls := findClass_of_methodNamed B.named
  have hlocks := B.notSynchronized
  subst hsz
  have hD := hD0.self (sz := s.heap.size)
  generalize hAe : va_A (mW h ad cl σ) s.heap.size = A at hD ⊢
  have hA : ∀ q : Nat, s.heap.size ≤ q → A q := fun q h => by rw [← hAe]; exact Or.inr h
  have hl := lv_entry ([.ref h, .int x]) (n := 6) (Nat.le_of_ble_eq_true rfl)
  rw [lg_entry_eq]
  generalize (lg_sl ([.ref h, .int x]) ++ List.replicate (6 - (lg_sl ([.ref h, .int x])).length) Slot.unset).toArray = ls at hl ⊢
  have hl : lv_has ls 6 [(0, .ref h), (1, .int x)] := hl
  have ho := fun w (h : w ∈ ow_n_layCorner) => hts w (List.mem_cons_of_mem _ (List.mem_append_left _ h))
  have hin12 : ∀ w ∈ u_ws RX12 TX12 59, w ∈ vs_n_layCorner := fun w h => (List.mem_cons_of_mem _ (List.mem_append_right _ h))
  refine zQ (fun Q hQ => ?_)
  have pt_4 : ∀ (n4 : Nat) (τ : MS) (kk : Int32) (rv : Int32) (H : Heap) (locs : List Loc) (ls : Array Slot), (2 - rv.toInt).toNat < n4 → (Inv τ) → (eqx [32] τ σ) → (0 ≤ rv.toInt) → va_P (dC, dI) vwCl (mW h ad cl τ) H → va_D A (mW h ad cl τ) → va_S A s.heap H locs → lv_has ls 6 [(0, .ref h), (1, .int x), (2, .int kk), (3, .int rv)] → W p l e (headSpec vs_n_layCorner rm_n_layCorner).room s m #[Value.ref h, Value.int x] below meth c H locs 0 0 Q (F0 m 4 ls []) := by
    intro n4
    induction n4 with
    | zero => intro τ kk rv H locs ls hn4 hIτ hxτ hk0τ hP hD hS hl; exact absurd hn4 (Nat.not_lt_zero _)
    | succ n4 ih4 =>
      intro τ kk rv H locs ls hn4 hIτ hxτ hk0τ hP hD hS hl
      have bτ_29 : 0 ≤ (τ.1 29).toInt ∧ (τ.1 29).toInt ≤ 1 := hIτ.1 29
      have qq1_ : (τ.1 29).toInt = ((σ.1 29) : Int32).toInt := congrArg Int32.toInt (((hxτ 29 rg_606).1))
      have pt_30 : ∀ (n30 : Nat) (υ : MS) (xv : Int32) (kk : Int32) (kv : Int32) (H : Heap) (locs : List Loc) (ls : Array Slot), (6 - kv.toInt).toNat < n30 → (Inv υ) → (eqx [32] υ σ) → (0 ≤ kv.toInt) → (0 ≤ rv.toInt ∧ rv.toInt ≤ 1) → (0 ≤ xv.toInt ∧ xv.toInt ≤ 3) → va_P (dC, dI) vwCl (mW h ad cl υ) H → va_D A (mW h ad cl υ) → va_S A s.heap H locs → lv_has ls 6 [(0, .ref h), (1, .int x), (2, .int kk), (3, .int rv), (4, .int xv), (5, .int kv)] → W p l e (headSpec vs_n_layCorner rm_n_layCorner).room s m #[Value.ref h, Value.int x] below meth c H locs 0 0 Q (F0 m 30 ls []) := by
        intro n30
        induction n30 with
        | zero => intro υ xv kk kv H locs ls hn30 hIυ hxυ hk0υ hrv hxv hP hD hS hl; exact absurd hn30 (Nat.not_lt_zero _)
        | succ n30 ih30 =>
          intro υ xv kk kv H locs ls hn30 hIυ hxυ hk0υ hrv hxv hP hD hS hl
          have bυ_29 : 0 ≤ (υ.1 29).toInt ∧ (υ.1 29).toInt ≤ 1 := hIυ.1 29
          have qq2_ : (υ.1 29).toInt = ((σ.1 29) : Int32).toInt := congrArg Int32.toInt (((hxυ 29 rg_606).1))
          refine lv_iload hx hb dX12_layCorner_30 (lv_at hl 5 rfl) ?_
          refine lv_aload_n hx hb dX12_layCorner_32 rfl (lv_at hl 0 rfl) ?_
          refine va_get (D := (dC, dI)) (ci := 12) (v := .ref (ad 14)) (C := RX12) (T := TX12) (N := 59) hx hb hts hin12 hown hK hP 0 rfl rfl 14 (Nat.le_of_ble_eq_true rfl) (ho (.fieldLink RX12 30 "NearEnoughModel" "rHas" "[I") (List.mem_of_getElem? (i := 0) rfl)) (fun _ h9 => h9) rfl dX12_layCorner_33 ?_
          refine lv_iload hx hb dX12_layCorner_36 (lv_at hl 4 rfl) ?_
          have o1 : 0 ≤ xv.toInt := by omega
          have o2 : xv.toInt < ((4 : Nat) : Int) := by omega
          refine va_iald hx hb hK hP 6 5 rfl rfl (ti_inx o1 o2) dX12_layCorner_38 ?_
          refine lv_topi (fun z3_ ez3_ => ?_)
          have gz3_ : z3_.toInt = ((σ.2.1 14) (Int32.toNatClampNeg xv)).toInt := congrArg Int32.toInt (ez3_.trans (congrFun (hxυ 14 rg_607).2.1 (Int32.toNatClampNeg xv)))
          have bz3_ : 0 ≤ z3_.toInt ∧ z3_.toInt ≤ 6 := by rw [ez3_]; exact (hIυ.2 14) _ (cl_lt (n := 4) o1 o2)
          refine lv_icmp_ge (tgt := 89) hx hb dX12_layCorner_39 rfl (fun c4_ => ?_) (fun c4_ => ?_)
          · have tc4_ := (show z3_.toInt ≤ kv.toInt from ti_le rfl rfl c4_)
            obtain ⟨z5_, ez5_⟩ : ∃ y : Int32, y = rv + 1 := ⟨_, rfl⟩
            have o3 : -2147483648 ≤ rv.toInt + 1 := by omega
            have o4 : rv.toInt + 1 ≤ 2147483647 := by omega
            have tz5_ := ti_add ez5_ rfl rg_18 o3 o4
            refine lv_iinc (v := z5_) (lv' := [(3, .int z5_), (0, .ref h), (1, .int x), (2, .int kk), (4, .int xv), (5, .int kv)]) hx hb dX12_layCorner_89 hl (k := 3) rfl (iincp ez5_ rg_6) (Nat.le_of_ble_eq_true rfl) rfl (fun ls hl => ?_)
            refine lv_goto (tgt := 4) hx hb dX12_layCorner_92 rfl ?_
            have o5 : (2 - z5_.toInt).toNat < n4 := by omega
            have o6 : 0 ≤ z5_.toInt := by omega
            exact ih4 υ kk z5_ _ _ _ (show (2 - z5_.toInt).toNat < n4 from o5) hIυ hxυ (show 0 ≤ z5_.toInt from o6) hP hD hS (lv_sub hl [1, 2, 3, 0] rfl)
          · have tc4_ := (show kv.toInt < z3_.toInt from ti_nle rfl rfl c4_)
            refine lv_aload_n hx hb dX12_layCorner_42 rfl (lv_at hl 0 rfl) ?_
            refine va_get (D := (dC, dI)) (ci := 12) (v := .ref (ad 32)) (C := RX12) (T := TX12) (N := 59) hx hb hts hin12 hown hK hP 0 rfl rfl 32 (Nat.le_of_ble_eq_true rfl) (ho (.fieldLink RX12 79 "NearEnoughModel" "corner" "[I") (List.mem_of_getElem? (i := 1) rfl)) (fun _ h9 => h9) rfl dX12_layCorner_43 ?_
            refine lv_bipush (v := 6) hx hb dX12_layCorner_46 rg_55 ?_
            refine lv_iload_n hx hb dX12_layCorner_48 rfl (lv_at hl 3 rfl) ?_
            refine lv_imul hx hb dX12_layCorner_49 ?_
            refine lv_topi (fun z6_ ez6_ => ?_)
            have o7 : -2147483648 ≤ 6 * rv.toInt := by omega
            have o8 : 6 * rv.toInt ≤ 2147483647 := by omega
            have tz6_ : z6_.toInt = 6 * rv.toInt := ti_mul ez6_ rg_70 rfl o7 o8
            refine lv_iload hx hb dX12_layCorner_50 (lv_at hl 5 rfl) ?_
            refine lv_iadd hx hb dX12_layCorner_52 ?_
            refine lv_topi (fun z7_ ez7_ => ?_)
            have o9 : -2147483648 ≤ z6_.toInt + kv.toInt := by omega
            have o10 : z6_.toInt + kv.toInt ≤ 2147483647 := by omega
            have tz7_ : z7_.toInt = z6_.toInt + kv.toInt := ti_add ez7_ rfl rfl o9 o10
            refine lv_iload_n hx hb dX12_layCorner_53 rfl (lv_at hl 1 rfl) ?_
            refine lv_iload_n hx hb dX12_layCorner_54 rfl (lv_at hl 2 rfl) ?_
            refine lv_ishr hx hb dX12_layCorner_55 ?_
            refine lv_topi (fun z8_ ez8_ => ?_)
            refine lv_iconst (v := 1) hx hb dX12_layCorner_56 rg_6 ?_
            refine lv_iand hx hb dX12_layCorner_57 ?_
            refine lv_topi (fun z9_ ez9_ => ?_)
            refine lv_iconst (v := 1) hx hb dX12_layCorner_58 rg_6 ?_
            refine lv_icmp_ne (tgt := 72) hx hb dX12_layCorner_59 rfl (fun c10_ => ?_) (fun c10_ => ?_)
            · have tc10_ := (show z9_.toInt ≠ 1 from ti_ne rfl rg_18 c10_)
              refine lv_aload_n hx hb dX12_layCorner_72 rfl (lv_at hl 0 rfl) ?_
              refine va_get (D := (dC, dI)) (ci := 12) (v := .ref (ad 15)) (C := RX12) (T := TX12) (N := 59) hx hb hts hin12 hown hK hP 0 rfl rfl 15 (Nat.le_of_ble_eq_true rfl) (ho (.fieldLink RX12 33 "NearEnoughModel" "rLeast" "[I") (List.mem_of_getElem? (i := 2) rfl)) (fun _ h9 => h9) rfl dX12_layCorner_73 ?_
              refine lv_iload hx hb dX12_layCorner_76 (lv_at hl 4 rfl) ?_
              refine va_iald hx hb hK hP 7 6 rfl rfl (ti_inx o1 o2) dX12_layCorner_78 ?_
              refine lv_topi (fun z11_ ez11_ => ?_)
              have gz11_ : z11_.toInt = ((σ.2.1 15) (Int32.toNatClampNeg xv)).toInt := congrArg Int32.toInt (ez11_.trans (congrFun (hxυ 15 rg_608).2.1 (Int32.toNatClampNeg xv)))
              have o11 : 0 ≤ z7_.toInt := by omega
              have o12 : z7_.toInt < ((12 : Nat) : Int) := by omega
              refine va_iast hx hb hK hP hD hS 22 21 rfl rfl (ti_inx o11 o12) dX12_layCorner_79 (fun H locs hP hD hS => ?_)
              rw [wS32] at hP hD
              obtain ⟨τ12_, eτ12_⟩ : ∃ x9 : MS, x9 = sA υ 32 (upd (υ.2.1 32) (Int32.toNatClampNeg z7_) z11_) := ⟨_, rfl⟩
              have hP : va_P (dC, dI) vwCl (mW h ad cl τ12_) H := by rw [eτ12_]; exact hP
              have hD : va_D A (mW h ad cl τ12_) := by rw [eτ12_]; exact hD
              have hIτ12_ : Inv τ12_ := by rw [eτ12_]; exact (Inv_sA1 hIυ (fun j _ => Inv.any _))
              have Xτ12_ : eqx [32] τ12_ σ := (eqx.eq eτ12_ (eqx.sA hxυ rg_609))
              have qq13_ : (τ12_.1 29).toInt = ((σ.1 29) : Int32).toInt := congrArg Int32.toInt ((show τ12_.1 29 = (σ.1 29) from (congrArg (fun x9 : MS => x9.1 29) eτ12_).trans ((hxυ 29 rg_606).1)))
              obtain ⟨z14_, ez14_⟩ : ∃ y : Int32, y = kk + 1 := ⟨_, rfl⟩
              refine lv_iinc (v := z14_) (lv' := [(2, .int z14_), (0, .ref h), (1, .int x), (3, .int rv), (4, .int xv), (5, .int kv)]) hx hb dX12_layCorner_80 hl (k := 2) rfl (iincp ez14_ rg_6) (Nat.le_of_ble_eq_true rfl) rfl (fun ls hl => ?_)
              obtain ⟨z15_, ez15_⟩ : ∃ y : Int32, y = kv + 1 := ⟨_, rfl⟩
              have o13 : -2147483648 ≤ kv.toInt + 1 := by omega
              have o14 : kv.toInt + 1 ≤ 2147483647 := by omega
              have tz15_ := ti_add ez15_ rfl rg_18 o13 o14
              refine lv_iinc (v := z15_) (lv' := [(5, .int z15_), (2, .int z14_), (0, .ref h), (1, .int x), (3, .int rv), (4, .int xv)]) hx hb dX12_layCorner_83 hl (k := 5) rfl (iincp ez15_ rg_6) (Nat.le_of_ble_eq_true rfl) rfl (fun ls hl => ?_)
              refine lv_goto (tgt := 30) hx hb dX12_layCorner_86 rfl ?_
              have o15 : (6 - z15_.toInt).toNat < n30 := by omega
              have o16 : 0 ≤ z15_.toInt := by omega
              have o17 : 0 ≤ rv.toInt ∧ rv.toInt ≤ 1 := by omega
              have o18 : 0 ≤ xv.toInt ∧ xv.toInt ≤ 3 := by omega
              exact ih30 τ12_ xv z14_ z15_ _ _ _ (show (6 - z15_.toInt).toNat < n30 from o15) hIτ12_ Xτ12_ (show 0 ≤ z15_.toInt from o16) (show 0 ≤ rv.toInt ∧ rv.toInt ≤ 1 from o17) (show 0 ≤ xv.toInt ∧ xv.toInt ≤ 3 from o18) hP hD hS (lv_sub hl [2, 3, 1, 4, 5, 0] rfl)
            · have tc10_ := (show z9_.toInt = 1 from ti_eq rfl rg_18 c10_)
              refine lv_aload_n hx hb dX12_layCorner_62 rfl (lv_at hl 0 rfl) ?_
              refine va_get (D := (dC, dI)) (ci := 12) (v := .ref (ad 16)) (C := RX12) (T := TX12) (N := 59) hx hb hts hin12 hown hK hP 0 rfl rfl 16 (Nat.le_of_ble_eq_true rfl) (ho (.fieldLink RX12 36 "NearEnoughModel" "rMost" "[I") (List.mem_of_getElem? (i := 3) rfl)) (fun _ h9 => h9) rfl dX12_layCorner_63 ?_
              refine lv_iload hx hb dX12_layCorner_66 (lv_at hl 4 rfl) ?_
              refine va_iald hx hb hK hP 8 7 rfl rfl (ti_inx o1 o2) dX12_layCorner_68 ?_
              refine lv_topi (fun z16_ ez16_ => ?_)
              have gz16_ : z16_.toInt = ((σ.2.1 16) (Int32.toNatClampNeg xv)).toInt := congrArg Int32.toInt (ez16_.trans (congrFun (hxυ 16 rg_610).2.1 (Int32.toNatClampNeg xv)))
              refine lv_goto (tgt := 79) hx hb dX12_layCorner_69 rfl ?_
              have o19 : 0 ≤ z7_.toInt := by omega
              have o20 : z7_.toInt < ((12 : Nat) : Int) := by omega
              refine va_iast hx hb hK hP hD hS 22 21 rfl rfl (ti_inx o19 o20) dX12_layCorner_79 (fun H locs hP hD hS => ?_)
              rw [wS32] at hP hD
              obtain ⟨τ17_, eτ17_⟩ : ∃ x9 : MS, x9 = sA υ 32 (upd (υ.2.1 32) (Int32.toNatClampNeg z7_) z16_) := ⟨_, rfl⟩
              have hP : va_P (dC, dI) vwCl (mW h ad cl τ17_) H := by rw [eτ17_]; exact hP
              have hD : va_D A (mW h ad cl τ17_) := by rw [eτ17_]; exact hD
              have hIτ17_ : Inv τ17_ := by rw [eτ17_]; exact (Inv_sA1 hIυ (fun j _ => Inv.any _))
              have Xτ17_ : eqx [32] τ17_ σ := (eqx.eq eτ17_ (eqx.sA hxυ rg_609))
              have qq18_ : (τ17_.1 29).toInt = ((σ.1 29) : Int32).toInt := congrArg Int32.toInt ((show τ17_.1 29 = (σ.1 29) from (congrArg (fun x9 : MS => x9.1 29) eτ17_).trans ((hxυ 29 rg_606).1)))
              obtain ⟨z19_, ez19_⟩ : ∃ y : Int32, y = kk + 1 := ⟨_, rfl⟩
              refine lv_iinc (v := z19_) (lv' := [(2, .int z19_), (0, .ref h), (1, .int x), (3, .int rv), (4, .int xv), (5, .int kv)]) hx hb dX12_layCorner_80 hl (k := 2) rfl (iincp ez19_ rg_6) (Nat.le_of_ble_eq_true rfl) rfl (fun ls hl => ?_)
              obtain ⟨z20_, ez20_⟩ : ∃ y : Int32, y = kv + 1 := ⟨_, rfl⟩
              have o21 : -2147483648 ≤ kv.toInt + 1 := by omega
              have o22 : kv.toInt + 1 ≤ 2147483647 := by omega
              have tz20_ := ti_add ez20_ rfl rg_18 o21 o22
              refine lv_iinc (v := z20_) (lv' := [(5, .int z20_), (2, .int z19_), (0, .ref h), (1, .int x), (3, .int rv), (4, .int xv)]) hx hb dX12_layCorner_83 hl (k := 5) rfl (iincp ez20_ rg_6) (Nat.le_of_ble_eq_true rfl) rfl (fun ls hl => ?_)
              refine lv_goto (tgt := 30) hx hb dX12_layCorner_86 rfl ?_
              have o23 : (6 - z20_.toInt).toNat < n30 := by omega
              have o24 : 0 ≤ z20_.toInt := by omega
              have o25 : 0 ≤ rv.toInt ∧ rv.toInt ≤ 1 := by omega
              have o26 : 0 ≤ xv.toInt ∧ xv.toInt ≤ 3 := by omega
              exact ih30 τ17_ xv z19_ z20_ _ _ _ (show (6 - z20_.toInt).toNat < n30 from o23) hIτ17_ Xτ17_ (show 0 ≤ z20_.toInt from o24) (show 0 ≤ rv.toInt ∧ rv.toInt ≤ 1 from o25) (show 0 ≤ xv.toInt ∧ xv.toInt ≤ 3 from o26) hP hD hS (lv_sub hl [2, 3, 1, 4, 5, 0] rfl)
      refine lv_iload_n hx hb dX12_layCorner_4 rfl (lv_at hl 3 rfl) ?_
      refine lv_aload_n hx hb dX12_layCorner_5 rfl (lv_at hl 0 rfl) ?_
      refine va_get (D := (dC, dI)) (ci := 12) (v := .ref (ad 11)) (C := RX12) (T := TX12) (N := 59) hx hb hts hin12 hown hK hP 0 rfl rfl 11 (Nat.le_of_ble_eq_true rfl) (ho (.fieldLink RX12 20 "NearEnoughModel" "rowMany" "[I") (List.mem_of_getElem? (i := 4) rfl)) (fun _ h9 => h9) rfl dX12_layCorner_6 ?_
      refine lv_aload_n hx hb dX12_layCorner_9 rfl (lv_at hl 0 rfl) ?_
      refine va_get (D := (dC, dI)) (ci := 12) (v := .int (τ.1 29)) (C := RX12) (T := TX12) (N := 59) hx hb hts hin12 hown hK hP 0 rfl rfl 29 (Nat.le_of_ble_eq_true rfl) (ho (.fieldLink RX12 240 "NearEnoughModel" "bank" "I") (List.mem_of_getElem? (i := 5) rfl)) (fun _ h9 => h9) rfl dX12_layCorner_10 ?_
      refine zi (v := (σ.1 29)) ((hxτ 29 rg_606).1) ?_
      have bb21_ : 0 ≤ (σ.1 29).toInt ∧ (σ.1 29).toInt ≤ 1 := by have h9 := hIτ.1 29; rw [show (τ.1 29) = (σ.1 29) from ((hxτ 29 rg_606).1)] at h9; exact h9
      have o27 : 0 ≤ (σ.1 29).toInt := by omega
      have o28 : (σ.1 29).toInt < ((2 : Nat) : Int) := by omega
      refine va_iald hx hb hK hP 3 2 rfl rfl (ti_inx o27 o28) dX12_layCorner_13 ?_
      refine lv_topi (fun z22_ ez22_ => ?_)
      have gz22_ : z22_.toInt = ((σ.2.1 11) (Int32.toNatClampNeg (σ.1 29))).toInt := congrArg Int32.toInt (ez22_.trans (congrFun (hxτ 11 rg_611).2.1 (Int32.toNatClampNeg (σ.1 29))))
      have bz22_ : 0 ≤ z22_.toInt ∧ z22_.toInt ≤ 2 := by rw [ez22_]; exact (hIτ.2 11) _ (cl_lt (n := 2) o27 o28)
      refine lv_icmp_ge (tgt := 95) hx hb dX12_layCorner_14 rfl (fun c23_ => ?_) (fun c23_ => ?_)
      · have tc23_ := (show z22_.toInt ≤ rv.toInt from ti_le rfl rfl c23_)
        rw [hQ]
        exact W.vret hx hb hr (fun t ht hW => ⟨⟨τ, rfl, ⟨hIτ, hxτ⟩, wEn_of hP (hK.sub [] rfl) hD ht hW⟩, hS.F ht⟩) hS.2.2 dX12_layCorner_95
      · have tc23_ := (show rv.toInt < z22_.toInt from ti_nle rfl rfl c23_)
        refine lv_iconst (v := 2) hx hb dX12_layCorner_17 rg_19 ?_
        refine lv_aload_n hx hb dX12_layCorner_18 rfl (lv_at hl 0 rfl) ?_
        refine va_get (D := (dC, dI)) (ci := 12) (v := .int (τ.1 29)) (C := RX12) (T := TX12) (N := 59) hx hb hts hin12 hown hK hP 0 rfl rfl 29 (Nat.le_of_ble_eq_true rfl) (ho (.fieldLink RX12 240 "NearEnoughModel" "bank" "I") (List.mem_of_getElem? (i := 5) rfl)) (fun _ h9 => h9) rfl dX12_layCorner_19 ?_
        refine zi (v := (σ.1 29)) ((hxτ 29 rg_606).1) ?_
        have bb24_ : 0 ≤ (σ.1 29).toInt ∧ (σ.1 29).toInt ≤ 1 := by have h9 := hIτ.1 29; rw [show (τ.1 29) = (σ.1 29) from ((hxτ 29 rg_606).1)] at h9; exact h9
        refine lv_imul hx hb dX12_layCorner_22 ?_
        refine lv_topi (fun z25_ ez25_ => ?_)
        have o29 : -2147483648 ≤ 2 * (σ.1 29).toInt := by omega
        have o30 : 2 * (σ.1 29).toInt ≤ 2147483647 := by omega
        have tz25_ : z25_.toInt = 2 * (σ.1 29).toInt := ti_mul ez25_ rg_20 rfl o29 o30
        refine lv_iload_n hx hb dX12_layCorner_23 rfl (lv_at hl 3 rfl) ?_
        refine lv_iadd hx hb dX12_layCorner_24 ?_
        refine lv_topi (fun z26_ ez26_ => ?_)
        have o31 : -2147483648 ≤ z25_.toInt + rv.toInt := by omega
        have o32 : z25_.toInt + rv.toInt ≤ 2147483647 := by omega
        have tz26_ : z26_.toInt = z25_.toInt + rv.toInt := ti_add ez26_ rfl rfl o31 o32
        refine lv_istore (lv' := [(4, .int z26_), (0, .ref h), (1, .int x), (2, .int kk), (3, .int rv)]) hx hb dX12_layCorner_25 hl (Nat.le_of_ble_eq_true rfl) rfl (fun ls hl => ?_)
        refine lv_iconst (v := 0) hx hb dX12_layCorner_27 rg_0 ?_
        refine lv_istore (lv' := [(5, .int 0), (4, .int z26_), (0, .ref h), (1, .int x), (2, .int kk), (3, .int rv)]) hx hb dX12_layCorner_28 hl (Nat.le_of_ble_eq_true rfl) rfl (fun ls hl => ?_)
        have o33 : 0 ≤ rv.toInt ∧ rv.toInt ≤ 1 := by omega
        have o34 : 0 ≤ z26_.toInt ∧ z26_.toInt ≤ 3 := by omega
        exact pt_30 _ τ z26_ kk 0 _ _ _ (Nat.lt_succ_self _) hIτ hxτ rg_56 (show 0 ≤ rv.toInt ∧ rv.toInt ≤ 1 from o33) (show 0 ≤ z26_.toInt ∧ z26_.toInt ≤ 3 from o34) hP hD hS (lv_sub hl [2, 3, 4, 5, 1, 0] rfl)
  refine zH (A := A) (ws := mW h ad cl σ) (fun H hP hS => ?_) hP
  have bσ_29 : 0 ≤ (σ.1 29).toInt ∧ (σ.1 29).toInt ≤ 1 := hI.1 29
  refine lv_iconst (v := 0) hx hb dX12_layCorner_0 rg_0 ?_
  refine lv_istore_n (lv' := [(2, .int 0), (0, .ref h), (1, .int x)]) hx hb dX12_layCorner_1 rfl hl (Nat.le_of_ble_eq_true rfl) rfl (fun ls hl => ?_)
  refine lv_iconst (v := 0) hx hb dX12_layCorner_2 rg_0 ?_
  refine lv_istore_n (lv' := [(3, .int 0), (2, .int 0), (0, .ref h), (1, .int x)]) hx hb dX12_layCorner_3 rfl hl (Nat.le_of_ble_eq_true rfl) rfl (fun ls hl => ?_)
  exact pt_4 _ σ 0 0 _ _ _ (Nat.lt_succ_self _) hI eqx.rf rg_56 hP hD hS (lv_sub hl [2, 3, 1, 0] rfl)
def ow_n_worst : List Cond := [.fieldLink RX12 79 "NearEnoughModel" "corner" "[I", .fieldLink RX12 101 "NearEnoughModel" "came" "[J", .fieldLink RX12 104 "NearEnoughModel" "plain" "[J", .constantLong RX12 429 (-1000000000000), .fieldLink RX12 54 "NearEnoughModel" "eStep" "[I", .fieldLink RX12 240 "NearEnoughModel" "bank" "I"]
def vs_n_worst : List Cond := .code yX12_worst cX12_worst 11 (some .long) :: (ow_n_worst ++ (([.methodLink RX12 471 yX12_placeMany, .instanceMethod yX12_placeMany, .selects RX12 yX12_placeMany yX12_placeMany, .initialized RX12] : List Cond) ++ (vs_n_placeMany ++ (([.methodLink RX12 474 yX12_layCorner, .instanceMethod yX12_layCorner, .selects RX12 yX12_layCorner yX12_layCorner, .initialized RX12] : List Cond) ++ (vs_n_layCorner ++ (([.methodLink RX12 375 yX12_run, .instanceMethod yX12_run, .selects RX12 yX12_run yX12_run, .initialized RX12] : List Cond) ++ (vs_n_run_c ++ (([.methodLink RX12 318 yX12_greater, .static yX12_greater, .initialized yX12_greater.cls] : List Cond) ++ (vs_n_greaterV ++ (([.methodLink RX12 431 yX12_isEnd, .instanceMethod yX12_isEnd, .selects RX12 yX12_isEnd yX12_isEnd, .initialized RX12] : List Cond) ++ (vs_n_isEnd ++ (([.methodLink RX12 370 yX12_isOpen, .instanceMethod yX12_isOpen, .selects RX12 yX12_isOpen yX12_isOpen, .initialized RX12] : List Cond) ++ (vs_n_isOpen ++ (([.methodLink RX12 324 yX12_isIn, .static yX12_isIn, .initialized yX12_isIn.cls] : List Cond) ++ (vs_n_isIn ++ (wsX120))))))))))))))))
theorem vg_n_worst : vs_n_worst.all goodWord = true := by decide +kernel
theorem dd_n_worst : yX12_worst.cls = RX12 ∧ yX12_worst.cls ≠ "java/lang/invoke/MethodHandle" ∧ yX12_worst.cls ≠ "java/lang/invoke/VarHandle" ∧ (parseMethodDescriptor yX12_worst.desc).map (fun d => d.parameters.length) = some 3 := by decide +kernel
def rm_n_worst : Room := { frames := 7, cells := 0, slots := 0, locals := 180 }
theorem gd_n_worst_471_n_placeMany : GoodIn vs_n_worst (wsV RX12 471 RX12 yX12_placeMany vs_n_placeMany) := goodIn_app (goodIn_sub (fun w h => (List.mem_cons_of_mem _ (List.mem_append_right _ (List.mem_append_left _ h)))) (by decide +kernel)) (goodIn_sub (fun w h => (List.mem_cons_of_mem _ (List.mem_append_right _ (List.mem_append_right _ (List.mem_append_left _ h))))) vg_n_placeMany)
theorem gd_n_worst_474_n_layCorner : GoodIn vs_n_worst (wsV RX12 474 RX12 yX12_layCorner vs_n_layCorner) := goodIn_app (goodIn_sub (fun w h => (List.mem_cons_of_mem _ (List.mem_append_right _ (List.mem_append_right _ (List.mem_append_right _ (List.mem_append_left _ h)))))) (by decide +kernel)) (goodIn_sub (fun w h => (List.mem_cons_of_mem _ (List.mem_append_right _ (List.mem_append_right _ (List.mem_append_right _ (List.mem_append_right _ (List.mem_append_left _ h))))))) vg_n_layCorner)
theorem gd_n_worst_375_n_run_c : GoodIn vs_n_worst (wsV RX12 375 RX12 yX12_run vs_n_run_c) := goodIn_app (goodIn_sub (fun w h => (List.mem_cons_of_mem _ (List.mem_append_right _ (List.mem_append_right _ (List.mem_append_right _ (List.mem_append_right _ (List.mem_append_right _ (List.mem_append_left _ h)))))))) (by decide +kernel)) (goodIn_sub (fun w h => (List.mem_cons_of_mem _ (List.mem_append_right _ (List.mem_append_right _ (List.mem_append_right _ (List.mem_append_right _ (List.mem_append_right _ (List.mem_append_right _ (List.mem_append_left _ h))))))))) vg_n_run_c)
theorem gd_n_worst_318_n_greaterV : GoodIn vs_n_worst (va_wsS RX12 318 yX12_greater vs_n_greaterV) := goodIn_app (goodIn_sub (fun w h => (List.mem_cons_of_mem _ (List.mem_append_right _ (List.mem_append_right _ (List.mem_append_right _ (List.mem_append_right _ (List.mem_append_right _ (List.mem_append_right _ (List.mem_append_right _ (List.mem_append_left _ h)))))))))) (by decide +kernel)) (goodIn_sub (fun w h => (List.mem_cons_of_mem _ (List.mem_append_right _ (List.mem_append_right _ (List.mem_append_right _ (List.mem_append_right _ (List.mem_append_right _ (List.mem_append_right _ (List.mem_append_right _ (List.mem_append_right _ (List.mem_append_left _ h))))))))))) vg_n_greaterV)
theorem gd_n_worst_431_n_isEnd : GoodIn vs_n_worst (wsV RX12 431 RX12 yX12_isEnd vs_n_isEnd) := goodIn_app (goodIn_sub (fun w h => (List.mem_cons_of_mem _ (List.mem_append_right _ (List.mem_append_right _ (List.mem_append_right _ (List.mem_append_right _ (List.mem_append_right _ (List.mem_append_right _ (List.mem_append_right _ (List.mem_append_right _ (List.mem_append_right _ (List.mem_append_left _ h)))))))))))) (by decide +kernel)) (goodIn_sub (fun w h => (List.mem_cons_of_mem _ (List.mem_append_right _ (List.mem_append_right _ (List.mem_append_right _ (List.mem_append_right _ (List.mem_append_right _ (List.mem_append_right _ (List.mem_append_right _ (List.mem_append_right _ (List.mem_append_right _ (List.mem_append_right _ (List.mem_append_left _ h))))))))))))) vg_n_isEnd)
theorem gd_n_worst_370_n_isOpen : GoodIn vs_n_worst (wsV RX12 370 RX12 yX12_isOpen vs_n_isOpen) := goodIn_app (goodIn_sub (fun w h => (List.mem_cons_of_mem _ (List.mem_append_right _ (List.mem_append_right _ (List.mem_append_right _ (List.mem_append_right _ (List.mem_append_right _ (List.mem_append_right _ (List.mem_append_right _ (List.mem_append_right _ (List.mem_append_right _ (List.mem_append_right _ (List.mem_append_right _ (List.mem_append_left _ h)))))))))))))) (by decide +kernel)) (goodIn_sub (fun w h => (List.mem_cons_of_mem _ (List.mem_append_right _ (List.mem_append_right _ (List.mem_append_right _ (List.mem_append_right _ (List.mem_append_right _ (List.mem_append_right _ (List.mem_append_right _ (List.mem_append_right _ (List.mem_append_right _ (List.mem_append_right _ (List.mem_append_right _ (List.mem_append_right _ (List.mem_append_left _ h))))))))))))))) vg_n_isOpen)
theorem gd_n_worst_324_n_isIn : GoodIn vs_n_worst (va_wsS RX12 324 yX12_isIn vs_n_isIn) := goodIn_app (goodIn_sub (fun w h => (List.mem_cons_of_mem _ (List.mem_append_right _ (List.mem_append_right _ (List.mem_append_right _ (List.mem_append_right _ (List.mem_append_right _ (List.mem_append_right _ (List.mem_append_right _ (List.mem_append_right _ (List.mem_append_right _ (List.mem_append_right _ (List.mem_append_right _ (List.mem_append_right _ (List.mem_append_right _ (List.mem_append_left _ h)))))))))))))))) (by decide +kernel)) (goodIn_sub (fun w h => (List.mem_cons_of_mem _ (List.mem_append_right _ (List.mem_append_right _ (List.mem_append_right _ (List.mem_append_right _ (List.mem_append_right _ (List.mem_append_right _ (List.mem_append_right _ (List.mem_append_right _ (List.mem_append_right _ (List.mem_append_right _ (List.mem_append_right _ (List.mem_append_right _ (List.mem_append_right _ (List.mem_append_right _ (List.mem_append_left _ h))))))))))))))))) vg_n_isIn)
set_option maxHeartbeats 4000000 in
set_option maxRecDepth 100000 in
theorem n_worst (l : Launch) (dC : Nat → ClassId) (dI : Nat → Nat → Nat) (h : Nat) (ad : Nat → Nat) (cl : Nat → ClassId) (sz : Nat) (σ : MS) (x : Int32) (y : Int32) (z : Int32) (hI : Inv σ) (hR : RelP σ (σ.1 29).toNatClampNeg) (hC : ChR σ) : Met l yX12_worst vs_n_worst rm_n_worst (va_Pc [.ref h, .int x, .int y, .int z] (wSt dC dI (mW h ad cl σ) (mT cl) sz)) (va_Ql (fun (r : Int64) (τ : MS) => Inv τ ∧ eqx [37, 41, 42, 43, 44, 45, 46, 32, 47, 48, 49, 54, 55, 56, 57] τ σ) (fun (τ : MS) => wEn dC dI (va_A (mW h ad cl σ) sz) (mW h ad cl τ) []) (va_A (mW h ad cl σ) sz)) 0 0 (va_A (mW h ad cl σ) sz) := by
  refine Met.ofW (cc := cX12_worst) (maxL := 11) (ret := (some .long)) (by decide) rfl ?_
  intro p e s m args below meth c s₁ B hml hv
  obtain ⟨rfl, hsz, hP, hK, hD0, hE⟩ := hv
  have hx := B.exec
  have hb := B.bytes
  have hr := B.returns
  have hts := atoms_spec (ws := vs_n_worst) B.pre
  have hown : s.vm.findClass RX12 = some m.cls := findClass_of_methodNamed B.named
  have hlocks := B.notSynchronized
  subst hsz
  have hD := hD0.self (sz := s.heap.size)
  generalize hAe : va_A (mW h ad cl σ) s.heap.size = A at hD ⊢
  have hA : ∀ q : Nat, s.heap.size ≤ q → A q := fun q h => by rw [← hAe]; exact Or.inr h
  have hl := lv_entry ([.ref h, .int x, .int y, .int z]) (n := 11) (Nat.le_of_ble_eq_true rfl)
  rw [lg_entry_eq]
  generalize (lg_sl ([.ref h, .int x, .int y, .int z]) ++ List.replicate (11 - (lg_sl ([.ref h, .int x, .int y, .int z])).length) Slot.unset).toArray = ls at hl ⊢
  have hl : lv_has ls 11 [(0, .ref h), (1, .int x), (2, .int y), (3, .int z)] := hl
  have ho := fun w (h : w ∈ ow_n_worst) => hts w (List.mem_cons_of_mem _ (List.mem_append_left _ h))
  have hin12 : ∀ w ∈ u_ws RX12 TX12 59, w ∈ vs_n_worst := fun w h => (List.mem_cons_of_mem _ (List.mem_append_right _ (List.mem_append_right _ (List.mem_append_right _ (List.mem_append_right _ (List.mem_append_right _ (List.mem_append_right _ (List.mem_append_right _ (List.mem_append_right _ (List.mem_append_right _ (List.mem_append_right _ (List.mem_append_right _ (List.mem_append_right _ (List.mem_append_right _ (List.mem_append_right _ (List.mem_append_right _ h))))))))))))))))
  refine zQ (fun Q hQ => ?_)
  have pt_53 : ∀ (n53 : Nat) (τ : MS) (sx : Int32) (wv : Int64) (bv : Int32) (kv : Int32) (H : Heap) (locs : List Loc) (ls : Array Slot), (4096 - kv.toInt).toNat < n53 → (Inv τ) → (eqx [37, 41, 42, 43, 44, 45, 46, 32, 47, 48, 49, 54, 55, 56, 57] τ σ) → (0 ≤ kv.toInt) → (OnOk τ) → (0 ≤ sx.toInt ∧ sx.toInt ≤ 11) → va_P (dC, dI) vwCl (mW h ad cl τ) H → va_D A (mW h ad cl τ) → va_S A s.heap H locs → lv_has ls 11 [(0, .ref h), (1, .int x), (2, .int y), (3, .int z), (4, .int sx), (5, .long wv), (7, .int bv), (8, .int kv)] → W p l e (headSpec vs_n_worst rm_n_worst).room s m #[Value.ref h, Value.int x, Value.int y, Value.int z] below meth c H locs 0 0 Q (F0 m 53 ls []) := by
    intro n53
    induction n53 with
    | zero => intro τ sx wv bv kv H locs ls hn53 hIτ hxτ hk0τ honτ hsx hP hD hS hl; exact absurd hn53 (Nat.not_lt_zero _)
    | succ n53 ih53 =>
      intro τ sx wv bv kv H locs ls hn53 hIτ hxτ hk0τ honτ hsx hP hD hS hl
      have bτ_29 : 0 ≤ (τ.1 29).toInt ∧ (τ.1 29).toInt ≤ 1 := hIτ.1 29
      have qq1_ : (τ.1 29).toInt = ((σ.1 29) : Int32).toInt := congrArg Int32.toInt (((hxτ 29 rg_571).1))
      refine lv_iload hx hb dX12_worst_53 (lv_at hl 7 rfl) ?_
      refine lv_iconst (v := 1) hx hb dX12_worst_55 rg_6 ?_
      refine lv_aload_n hx hb dX12_worst_56 rfl (lv_at hl 0 rfl) ?_
      refine zy_i (va_runV (As := []) (rest := [.int 1, .int kv]) ⟨hx, hb, hml, hown, hts⟩ (n_placeMany l dC dI h ad cl H.size τ  hIτ) (cwV 0 hts gd_n_worst_471_n_placeMany rfl rfl rfl dd_n_placeMany ⟨Nat.le_of_ble_eq_true rfl, Nat.le_of_ble_eq_true rfl⟩) (preV hP hK hD hE (ci := 12) (q0 := 0) rfl rfl) rfl rfl hl.1 rfl (lv_room (Nat.le_of_ble_eq_true rfl)) dX12_worst_57 ⟨Nat.le_of_ble_eq_true rfl, Nat.le_of_ble_eq_true rfl⟩) hD hS hA (fun z3_ τ2_ H locs hq hP hD hS => ?_)
      obtain ⟨rfl, f4_, f5_⟩ := hq
      refine W.widen (k := 0) (n := 0) (Nat.le_of_ble_eq_true rfl) (Nat.le_of_ble_eq_true rfl) ?_
      refine lv_ishl hx hb dX12_worst_60 ?_
      refine lv_topi (fun z6_ ez6_ => ?_)
      have o1 : 0 ≤ z3_.toInt := by omega
      have o2 : z3_.toInt ≤ 12 := by omega
      have bz6_ := shl_bd ez6_ o1 o2
      refine lv_icmp_ge (tgt := 133) hx hb dX12_worst_61 rfl (fun c7_ => ?_) (fun c7_ => ?_)
      · have tc7_ := (show z6_.toInt ≤ kv.toInt from ti_le rfl rfl c7_)
        refine lv_iload_n hx hb dX12_worst_133 rfl (lv_at hl 3 rfl) ?_
        refine lv_if_ne (tgt := 142) hx hb dX12_worst_134 rfl (fun c8_ => ?_) (fun c8_ => ?_)
        · have tc8_ := (show z.toInt ≠ 0 from ti_ne rfl rg_11 c8_)
          refine lv_iload hx hb dX12_worst_142 (lv_at hl 6 rfl) ?_
          refine lv_i2l hx hb dX12_worst_144 rfl ?_
          refine lv_topl (fun y9_ ey9_ => ?_)
          rw [hQ]
          exact W.lret (v := y9_) hx hb hr (fun t ht hW => ⟨⟨y9_, τ, rfl, ⟨hIτ, hxτ⟩, wEn_of hP (hK.sub [] rfl) hD ht hW⟩, hS.F ht⟩) hS.2.2 dX12_worst_145
        · have tc8_ := (show z.toInt = 0 from ti_eq rfl rg_11 c8_)
          refine lv_lload hx hb dX12_worst_137 (lv_at hl 5 rfl) ?_
          refine lv_goto (tgt := 145) hx hb dX12_worst_139 rfl ?_
          rw [hQ]
          exact W.lret (v := wv) hx hb hr (fun t ht hW => ⟨⟨wv, τ, rfl, ⟨hIτ, hxτ⟩, wEn_of hP (hK.sub [] rfl) hD ht hW⟩, hS.F ht⟩) hS.2.2 dX12_worst_145
      · have tc7_ := (show kv.toInt < z6_.toInt from ti_nle rfl rfl c7_)
        refine lv_aload_n hx hb dX12_worst_64 rfl (lv_at hl 0 rfl) ?_
        refine lv_iload hx hb dX12_worst_65 (lv_at hl 7 rfl) ?_
        refine zy_v (va_runV (As := [.int kv]) (rest := []) ⟨hx, hb, hml, hown, hts⟩ (n_layCorner l dC dI h ad cl H.size τ kv hIτ) (cwV 1 hts gd_n_worst_474_n_layCorner rfl rfl rfl dd_n_layCorner ⟨Nat.le_of_ble_eq_true rfl, Nat.le_of_ble_eq_true rfl⟩) (preV hP hK hD hE (ci := 12) (q0 := 0) rfl rfl) rfl rfl hl.1 rfl (lv_room (Nat.le_of_ble_eq_true rfl)) dX12_worst_67 ⟨Nat.le_of_ble_eq_true rfl, Nat.le_of_ble_eq_true rfl⟩) hD hS hA (fun τ10_ H locs hq hP hD hS => ?_)
        obtain ⟨hI12_, hx13_⟩ := hq
        have Xτ10_ : eqx [37, 41, 42, 43, 44, 45, 46, 32, 47, 48, 49, 54, 55, 56, 57] τ10_ σ := eqx.tr hx13_ hxτ rg_612
        have qq14_ : (τ10_.1 29).toInt = ((σ.1 29) : Int32).toInt := congrArg Int32.toInt ((show τ10_.1 29 = (σ.1 29) from ((hx13_ 29 rg_606).1).trans ((hxτ 29 rg_571).1)))
        refine W.widen (k := 0) (n := 0) (Nat.le_of_ble_eq_true rfl) (Nat.le_of_ble_eq_true rfl) ?_
        refine lv_aload_n hx hb dX12_worst_70 rfl (lv_at hl 0 rfl) ?_
        refine lv_aload_n hx hb dX12_worst_71 rfl (lv_at hl 0 rfl) ?_
        refine va_get (D := (dC, dI)) (ci := 12) (v := .ref (ad 32)) (C := RX12) (T := TX12) (N := 59) hx hb hts hin12 hown hK hP 0 rfl rfl 32 (Nat.le_of_ble_eq_true rfl) (ho (.fieldLink RX12 79 "NearEnoughModel" "corner" "[I") (List.mem_of_getElem? (i := 0) rfl)) (fun _ h9 => h9) rfl dX12_worst_72 ?_
        refine lv_iconst (v := 0) hx hb dX12_worst_75 rg_0 ?_
        have kk15_ : (0 : Int32).toInt = 0 := rg_11
        have o3 : 0 ≤ (0 : Int32).toInt := by omega
        have o4 : (0 : Int32).toInt ≤ 0 := by omega
        have o5 : (0 : Int32).toInt = 0 ∨ 12 ≤ (0 : Int32).toInt := by omega
        refine zy_v (va_runV (As := [.ref (ad 32), .int 0]) (rest := []) ⟨hx, hb, hml, hown, hts⟩ (n_run_c l dC dI h ad cl H.size τ10_ 0 hI12_ ⟨o3, o4⟩ (show (0 : Int32).toInt = 0 ∨ 12 ≤ (0 : Int32).toInt from o5) (RelP.x hR Xτ10_ rg_571 rg_572) (OnOk.x honτ hx13_ rg_613 rg_614 rg_615)) (cwV 2 hts gd_n_worst_375_n_run_c rfl rfl rfl dd_n_run_c ⟨Nat.le_of_ble_eq_true rfl, Nat.le_of_ble_eq_true rfl⟩) (preV hP hK hD hE (ci := 12) (q0 := 0) rfl rfl) rfl rfl hl.1 rfl (lv_room (Nat.le_of_ble_eq_true rfl)) dX12_worst_76 ⟨Nat.le_of_ble_eq_true rfl, Nat.le_of_ble_eq_true rfl⟩) hD hS hA (fun τ16_ H locs hq hP hD hS => ?_)
        obtain ⟨hI18_, hx19_, f20_, f21_⟩ := hq
        have Xτ16_ : eqx [37, 41, 42, 43, 44, 45, 46, 32, 47, 48, 49, 54, 55, 56, 57] τ16_ σ := eqx.tr hx19_ Xτ10_ rg_575
        have qq22_ : (τ16_.1 29).toInt = ((σ.1 29) : Int32).toInt := congrArg Int32.toInt ((show τ16_.1 29 = (σ.1 29) from ((hx19_ 29 rg_483).1).trans (show τ10_.1 29 = (σ.1 29) from ((hx13_ 29 rg_606).1).trans ((hxτ 29 rg_571).1))))
        refine W.widen (k := 0) (n := 0) (Nat.le_of_ble_eq_true rfl) (Nat.le_of_ble_eq_true rfl) ?_
        refine lv_aload_n hx hb dX12_worst_79 rfl (lv_at hl 0 rfl) ?_
        refine va_get (D := (dC, dI)) (ci := 12) (v := .ref (ad 41)) (C := RX12) (T := TX12) (N := 59) hx hb hts hin12 hown hK hP 0 rfl rfl 41 (Nat.le_of_ble_eq_true rfl) (ho (.fieldLink RX12 101 "NearEnoughModel" "came" "[J") (List.mem_of_getElem? (i := 1) rfl)) (fun _ h9 => h9) rfl dX12_worst_80 ?_
        refine lv_iload hx hb dX12_worst_83 (lv_at hl 4 rfl) ?_
        have o6 : 0 ≤ sx.toInt := by omega
        have o7 : sx.toInt < ((12 : Nat) : Int) := by omega
        refine va_lald hx hb hK hP 29 28 rfl rfl (ti_inx o6 o7) dX12_worst_85 ?_
        refine lv_topl (fun y23_ ey23_ => ?_)
        refine lv_aload_n hx hb dX12_worst_86 rfl (lv_at hl 0 rfl) ?_
        refine va_get (D := (dC, dI)) (ci := 12) (v := .ref (ad 42)) (C := RX12) (T := TX12) (N := 59) hx hb hts hin12 hown hK hP 0 rfl rfl 42 (Nat.le_of_ble_eq_true rfl) (ho (.fieldLink RX12 104 "NearEnoughModel" "plain" "[J") (List.mem_of_getElem? (i := 2) rfl)) (fun _ h9 => h9) rfl dX12_worst_87 ?_
        refine lv_iload hx hb dX12_worst_90 (lv_at hl 4 rfl) ?_
        refine va_lald hx hb hK hP 30 29 rfl rfl (ti_inx o6 o7) dX12_worst_92 ?_
        refine lv_topl (fun y24_ ey24_ => ?_)
        refine lv_lsub hx hb dX12_worst_93 ?_
        refine lv_topl (fun y25_ ey25_ => ?_)
        refine lv_lstore (lv' := [(9, .long y25_), (0, .ref h), (1, .int x), (2, .int y), (3, .int z), (4, .int sx), (5, .long wv), (7, .int bv), (8, .int kv)]) hx hb dX12_worst_94 hl (Nat.le_of_ble_eq_true rfl) rfl (fun ls hl => ?_)
        refine lv_lload hx hb dX12_worst_96 (lv_at hl 0 rfl) ?_
        refine lv_lload hx hb dX12_worst_98 (lv_at hl 0 rfl) ?_
        refine lv_lneg hx hb dX12_worst_100 ?_
        refine lv_topl (fun y26_ ey26_ => ?_)
        refine zs_l (va_runS (As := [.long y25_, .long y26_]) (rest := []) ⟨hx, hb, hml, hown, hts⟩ (n_greaterV l dC dI y25_ y26_  H.size) (va_cwS 2 hts gd_n_worst_318_n_greaterV rfl rfl rfl dd_n_greaterV ⟨Nat.le_of_ble_eq_true rfl, Nat.le_of_ble_eq_true rfl⟩) (preS (A := A) empP (hK.sub (tys' := []) [] rfl) empD hE) rfl rfl hl.1 rfl (lv_room (Nat.le_of_ble_eq_true rfl)) dX12_worst_101 ⟨Nat.le_of_ble_eq_true rfl, Nat.le_of_ble_eq_true rfl⟩) hP hD hS hA (fun y27_ H locs hq hP hD hS => ?_)
        have f28_ := hq
        refine W.widen (k := 0) (n := 0) (Nat.le_of_ble_eq_true rfl) (Nat.le_of_ble_eq_true rfl) ?_
        refine lv_lload hx hb dX12_worst_104 (lv_at hl 6 rfl) ?_
        refine lv_lload hx hb dX12_worst_106 (lv_at hl 6 rfl) ?_
        refine lv_lneg hx hb dX12_worst_108 ?_
        refine lv_topl (fun y29_ ey29_ => ?_)
        refine zs_l (va_runS (As := [.long wv, .long y29_]) (rest := [.long y27_]) ⟨hx, hb, hml, hown, hts⟩ (n_greaterV l dC dI wv y29_  H.size) (va_cwS 2 hts gd_n_worst_318_n_greaterV rfl rfl rfl dd_n_greaterV ⟨Nat.le_of_ble_eq_true rfl, Nat.le_of_ble_eq_true rfl⟩) (preS (A := A) empP (hK.sub (tys' := []) [] rfl) empD hE) rfl rfl hl.1 rfl (lv_room (Nat.le_of_ble_eq_true rfl)) dX12_worst_109 ⟨Nat.le_of_ble_eq_true rfl, Nat.le_of_ble_eq_true rfl⟩) hP hD hS hA (fun y30_ H locs hq hP hD hS => ?_)
        have f31_ := hq
        refine W.widen (k := 0) (n := 0) (Nat.le_of_ble_eq_true rfl) (Nat.le_of_ble_eq_true rfl) ?_
        refine W.lcmp hx hb dX12_worst_112 ?_
        refine lv_topi (fun z32_ ez32_ => ?_)
        refine lv_if_gt (tgt := 119) hx hb dX12_worst_113 rfl (fun c33_ => ?_) (fun c33_ => ?_)
        · have tc33_ := (show 0 < z32_.toInt from ti_lt rg_11 rfl c33_)
          have lc33_ : y30_ < y27_ := (lg_cmp_gt y27_ y30_).mp (by rw [← ez32_]; exact c33_)
          refine lv_lload hx hb dX12_worst_119 (lv_at hl 0 rfl) ?_
          refine lv_lstore (lv' := [(5, .long y25_), (9, .long y25_), (0, .ref h), (1, .int x), (2, .int y), (3, .int z), (4, .int sx), (7, .int bv), (8, .int kv)]) hx hb dX12_worst_121 hl (Nat.le_of_ble_eq_true rfl) rfl (fun ls hl => ?_)
          refine lv_iload hx hb dX12_worst_123 (lv_at hl 8 rfl) ?_
          refine lv_istore (lv' := [(7, .int kv), (5, .long y25_), (9, .long y25_), (0, .ref h), (1, .int x), (2, .int y), (3, .int z), (4, .int sx), (8, .int kv)]) hx hb dX12_worst_125 hl (Nat.le_of_ble_eq_true rfl) rfl (fun ls hl => ?_)
          obtain ⟨z34_, ez34_⟩ : ∃ y : Int32, y = kv + 1 := ⟨_, rfl⟩
          have o8 : -2147483648 ≤ kv.toInt + 1 := by omega
          have o9 : kv.toInt + 1 ≤ 2147483647 := by omega
          have tz34_ := ti_add ez34_ rfl rg_18 o8 o9
          refine lv_iinc (v := z34_) (lv' := [(8, .int z34_), (7, .int kv), (5, .long y25_), (9, .long y25_), (0, .ref h), (1, .int x), (2, .int y), (3, .int z), (4, .int sx)]) hx hb dX12_worst_127 hl (k := 8) rfl (iincp ez34_ rg_6) (Nat.le_of_ble_eq_true rfl) rfl (fun ls hl => ?_)
          refine lv_goto (tgt := 53) hx hb dX12_worst_130 rfl ?_
          have o10 : (4096 - z34_.toInt).toNat < n53 := by omega
          have o11 : 0 ≤ z34_.toInt := by omega
          have o12 : 0 ≤ sx.toInt ∧ sx.toInt ≤ 11 := by omega
          exact ih53 τ16_ sx y25_ kv z34_ _ _ _ (show (4096 - z34_.toInt).toNat < n53 from o10) hI18_ Xτ16_ (show 0 ≤ z34_.toInt from o11) (OnOk.x (OnOk.x honτ hx13_ rg_613 rg_614 rg_615) hx19_ rg_492 rg_493 rg_487) (show 0 ≤ sx.toInt ∧ sx.toInt ≤ 11 from o12) hP hD hS (lv_sub hl [4, 5, 6, 7, 8, 2, 1, 0] rfl)
        · have tc33_ := (show z32_.toInt ≤ 0 from ti_nlt rg_11 rfl c33_)
          have lc33_ : ¬ y30_ < y27_ := fun h => c33_ (by rw [ez32_]; exact (lg_cmp_gt y27_ y30_).mpr h)
          refine lv_goto (tgt := 127) hx hb dX12_worst_116 rfl ?_
          obtain ⟨z35_, ez35_⟩ : ∃ y : Int32, y = kv + 1 := ⟨_, rfl⟩
          have o13 : -2147483648 ≤ kv.toInt + 1 := by omega
          have o14 : kv.toInt + 1 ≤ 2147483647 := by omega
          have tz35_ := ti_add ez35_ rfl rg_18 o13 o14
          refine lv_iinc (v := z35_) (lv' := [(8, .int z35_), (9, .long y25_), (0, .ref h), (1, .int x), (2, .int y), (3, .int z), (4, .int sx), (5, .long wv), (7, .int bv)]) hx hb dX12_worst_127 hl (k := 8) rfl (iincp ez35_ rg_6) (Nat.le_of_ble_eq_true rfl) rfl (fun ls hl => ?_)
          refine lv_goto (tgt := 53) hx hb dX12_worst_130 rfl ?_
          have o15 : (4096 - z35_.toInt).toNat < n53 := by omega
          have o16 : 0 ≤ z35_.toInt := by omega
          have o17 : 0 ≤ sx.toInt ∧ sx.toInt ≤ 11 := by omega
          exact ih53 τ16_ sx wv bv z35_ _ _ _ (show (4096 - z35_.toInt).toNat < n53 from o15) hI18_ Xτ16_ (show 0 ≤ z35_.toInt from o16) (OnOk.x (OnOk.x honτ hx13_ rg_613 rg_614 rg_615) hx19_ rg_492 rg_493 rg_487) (show 0 ≤ sx.toInt ∧ sx.toInt ≤ 11 from o17) hP hD hS (lv_sub hl [2, 3, 4, 5, 6, 7, 8, 0] rfl)
  refine zH (A := A) (ws := mW h ad cl σ) (fun H hP hS => ?_) hP
  have bσ_29 : 0 ≤ (σ.1 29).toInt ∧ (σ.1 29).toInt ≤ 1 := hI.1 29
  refine lv_aload_n hx hb dX12_worst_0 rfl (lv_at hl 0 rfl) ?_
  refine lv_iload_n hx hb dX12_worst_1 rfl (lv_at hl 1 rfl) ?_
  refine zy_i (va_runV (As := [.int x]) (rest := []) ⟨hx, hb, hml, hown, hts⟩ (n_isEnd l dC dI h ad cl H.size σ x hI) (cwV 1 hts gd_n_worst_431_n_isEnd rfl rfl rfl dd_n_isEnd ⟨Nat.le_of_ble_eq_true rfl, Nat.le_of_ble_eq_true rfl⟩) (preV hP hK hD hE (ci := 12) (q0 := 0) rfl rfl) rfl rfl hl.1 rfl (lv_room (Nat.le_of_ble_eq_true rfl)) dX12_worst_2 ⟨Nat.le_of_ble_eq_true rfl, Nat.le_of_ble_eq_true rfl⟩) hD hS hA (fun z37_ τ36_ H locs hq hP hD hS => ?_)
  obtain ⟨rfl, f38_⟩ := hq
  refine W.widen (k := 0) (n := 0) (Nat.le_of_ble_eq_true rfl) (Nat.le_of_ble_eq_true rfl) ?_
  refine lv_if_eq (tgt := 25) hx hb dX12_worst_5 rfl (fun c39_ => ?_) (fun c39_ => ?_)
  · have tc39_ := (show z37_.toInt = 0 from ti_eq rfl rg_11 c39_)
    refine lv_ldc2 (v := (-1000000000000)) hx hb hown (ho (.constantLong RX12 429 (-1000000000000)) (List.mem_of_getElem? (i := 3) rfl)) dX12_worst_25 ?_
    rw [hQ]
    exact W.lret (v := (-1000000000000)) hx hb hr (fun t ht hW => ⟨⟨(-1000000000000), σ, rfl, ⟨hI, eqx.rf⟩, wEn_of hP (hK.sub [] rfl) hD ht hW⟩, hS.F ht⟩) hS.2.2 dX12_worst_28
  · have tc39_ := (show z37_.toInt ≠ 0 from ti_ne rfl rg_11 c39_)
    refine lv_aload_n hx hb dX12_worst_8 rfl (lv_at hl 0 rfl) ?_
    refine lv_iload_n hx hb dX12_worst_9 rfl (lv_at hl 2 rfl) ?_
    refine zy_i (va_runV (As := [.int y]) (rest := []) ⟨hx, hb, hml, hown, hts⟩ (n_isOpen l dC dI h ad cl H.size σ y hI hR hC) (cwV 1 hts gd_n_worst_370_n_isOpen rfl rfl rfl dd_n_isOpen ⟨Nat.le_of_ble_eq_true rfl, Nat.le_of_ble_eq_true rfl⟩) (preV hP hK hD hE (ci := 12) (q0 := 0) rfl rfl) rfl rfl hl.1 rfl (lv_room (Nat.le_of_ble_eq_true rfl)) dX12_worst_10 ⟨Nat.le_of_ble_eq_true rfl, Nat.le_of_ble_eq_true rfl⟩) hD hS hA (fun z41_ τ40_ H locs hq hP hD hS => ?_)
    obtain ⟨hI42_, hx43_, f44_⟩ := hq
    have Xτ40_ : eqx [37, 41, 42, 43, 44, 45, 46, 32, 47, 48, 49, 54, 55, 56, 57] τ40_ σ := eqx.tr hx43_ eqx.rf rg_568
    have qq45_ : (τ40_.1 29).toInt = ((σ.1 29) : Int32).toInt := congrArg Int32.toInt ((show τ40_.1 29 = (σ.1 29) from ((hx43_ 29 rg_569).1).trans rfl))
    refine W.widen (k := 0) (n := 0) (Nat.le_of_ble_eq_true rfl) (Nat.le_of_ble_eq_true rfl) ?_
    refine lv_if_eq (tgt := 25) hx hb dX12_worst_13 rfl (fun c46_ => ?_) (fun c46_ => ?_)
    · have tc46_ := (show z41_.toInt = 0 from ti_eq rfl rg_11 c46_)
      refine lv_ldc2 (v := (-1000000000000)) hx hb hown (ho (.constantLong RX12 429 (-1000000000000)) (List.mem_of_getElem? (i := 3) rfl)) dX12_worst_25 ?_
      rw [hQ]
      exact W.lret (v := (-1000000000000)) hx hb hr (fun t ht hW => ⟨⟨(-1000000000000), τ40_, rfl, ⟨hI42_, Xτ40_⟩, wEn_of hP (hK.sub [] rfl) hD ht hW⟩, hS.F ht⟩) hS.2.2 dX12_worst_28
    · have tc46_ := (show z41_.toInt ≠ 0 from ti_ne rfl rg_11 c46_)
      refine lv_iload_n hx hb dX12_worst_16 rfl (lv_at hl 3 rfl) ?_
      refine lv_iconst (v := 0) hx hb dX12_worst_17 rg_0 ?_
      refine lv_iconst (v := 1) hx hb dX12_worst_18 rg_6 ?_
      have kk47_ : (0 : Int32).toInt = 0 := rg_11
      have kk48_ : (1 : Int32).toInt = 1 := rg_18
      refine zs_i (va_runS (As := [.int z, .int 0, .int 1]) (rest := []) ⟨hx, hb, hml, hown, hts⟩ (n_isIn l dC dI z 0 1  H.size) (va_cwS 3 hts gd_n_worst_324_n_isIn rfl rfl rfl dd_n_isIn ⟨Nat.le_of_ble_eq_true rfl, Nat.le_of_ble_eq_true rfl⟩) (preS (A := A) empP (hK.sub (tys' := []) [] rfl) empD hE) rfl rfl hl.1 rfl (lv_room (Nat.le_of_ble_eq_true rfl)) dX12_worst_19 ⟨Nat.le_of_ble_eq_true rfl, Nat.le_of_ble_eq_true rfl⟩) hP hD hS hA (fun z49_ H locs hq hP hD hS => ?_)
      have f50_ := hq
      refine W.widen (k := 0) (n := 0) (Nat.le_of_ble_eq_true rfl) (Nat.le_of_ble_eq_true rfl) ?_
      refine lv_if_ne (tgt := 29) hx hb dX12_worst_22 rfl (fun c51_ => ?_) (fun c51_ => ?_)
      · have tc51_ := (show z49_.toInt ≠ 0 from ti_ne rfl rg_11 c51_)
        refine lv_aload_n hx hb dX12_worst_29 rfl (lv_at hl 0 rfl) ?_
        refine va_get (D := (dC, dI)) (ci := 12) (v := .ref (ad 22)) (C := RX12) (T := TX12) (N := 59) hx hb hts hin12 hown hK hP 0 rfl rfl 22 (Nat.le_of_ble_eq_true rfl) (ho (.fieldLink RX12 54 "NearEnoughModel" "eStep" "[I") (List.mem_of_getElem? (i := 4) rfl)) (fun _ h9 => h9) rfl dX12_worst_30 ?_
        refine lv_iconst (v := 4) hx hb dX12_worst_33 rg_31 ?_
        refine lv_aload_n hx hb dX12_worst_34 rfl (lv_at hl 0 rfl) ?_
        refine va_get (D := (dC, dI)) (ci := 12) (v := .int (τ40_.1 29)) (C := RX12) (T := TX12) (N := 59) hx hb hts hin12 hown hK hP 0 rfl rfl 29 (Nat.le_of_ble_eq_true rfl) (ho (.fieldLink RX12 240 "NearEnoughModel" "bank" "I") (List.mem_of_getElem? (i := 5) rfl)) (fun _ h9 => h9) rfl dX12_worst_35 ?_
        refine zi (v := (σ.1 29)) (show τ40_.1 29 = (σ.1 29) from ((hx43_ 29 rg_569).1).trans rfl) ?_
        have bb52_ : 0 ≤ (σ.1 29).toInt ∧ (σ.1 29).toInt ≤ 1 := by have h9 := hI42_.1 29; rw [show (τ40_.1 29) = (σ.1 29) from (show τ40_.1 29 = (σ.1 29) from ((hx43_ 29 rg_569).1).trans rfl)] at h9; exact h9
        refine lv_imul hx hb dX12_worst_38 ?_
        refine lv_topi (fun z53_ ez53_ => ?_)
        have o18 : -2147483648 ≤ 4 * (σ.1 29).toInt := by omega
        have o19 : 4 * (σ.1 29).toInt ≤ 2147483647 := by omega
        have tz53_ : z53_.toInt = 4 * (σ.1 29).toInt := ti_mul ez53_ rg_32 rfl o18 o19
        refine lv_iload_n hx hb dX12_worst_39 rfl (lv_at hl 1 rfl) ?_
        refine lv_iadd hx hb dX12_worst_40 ?_
        refine lv_topi (fun z54_ ez54_ => ?_)
        have o20 : -2147483648 ≤ z53_.toInt + x.toInt := by omega
        have o21 : z53_.toInt + x.toInt ≤ 2147483647 := by omega
        have tz54_ : z54_.toInt = z53_.toInt + x.toInt := ti_add ez54_ rfl rfl o20 o21
        have o22 : 0 ≤ z54_.toInt := by omega
        have o23 : z54_.toInt < ((8 : Nat) : Int) := by omega
        refine va_iald hx hb hK hP 14 13 rfl rfl (ti_inx o22 o23) dX12_worst_41 ?_
        refine lv_topi (fun z55_ ez55_ => ?_)
        have gz55_ : z55_.toInt = ((σ.2.1 22) (Int32.toNatClampNeg z54_)).toInt := congrArg Int32.toInt (ez55_.trans (congrFun (((hx43_ 22 rg_616).2.1).trans rfl) (Int32.toNatClampNeg z54_)))
        have bz55_ : (-1) ≤ z55_.toInt ∧ z55_.toInt ≤ 11 := by rw [ez55_]; exact (hI42_.2 22) _ (cl_lt (n := 8) o22 o23)
        have o24 : 0 ≤ x.toInt := by omega
        have o25 : x.toInt ≤ 3 := by omega
        have o26 : x.toInt < (σ.2.1 13 (σ.1 29).toNatClampNeg).toInt := by omega
        have HE56_ : EndOk σ x := ⟨o24, o25, o26⟩
        have EQ58_ : z55_ = σ.2.1 22 (Int32.toNatClampNeg z54_) := ez55_.trans (congrFun (((hx43_ 22 rg_616).2.1).trans rfl) (Int32.toNatClampNeg z54_))
        have o27 : z54_.toInt = 4 * (σ.1 29).toInt + x.toInt := by omega
        have EN57_ := end_ld hI hR HE56_ o27 EQ58_
        refine lv_istore (lv' := [(4, .int z55_), (0, .ref h), (1, .int x), (2, .int y), (3, .int z)]) hx hb dX12_worst_42 hl (Nat.le_of_ble_eq_true rfl) rfl (fun ls hl => ?_)
        refine lv_lconst (v := 0) hx hb dX12_worst_44 (by decide) ?_
        refine lv_lstore (lv' := [(5, .long 0), (4, .int z55_), (0, .ref h), (1, .int x), (2, .int y), (3, .int z)]) hx hb dX12_worst_45 hl (Nat.le_of_ble_eq_true rfl) rfl (fun ls hl => ?_)
        refine lv_iconst (v := 0) hx hb dX12_worst_47 rg_0 ?_
        refine lv_istore (lv' := [(7, .int 0), (5, .long 0), (4, .int z55_), (0, .ref h), (1, .int x), (2, .int y), (3, .int z)]) hx hb dX12_worst_48 hl (Nat.le_of_ble_eq_true rfl) rfl (fun ls hl => ?_)
        refine lv_iconst (v := 0) hx hb dX12_worst_50 rg_0 ?_
        refine lv_istore (lv' := [(8, .int 0), (7, .int 0), (5, .long 0), (4, .int z55_), (0, .ref h), (1, .int x), (2, .int y), (3, .int z)]) hx hb dX12_worst_51 hl (Nat.le_of_ble_eq_true rfl) rfl (fun ls hl => ?_)
        have o28 : ¬ z41_.toInt = 0 := by omega
        have POK59_ : Opn σ y (τ40_.2.1 37) (τ40_.2.2.1 43) (τ40_.2.2.1 44) := by rcases f44_ with q | q; exact q.2; exact absurd q.1 o28
        have OK59_ : OnOk τ40_ := OnR.ok hI hC hx43_ rg_573 rg_574 POK59_.1
        have o29 : 0 ≤ z55_.toInt ∧ z55_.toInt ≤ 11 := by omega
        exact pt_53 _ τ40_ z55_ 0 0 0 _ _ _ (Nat.lt_succ_self _) hI42_ Xτ40_ rg_56 OK59_ (show 0 ≤ z55_.toInt ∧ z55_.toInt ≤ 11 from o29) hP hD hS (lv_sub hl [4, 5, 6, 7, 3, 2, 1, 0] rfl)
      · have tc51_ := (show z49_.toInt = 0 from ti_eq rfl rg_11 c51_)
        refine lv_ldc2 (v := (-1000000000000)) hx hb hown (ho (.constantLong RX12 429 (-1000000000000)) (List.mem_of_getElem? (i := 3) rfl)) dX12_worst_25 ?_
        rw [hQ]
        exact W.lret (v := (-1000000000000)) hx hb hr (fun t ht hW => ⟨⟨(-1000000000000), τ40_, rfl, ⟨hI42_, Xτ40_⟩, wEn_of hP (hK.sub [] rfl) hD ht hW⟩, hS.F ht⟩) hS.2.2 dX12_worst_28
def ow_n_errorOn : List Cond := [.fieldLink RX12 76 "NearEnoughModel" "numbers" "[I", .fieldLink RX12 54 "NearEnoughModel" "eStep" "[I", .fieldLink RX12 240 "NearEnoughModel" "bank" "I", .fieldLink RX12 101 "NearEnoughModel" "came" "[J", .fieldLink RX12 104 "NearEnoughModel" "plain" "[J"]
def vs_n_errorOn : List Cond := .code yX12_errorOn cX12_errorOn 6 (some .long) :: (ow_n_errorOn ++ (([.methodLink RX12 423 yX12_isChoice, .instanceMethod yX12_isChoice, .selects RX12 yX12_isChoice yX12_isChoice, .initialized RX12] : List Cond) ++ (vs_n_isChoiceV ++ (([.methodLink RX12 375 yX12_run, .instanceMethod yX12_run, .selects RX12 yX12_run yX12_run, .initialized RX12] : List Cond) ++ (vs_n_run_n ++ (wsX120))))))
theorem vg_n_errorOn : vs_n_errorOn.all goodWord = true := by decide +kernel
theorem dd_n_errorOn : yX12_errorOn.cls = RX12 ∧ yX12_errorOn.cls ≠ "java/lang/invoke/MethodHandle" ∧ yX12_errorOn.cls ≠ "java/lang/invoke/VarHandle" ∧ (parseMethodDescriptor yX12_errorOn.desc).map (fun d => d.parameters.length) = some 3 := by decide +kernel
def rm_n_errorOn : Room := { frames := 5, cells := 0, slots := 0, locals := 138 }
theorem gd_n_errorOn_423_n_isChoiceV : GoodIn vs_n_errorOn (wsV RX12 423 RX12 yX12_isChoice vs_n_isChoiceV) := goodIn_app (goodIn_sub (fun w h => (List.mem_cons_of_mem _ (List.mem_append_right _ (List.mem_append_left _ h)))) (by decide +kernel)) (goodIn_sub (fun w h => (List.mem_cons_of_mem _ (List.mem_append_right _ (List.mem_append_right _ (List.mem_append_left _ h))))) vg_n_isChoiceV)
theorem gd_n_errorOn_375_n_run_n : GoodIn vs_n_errorOn (wsV RX12 375 RX12 yX12_run vs_n_run_n) := goodIn_app (goodIn_sub (fun w h => (List.mem_cons_of_mem _ (List.mem_append_right _ (List.mem_append_right _ (List.mem_append_right _ (List.mem_append_left _ h)))))) (by decide +kernel)) (goodIn_sub (fun w h => (List.mem_cons_of_mem _ (List.mem_append_right _ (List.mem_append_right _ (List.mem_append_right _ (List.mem_append_right _ (List.mem_append_left _ h))))))) vg_n_run_n)
set_option maxHeartbeats 4000000 in
set_option maxRecDepth 100000 in
theorem n_errorOn (l : Launch) (dC : Nat → ClassId) (dI : Nat → Nat → Nat) (h : Nat) (ad : Nat → Nat) (cl : Nat → ClassId) (sz : Nat) (σ : MS) (x : Int32) (y : Int32) (z : Int32) (hI : Inv σ) (hR : RelP σ (σ.1 29).toNatClampNeg) (hC : ChR σ) (he : EndOk σ x) (hsh : 0 ≤ y.toInt ∧ y.toInt ≤ 39) (hex : ∃ on, OnR σ z on) : Met l yX12_errorOn vs_n_errorOn rm_n_errorOn (va_Pc [.ref h, .int x, .int y, .int z] (wSt dC dI (mW h ad cl σ) (mT cl) sz)) (va_Ql (fun (r : Int64) (τ : MS) => Inv τ ∧ eqx [37, 41, 42] τ σ) (fun (τ : MS) => wEn dC dI (va_A (mW h ad cl σ) sz) (mW h ad cl τ) []) (va_A (mW h ad cl σ) sz)) 0 0 (va_A (mW h ad cl σ) sz) := by
  refine Met.ofW (cc := cX12_errorOn) (maxL := 6) (ret := (some .long)) (by decide) rfl ?_
  intro p e s m args below meth c s₁ B hml hv
  obtain ⟨rfl, hsz, hP, hK, hD0, hE⟩ := hv
  have hx := B.exec
  have hb := B.bytes
  have hr := B.returns
  have hts := atoms_spec (ws := vs_n_errorOn) B.pre
  have hown : s.vm.findClass RX12 = some m.cls := findClass_of_methodNamed B.named
  have hlocks := B.notSynchronized
  subst hsz
  have hD := hD0.self (sz := s.heap.size)
  generalize hAe : va_A (mW h ad cl σ) s.heap.size = A at hD ⊢
  have hA : ∀ q : Nat, s.heap.size ≤ q → A q := fun q h => by rw [← hAe]; exact Or.inr h
  have hl := lv_entry ([.ref h, .int x, .int y, .int z]) (n := 6) (Nat.le_of_ble_eq_true rfl)
  rw [lg_entry_eq]
  generalize (lg_sl ([.ref h, .int x, .int y, .int z]) ++ List.replicate (6 - (lg_sl ([.ref h, .int x, .int y, .int z])).length) Slot.unset).toArray = ls at hl ⊢
  have hl : lv_has ls 6 [(0, .ref h), (1, .int x), (2, .int y), (3, .int z)] := hl
  have ho := fun w (h : w ∈ ow_n_errorOn) => hts w (List.mem_cons_of_mem _ (List.mem_append_left _ h))
  have hin12 : ∀ w ∈ u_ws RX12 TX12 59, w ∈ vs_n_errorOn := fun w h => (List.mem_cons_of_mem _ (List.mem_append_right _ (List.mem_append_right _ (List.mem_append_right _ (List.mem_append_right _ (List.mem_append_right _ h))))))
  refine zQ (fun Q hQ => ?_)
  have he0 := he
  unfold EndOk at he0
  refine zH (A := A) (ws := mW h ad cl σ) (fun H hP hS => ?_) hP
  have bσ_29 : 0 ≤ (σ.1 29).toInt ∧ (σ.1 29).toInt ≤ 1 := hI.1 29
  refine lv_aload_n hx hb dX12_errorOn_0 rfl (lv_at hl 0 rfl) ?_
  refine lv_iload_n hx hb dX12_errorOn_1 rfl (lv_at hl 3 rfl) ?_
  refine zy_i (va_runV (As := [.int z]) (rest := []) ⟨hx, hb, hml, hown, hts⟩ (n_isChoiceV l dC dI h ad cl H.size σ z hI) (cwV 1 hts gd_n_errorOn_423_n_isChoiceV rfl rfl rfl dd_n_isChoiceV ⟨Nat.le_of_ble_eq_true rfl, Nat.le_of_ble_eq_true rfl⟩) (preV hP hK hD hE (ci := 12) (q0 := 0) rfl rfl) rfl rfl hl.1 rfl (lv_room (Nat.le_of_ble_eq_true rfl)) dX12_errorOn_2 ⟨Nat.le_of_ble_eq_true rfl, Nat.le_of_ble_eq_true rfl⟩) hD hS hA (fun z2_ τ1_ H locs hq hP hD hS => ?_)
  obtain ⟨hI3_, hx4_, f5_⟩ := hq
  have Xτ1_ : eqx [37, 41, 42] τ1_ σ := eqx.tr hx4_ eqx.rf rg_617
  have qq6_ : (τ1_.1 29).toInt = ((σ.1 29) : Int32).toInt := congrArg Int32.toInt ((show τ1_.1 29 = (σ.1 29) from ((hx4_ 29 rg_552).1).trans rfl))
  refine W.widen (k := 0) (n := 0) (Nat.le_of_ble_eq_true rfl) (Nat.le_of_ble_eq_true rfl) ?_
  refine lv_istore (lv' := [(4, .int z2_), (0, .ref h), (1, .int x), (2, .int y), (3, .int z)]) hx hb dX12_errorOn_5 hl (Nat.le_of_ble_eq_true rfl) rfl (fun ls hl => ?_)
  refine lv_aload_n hx hb dX12_errorOn_7 rfl (lv_at hl 1 rfl) ?_
  refine lv_aload_n hx hb dX12_errorOn_8 rfl (lv_at hl 1 rfl) ?_
  refine va_get (D := (dC, dI)) (ci := 12) (v := .ref (ad 31)) (C := RX12) (T := TX12) (N := 59) hx hb hts hin12 hown hK hP 0 rfl rfl 31 (Nat.le_of_ble_eq_true rfl) (ho (.fieldLink RX12 76 "NearEnoughModel" "numbers" "[I") (List.mem_of_getElem? (i := 0) rfl)) (fun _ h9 => h9) rfl dX12_errorOn_9 ?_
  refine lv_bipush (v := 12) hx hb dX12_errorOn_12 rg_57 ?_
  refine lv_iload_n hx hb dX12_errorOn_14 rfl (lv_at hl 3 rfl) ?_
  refine lv_imul hx hb dX12_errorOn_15 ?_
  refine lv_topi (fun z7_ ez7_ => ?_)
  have o1 : -2147483648 ≤ 12 * y.toInt := by omega
  have o2 : 12 * y.toInt ≤ 2147483647 := by omega
  have tz7_ : z7_.toInt = 12 * y.toInt := ti_mul ez7_ rg_58 rfl o1 o2
  have o3 : 0 ≤ z7_.toInt := by omega
  have o4 : z7_.toInt ≤ 468 := by omega
  have OK8_ : OnOk τ1_ := OnR.ok hI hC hx4_ rg_620 rg_621 (by rcases f5_ with q | q; exact q.2; exact absurd hex q.2)
  have o5 : z7_.toInt = 0 ∨ 12 ≤ z7_.toInt := by omega
  refine zy_v (va_runV (As := [.ref (ad 31), .int z7_]) (rest := []) ⟨hx, hb, hml, hown, hts⟩ (n_run_n l dC dI h ad cl H.size τ1_ z7_ hI3_ ⟨o3, o4⟩ (show z7_.toInt = 0 ∨ 12 ≤ z7_.toInt from o5) (RelP.x hR Xτ1_ rg_618 rg_619) OK8_) (cwV 2 hts gd_n_errorOn_375_n_run_n rfl rfl rfl dd_n_run_n ⟨Nat.le_of_ble_eq_true rfl, Nat.le_of_ble_eq_true rfl⟩) (preV hP hK hD hE (ci := 12) (q0 := 0) rfl rfl) rfl rfl hl.1 rfl (lv_room (Nat.le_of_ble_eq_true rfl)) dX12_errorOn_16 ⟨Nat.le_of_ble_eq_true rfl, Nat.le_of_ble_eq_true rfl⟩) hD hS hA (fun τ9_ H locs hq hP hD hS => ?_)
  obtain ⟨hI11_, hx12_, f13_, f14_⟩ := hq
  have Xτ9_ : eqx [37, 41, 42] τ9_ σ := eqx.tr hx12_ Xτ1_ rg_622
  have qq15_ : (τ9_.1 29).toInt = ((σ.1 29) : Int32).toInt := congrArg Int32.toInt ((show τ9_.1 29 = (σ.1 29) from ((hx12_ 29 rg_483).1).trans (show τ1_.1 29 = (σ.1 29) from ((hx4_ 29 rg_552).1).trans rfl)))
  refine W.widen (k := 0) (n := 0) (Nat.le_of_ble_eq_true rfl) (Nat.le_of_ble_eq_true rfl) ?_
  refine lv_aload_n hx hb dX12_errorOn_19 rfl (lv_at hl 1 rfl) ?_
  refine va_get (D := (dC, dI)) (ci := 12) (v := .ref (ad 22)) (C := RX12) (T := TX12) (N := 59) hx hb hts hin12 hown hK hP 0 rfl rfl 22 (Nat.le_of_ble_eq_true rfl) (ho (.fieldLink RX12 54 "NearEnoughModel" "eStep" "[I") (List.mem_of_getElem? (i := 1) rfl)) (fun _ h9 => h9) rfl dX12_errorOn_20 ?_
  refine lv_iconst (v := 4) hx hb dX12_errorOn_23 rg_31 ?_
  refine lv_aload_n hx hb dX12_errorOn_24 rfl (lv_at hl 1 rfl) ?_
  refine va_get (D := (dC, dI)) (ci := 12) (v := .int (τ9_.1 29)) (C := RX12) (T := TX12) (N := 59) hx hb hts hin12 hown hK hP 0 rfl rfl 29 (Nat.le_of_ble_eq_true rfl) (ho (.fieldLink RX12 240 "NearEnoughModel" "bank" "I") (List.mem_of_getElem? (i := 2) rfl)) (fun _ h9 => h9) rfl dX12_errorOn_25 ?_
  refine zi (v := (σ.1 29)) (show τ9_.1 29 = (σ.1 29) from ((hx12_ 29 rg_483).1).trans (show τ1_.1 29 = (σ.1 29) from ((hx4_ 29 rg_552).1).trans rfl)) ?_
  have bb16_ : 0 ≤ (σ.1 29).toInt ∧ (σ.1 29).toInt ≤ 1 := by have h9 := hI11_.1 29; rw [show (τ9_.1 29) = (σ.1 29) from (show τ9_.1 29 = (σ.1 29) from ((hx12_ 29 rg_483).1).trans (show τ1_.1 29 = (σ.1 29) from ((hx4_ 29 rg_552).1).trans rfl))] at h9; exact h9
  refine lv_imul hx hb dX12_errorOn_28 ?_
  refine lv_topi (fun z17_ ez17_ => ?_)
  have o6 : -2147483648 ≤ 4 * (σ.1 29).toInt := by omega
  have o7 : 4 * (σ.1 29).toInt ≤ 2147483647 := by omega
  have tz17_ : z17_.toInt = 4 * (σ.1 29).toInt := ti_mul ez17_ rg_32 rfl o6 o7
  refine lv_iload_n hx hb dX12_errorOn_29 rfl (lv_at hl 2 rfl) ?_
  refine lv_iadd hx hb dX12_errorOn_30 ?_
  refine lv_topi (fun z18_ ez18_ => ?_)
  have o8 : -2147483648 ≤ z17_.toInt + x.toInt := by omega
  have o9 : z17_.toInt + x.toInt ≤ 2147483647 := by omega
  have tz18_ : z18_.toInt = z17_.toInt + x.toInt := ti_add ez18_ rfl rfl o8 o9
  have o10 : 0 ≤ z18_.toInt := by omega
  have o11 : z18_.toInt < ((8 : Nat) : Int) := by omega
  refine va_iald hx hb hK hP 14 13 rfl rfl (ti_inx o10 o11) dX12_errorOn_31 ?_
  refine lv_topi (fun z19_ ez19_ => ?_)
  have gz19_ : z19_.toInt = ((σ.2.1 22) (Int32.toNatClampNeg z18_)).toInt := congrArg Int32.toInt (ez19_.trans (congrFun (((hx12_ 22 rg_567).2.1).trans (((hx4_ 22 rg_623).2.1).trans rfl)) (Int32.toNatClampNeg z18_)))
  have bz19_ : (-1) ≤ z19_.toInt ∧ z19_.toInt ≤ 11 := by rw [ez19_]; exact (hI11_.2 22) _ (cl_lt (n := 8) o10 o11)
  have EQ21_ : z19_ = σ.2.1 22 (Int32.toNatClampNeg z18_) := ez19_.trans (congrFun (((hx12_ 22 rg_567).2.1).trans (((hx4_ 22 rg_623).2.1).trans rfl)) (Int32.toNatClampNeg z18_))
  have o12 : z18_.toInt = 4 * (σ.1 29).toInt + x.toInt := by omega
  have EN20_ := end_ld hI hR he o12 EQ21_
  refine lv_istore (lv' := [(5, .int z19_), (4, .int z2_), (0, .ref h), (1, .int x), (2, .int y), (3, .int z)]) hx hb dX12_errorOn_32 hl (Nat.le_of_ble_eq_true rfl) rfl (fun ls hl => ?_)
  refine lv_iload hx hb dX12_errorOn_34 (lv_at hl 1 rfl) ?_
  refine lv_if_eq (tgt := 57) hx hb dX12_errorOn_36 rfl (fun c22_ => ?_) (fun c22_ => ?_)
  · have tc22_ := (show z2_.toInt = 0 from ti_eq rfl rg_11 c22_)
    refine lv_lconst (v := 0) hx hb dX12_errorOn_57 (by decide) ?_
    rw [hQ]
    exact W.lret (v := 0) hx hb hr (fun t ht hW => ⟨⟨0, τ9_, rfl, ⟨hI11_, Xτ9_⟩, wEn_of hP (hK.sub [] rfl) hD ht hW⟩, hS.F ht⟩) hS.2.2 dX12_errorOn_58
  · have tc22_ := (show z2_.toInt ≠ 0 from ti_ne rfl rg_11 c22_)
    refine lv_aload_n hx hb dX12_errorOn_39 rfl (lv_at hl 2 rfl) ?_
    refine va_get (D := (dC, dI)) (ci := 12) (v := .ref (ad 41)) (C := RX12) (T := TX12) (N := 59) hx hb hts hin12 hown hK hP 0 rfl rfl 41 (Nat.le_of_ble_eq_true rfl) (ho (.fieldLink RX12 101 "NearEnoughModel" "came" "[J") (List.mem_of_getElem? (i := 3) rfl)) (fun _ h9 => h9) rfl dX12_errorOn_40 ?_
    refine lv_iload hx hb dX12_errorOn_43 (lv_at hl 0 rfl) ?_
    have o13 : 0 ≤ z19_.toInt := by omega
    have o14 : z19_.toInt < ((12 : Nat) : Int) := by omega
    refine va_lald hx hb hK hP 29 28 rfl rfl (ti_inx o13 o14) dX12_errorOn_45 ?_
    refine lv_topl (fun y23_ ey23_ => ?_)
    refine lv_aload_n hx hb dX12_errorOn_46 rfl (lv_at hl 2 rfl) ?_
    refine va_get (D := (dC, dI)) (ci := 12) (v := .ref (ad 42)) (C := RX12) (T := TX12) (N := 59) hx hb hts hin12 hown hK hP 0 rfl rfl 42 (Nat.le_of_ble_eq_true rfl) (ho (.fieldLink RX12 104 "NearEnoughModel" "plain" "[J") (List.mem_of_getElem? (i := 4) rfl)) (fun _ h9 => h9) rfl dX12_errorOn_47 ?_
    refine lv_iload hx hb dX12_errorOn_50 (lv_at hl 0 rfl) ?_
    refine va_lald hx hb hK hP 30 29 rfl rfl (ti_inx o13 o14) dX12_errorOn_52 ?_
    refine lv_topl (fun y24_ ey24_ => ?_)
    refine lv_lsub hx hb dX12_errorOn_53 ?_
    refine lv_topl (fun y25_ ey25_ => ?_)
    refine lv_goto (tgt := 58) hx hb dX12_errorOn_54 rfl ?_
    rw [hQ]
    exact W.lret (v := y25_) hx hb hr (fun t ht hW => ⟨⟨y25_, τ9_, rfl, ⟨hI11_, Xτ9_⟩, wEn_of hP (hK.sub [] rfl) hD ht hW⟩, hS.F ht⟩) hS.2.2 dX12_errorOn_58
def ow_n_purse : List Cond := [.constant RX12 488 (99999), .fieldLink RX12 258 "NearEnoughModel" "purse" "I"]
def vs_n_purse : List Cond := .code yX12_purse cX12_purse 2 (some .boolean) :: (ow_n_purse ++ (([.methodLink RX12 324 yX12_isIn, .static yX12_isIn, .initialized yX12_isIn.cls] : List Cond) ++ (vs_n_isIn ++ (wsX120))))
theorem vg_n_purse : vs_n_purse.all goodWord = true := by decide +kernel
theorem dd_n_purse : yX12_purse.cls = RX12 ∧ yX12_purse.cls ≠ "java/lang/invoke/MethodHandle" ∧ yX12_purse.cls ≠ "java/lang/invoke/VarHandle" ∧ (parseMethodDescriptor yX12_purse.desc).map (fun d => d.parameters.length) = some 1 := by decide +kernel
def rm_n_purse : Room := { frames := 1, cells := 0, slots := 0, locals := 22 }
theorem gd_n_purse_324_n_isIn : GoodIn vs_n_purse (va_wsS RX12 324 yX12_isIn vs_n_isIn) := goodIn_app (goodIn_sub (fun w h => (List.mem_cons_of_mem _ (List.mem_append_right _ (List.mem_append_left _ h)))) (by decide +kernel)) (goodIn_sub (fun w h => (List.mem_cons_of_mem _ (List.mem_append_right _ (List.mem_append_right _ (List.mem_append_left _ h))))) vg_n_isIn)
set_option maxHeartbeats 4000000 in
set_option maxRecDepth 100000 in
theorem n_purse (l : Launch) (dC : Nat → ClassId) (dI : Nat → Nat → Nat) (h : Nat) (ad : Nat → Nat) (cl : Nat → ClassId) (sz : Nat) (σ : MS) (x : Int32) (hI : Inv σ) : Met l yX12_purse vs_n_purse rm_n_purse (va_Pc [.ref h, .int x] (wSt dC dI (mW h ad cl σ) (mT cl) sz)) (va_Qi (fun (r : Int32) (τ : MS) => Inv τ ∧ eqx [58] τ σ ∧ ((r = 1 ∧ 0 ≤ x.toInt ∧ x.toInt ≤ 99999) ∨ (r = 0 ∧ (x.toInt < 0 ∨ 99999 < x.toInt)))) (fun (τ : MS) => wEn dC dI (va_A (mW h ad cl σ) sz) (mW h ad cl τ) []) (va_A (mW h ad cl σ) sz)) 0 0 (va_A (mW h ad cl σ) sz) := by
  refine Met.ofW (cc := cX12_purse) (maxL := 2) (ret := (some .boolean)) (by decide) rfl ?_
  intro p e s m args below meth c s₁ B hml hv
  obtain ⟨rfl, hsz, hP, hK, hD0, hE⟩ := hv
  have hx := B.exec
  have hb := B.bytes
  have hr := B.returns
  have hts := atoms_spec (ws := vs_n_purse) B.pre
  have hown : s.vm.findClass RX12 = some m.cls := findClass_of_methodNamed B.named
  have hlocks := B.notSynchronized
  subst hsz
  have hD := hD0.self (sz := s.heap.size)
  generalize hAe : va_A (mW h ad cl σ) s.heap.size = A at hD ⊢
  have hA : ∀ q : Nat, s.heap.size ≤ q → A q := fun q h => by rw [← hAe]; exact Or.inr h
  have hl := lv_entry ([.ref h, .int x]) (n := 2) (Nat.le_of_ble_eq_true rfl)
  rw [lg_entry_eq]
  generalize (lg_sl ([.ref h, .int x]) ++ List.replicate (2 - (lg_sl ([.ref h, .int x])).length) Slot.unset).toArray = ls at hl ⊢
  have hl : lv_has ls 2 [(0, .ref h), (1, .int x)] := hl
  have ho := fun w (h : w ∈ ow_n_purse) => hts w (List.mem_cons_of_mem _ (List.mem_append_left _ h))
  have hin12 : ∀ w ∈ u_ws RX12 TX12 59, w ∈ vs_n_purse := fun w h => (List.mem_cons_of_mem _ (List.mem_append_right _ (List.mem_append_right _ (List.mem_append_right _ h))))
  refine zQ (fun Q hQ => ?_)
  refine zH (A := A) (ws := mW h ad cl σ) (fun H hP hS => ?_) hP
  refine lv_iload_n hx hb dX12_purse_0 rfl (lv_at hl 1 rfl) ?_
  refine lv_iconst (v := 0) hx hb dX12_purse_1 rg_0 ?_
  refine lv_ldcw (v := (99999)) hx hb hown (ho (.constant RX12 488 (99999)) (List.mem_of_getElem? (i := 0) rfl)) dX12_purse_2 ?_
  have kk1_ : (0 : Int32).toInt = 0 := rg_11
  have kk2_ : (99999 : Int32).toInt = 99999 := rg_624
  refine zs_i (va_runS (As := [.int x, .int 0, .int 99999]) (rest := []) ⟨hx, hb, hml, hown, hts⟩ (n_isIn l dC dI x 0 99999  H.size) (va_cwS 3 hts gd_n_purse_324_n_isIn rfl rfl rfl dd_n_isIn ⟨Nat.le_of_ble_eq_true rfl, Nat.le_of_ble_eq_true rfl⟩) (preS (A := A) empP (hK.sub (tys' := []) [] rfl) empD hE) rfl rfl hl.1 rfl (lv_room (Nat.le_of_ble_eq_true rfl)) dX12_purse_5 ⟨Nat.le_of_ble_eq_true rfl, Nat.le_of_ble_eq_true rfl⟩) hP hD hS hA (fun z3_ H locs hq hP hD hS => ?_)
  have f4_ := hq
  refine W.widen (k := 0) (n := 0) (Nat.le_of_ble_eq_true rfl) (Nat.le_of_ble_eq_true rfl) ?_
  refine lv_if_ne (tgt := 13) hx hb dX12_purse_8 rfl (fun c5_ => ?_) (fun c5_ => ?_)
  · have tc5_ := (show z3_.toInt ≠ 0 from ti_ne rfl rg_11 c5_)
    refine lv_aload_n hx hb dX12_purse_13 rfl (lv_at hl 0 rfl) ?_
    refine lv_iload_n hx hb dX12_purse_14 rfl (lv_at hl 1 rfl) ?_
    refine va_put (D := (dC, dI)) (ci := 12) (v := .int x) (ty := tyX12 58) (C := RX12) (T := TX12) (N := 59) hx hb hts hin12 tyX12 tyX12_ok nmX12 hown hK hP hD hS 0 rfl rfl 58 (Nat.le_of_ble_eq_true rfl) (ho (.fieldLink RX12 258 "NearEnoughModel" "purse" "I") (List.mem_of_getElem? (i := 1) rfl)) (fun _ h9 => h9) rfl (tyX12_ok 58 (Nat.le_of_ble_eq_true rfl)) rfl rfl (Nat.le_of_ble_eq_true rfl) dX12_purse_15 (fun H locs hP hD hS => ?_)
    have hP : va_P (dC, dI) vwCl (mW h ad cl (sI σ 58 x)) H := hP
    have hD : va_D A (mW h ad cl (sI σ 58 x)) := hD
    refine lv_iconst (v := 1) hx hb dX12_purse_18 rg_6 ?_
    rw [hQ]
    have o1 : 0 ≤ x.toInt := by omega
    have o2 : x.toInt ≤ 99999 := by omega
    have o3 : (0 : Int) ≤ x.toInt := by omega
    exact W.zret (v := 1) hx hb hr rfl (fun t ht hW => ⟨⟨1, (sI σ 58 x), rfl, ⟨(Inv.sI (k := 58) (v := x) hI (show (0 : Int) ≤ x.toInt ∧ x.toInt ≤ 99999 from ⟨o3, o2⟩)), (eqx.sI eqx.rf rg_625), (Or.inl ⟨rfl, o1, o2⟩)⟩, wEn_of hP (hK.sub [] rfl) hD ht hW⟩, hS.F ht⟩) hS.2.2 dX12_purse_19
  · have tc5_ := (show z3_.toInt = 0 from ti_eq rfl rg_11 c5_)
    refine lv_iconst (v := 0) hx hb dX12_purse_11 rg_0 ?_
    rw [hQ]
    have o4 : x.toInt < 0 ∨ 99999 < x.toInt := by omega
    exact W.zret (v := 0) hx hb hr rfl (fun t ht hW => ⟨⟨0, σ, rfl, ⟨hI, eqx.rf, (Or.inr ⟨rfl, o4⟩)⟩, wEn_of hP (hK.sub [] rfl) hD ht hW⟩, hS.F ht⟩) hS.2.2 dX12_purse_12
