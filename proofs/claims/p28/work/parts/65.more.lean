theorem dX12_let_0 : decode cX12_let 0 = .ok (.aload_n 0, 1) := by decide +kernel
theorem dX12_let_1 : decode cX12_let 1 = .ok (.iload_n 1, 1) := by decide +kernel
theorem dX12_let_2 : decode cX12_let 2 = .ok (.invokevirtual 423, 3) := by decide +kernel
theorem dX12_let_5 : decode cX12_let 5 = .ok (.ifCond .ne 7, 3) := by decide +kernel
theorem dX12_let_12 : decode cX12_let 12 = .ok (.aload_n 0, 1) := by decide +kernel
theorem dX12_let_13 : decode cX12_let 13 = .ok (.iload_n 1, 1) := by decide +kernel
theorem dX12_let_14 : decode cX12_let 14 = .ok (.invokevirtual 450, 3) := by decide +kernel
theorem dX12_let_17 : decode cX12_let 17 = .ok (.ifCond .eq 7, 3) := by decide +kernel
theorem dX12_let_24 : decode cX12_let 24 = .ok (.iconst 0, 1) := by decide +kernel
theorem dX12_let_25 : decode cX12_let 25 = .ok (.ireturn, 1) := by decide +kernel
theorem dX12_let_20 : decode cX12_let 20 = .ok (.iconst 1, 1) := by decide +kernel
theorem dX12_let_21 : decode cX12_let 21 = .ok (.goto 4, 3) := by decide +kernel
theorem dX12_let_8 : decode cX12_let 8 = .ok (.iconst (-1), 1) := by decide +kernel
theorem dX12_let_9 : decode cX12_let 9 = .ok (.goto 16, 3) := by decide +kernel
theorem dX12_bitsOf_4 : decode cX12_bitsOf 4 = .ok (.iload_n 2, 1) := by decide +kernel
theorem dX12_bitsOf_5 : decode cX12_bitsOf 5 = .ok (.bipush 12, 2) := by decide +kernel
theorem dX12_bitsOf_7 : decode cX12_bitsOf 7 = .ok (.if_icmp .ge 17, 3) := by decide +kernel
theorem dX12_bitsOf_24 : decode cX12_bitsOf 24 = .ok (.iload_n 1, 1) := by decide +kernel
theorem dX12_bitsOf_25 : decode cX12_bitsOf 25 = .ok (.ireturn, 1) := by decide +kernel
theorem dX12_bitsOf_10 : decode cX12_bitsOf 10 = .ok (.iload_n 1, 1) := by decide +kernel
theorem dX12_bitsOf_11 : decode cX12_bitsOf 11 = .ok (.iload_n 0, 1) := by decide +kernel
theorem dX12_bitsOf_12 : decode cX12_bitsOf 12 = .ok (.iload_n 2, 1) := by decide +kernel
theorem dX12_bitsOf_13 : decode cX12_bitsOf 13 = .ok (.ishr, 1) := by decide +kernel
theorem dX12_bitsOf_14 : decode cX12_bitsOf 14 = .ok (.iconst 1, 1) := by decide +kernel
theorem dX12_bitsOf_15 : decode cX12_bitsOf 15 = .ok (.iand, 1) := by decide +kernel
theorem dX12_bitsOf_16 : decode cX12_bitsOf 16 = .ok (.iadd, 1) := by decide +kernel
theorem dX12_bitsOf_17 : decode cX12_bitsOf 17 = .ok (.istore_n 1, 1) := by decide +kernel
theorem dX12_bitsOf_18 : decode cX12_bitsOf 18 = .ok (.iinc 2 1, 3) := by decide +kernel
theorem dX12_bitsOf_21 : decode cX12_bitsOf 21 = .ok (.goto (-17), 3) := by decide +kernel
theorem dX12_bitsOf_0 : decode cX12_bitsOf 0 = .ok (.iconst 0, 1) := by decide +kernel
theorem dX12_bitsOf_1 : decode cX12_bitsOf 1 = .ok (.istore_n 1, 1) := by decide +kernel
theorem dX12_bitsOf_2 : decode cX12_bitsOf 2 = .ok (.iconst 0, 1) := by decide +kernel
theorem dX12_bitsOf_3 : decode cX12_bitsOf 3 = .ok (.istore_n 2, 1) := by decide +kernel
theorem dX12_best_4 : decode cX12_best 4 = .ok (.iload_n 2, 1) := by decide +kernel
theorem dX12_best_5 : decode cX12_best 5 = .ok (.iconst 1, 1) := by decide +kernel
theorem dX12_best_6 : decode cX12_best 6 = .ok (.aload_n 0, 1) := by decide +kernel
theorem dX12_best_7 : decode cX12_best 7 = .ok (.getfield 252, 3) := by decide +kernel
theorem dX12_best_10 : decode cX12_best 10 = .ok (.ishl, 1) := by decide +kernel
theorem dX12_best_11 : decode cX12_best 11 = .ok (.if_icmp .ge 61, 3) := by decide +kernel
theorem dX12_best_72 : decode cX12_best 72 = .ok (.iload_n 1, 1) := by decide +kernel
theorem dX12_best_73 : decode cX12_best 73 = .ok (.ireturn, 1) := by decide +kernel
theorem dX12_best_14 : decode cX12_best 14 = .ok (.aload_n 0, 1) := by decide +kernel
theorem dX12_best_15 : decode cX12_best 15 = .ok (.iload_n 2, 1) := by decide +kernel
theorem dX12_best_16 : decode cX12_best 16 = .ok (.invokevirtual 447, 3) := by decide +kernel
theorem dX12_best_19 : decode cX12_best 19 = .ok (.istore_n 3, 1) := by decide +kernel
theorem dX12_best_20 : decode cX12_best 20 = .ok (.iload_n 3, 1) := by decide +kernel
theorem dX12_best_21 : decode cX12_best 21 = .ok (.aload_n 0, 1) := by decide +kernel
theorem dX12_best_22 : decode cX12_best 22 = .ok (.iload_n 1, 1) := by decide +kernel
theorem dX12_best_23 : decode cX12_best 23 = .ok (.invokevirtual 447, 3) := by decide +kernel
theorem dX12_best_26 : decode cX12_best 26 = .ok (.if_icmp .lt 40, 3) := by decide +kernel
theorem dX12_best_66 : decode cX12_best 66 = .ok (.iinc 2 1, 3) := by decide +kernel
theorem dX12_best_69 : decode cX12_best 69 = .ok (.goto (-65), 3) := by decide +kernel
theorem dX12_best_29 : decode cX12_best 29 = .ok (.iload_n 3, 1) := by decide +kernel
theorem dX12_best_30 : decode cX12_best 30 = .ok (.aload_n 0, 1) := by decide +kernel
theorem dX12_best_31 : decode cX12_best 31 = .ok (.iload_n 1, 1) := by decide +kernel
theorem dX12_best_32 : decode cX12_best 32 = .ok (.invokevirtual 447, 3) := by decide +kernel
theorem dX12_best_35 : decode cX12_best 35 = .ok (.if_icmp .ne 17, 3) := by decide +kernel
theorem dX12_best_52 : decode cX12_best 52 = .ok (.aload_n 0, 1) := by decide +kernel
theorem dX12_best_53 : decode cX12_best 53 = .ok (.iload_n 2, 1) := by decide +kernel
theorem dX12_best_54 : decode cX12_best 54 = .ok (.invokevirtual 450, 3) := by decide +kernel
theorem dX12_best_57 : decode cX12_best 57 = .ok (.ifCond .eq 7, 3) := by decide +kernel
theorem dX12_best_64 : decode cX12_best 64 = .ok (.iload_n 1, 1) := by decide +kernel
theorem dX12_best_65 : decode cX12_best 65 = .ok (.istore_n 1, 1) := by decide +kernel
theorem dX12_best_60 : decode cX12_best 60 = .ok (.iload_n 2, 1) := by decide +kernel
theorem dX12_best_61 : decode cX12_best 61 = .ok (.goto 4, 3) := by decide +kernel
theorem dX12_best_38 : decode cX12_best 38 = .ok (.iload_n 2, 1) := by decide +kernel
theorem dX12_best_39 : decode cX12_best 39 = .ok (.invokestatic 453, 3) := by decide +kernel
theorem dX12_best_42 : decode cX12_best 42 = .ok (.iload_n 1, 1) := by decide +kernel
theorem dX12_best_43 : decode cX12_best 43 = .ok (.invokestatic 453, 3) := by decide +kernel
theorem dX12_best_46 : decode cX12_best 46 = .ok (.if_icmp .lt 6, 3) := by decide +kernel
theorem dX12_best_49 : decode cX12_best 49 = .ok (.goto 17, 3) := by decide +kernel
theorem dX12_best_0 : decode cX12_best 0 = .ok (.iconst 0, 1) := by decide +kernel
theorem dX12_best_1 : decode cX12_best 1 = .ok (.istore_n 1, 1) := by decide +kernel
theorem dX12_best_2 : decode cX12_best 2 = .ok (.iconst 1, 1) := by decide +kernel
theorem dX12_best_3 : decode cX12_best 3 = .ok (.istore_n 2, 1) := by decide +kernel
theorem dX12_layOffs_2 : decode cX12_layOffs 2 = .ok (.iload_n 2, 1) := by decide +kernel
theorem dX12_layOffs_3 : decode cX12_layOffs 3 = .ok (.iconst 1, 1) := by decide +kernel
theorem dX12_layOffs_4 : decode cX12_layOffs 4 = .ok (.aload_n 0, 1) := by decide +kernel
theorem dX12_layOffs_5 : decode cX12_layOffs 5 = .ok (.getfield 252, 3) := by decide +kernel
theorem dX12_layOffs_8 : decode cX12_layOffs 8 = .ok (.ishl, 1) := by decide +kernel
theorem dX12_layOffs_9 : decode cX12_layOffs 9 = .ok (.if_icmp .ge 34, 3) := by decide +kernel
theorem dX12_layOffs_43 : decode cX12_layOffs 43 = .ok (.return_, 1) := by decide +kernel
theorem dX12_layOffs_12 : decode cX12_layOffs 12 = .ok (.aload_n 0, 1) := by decide +kernel
theorem dX12_layOffs_13 : decode cX12_layOffs 13 = .ok (.getfield 113, 3) := by decide +kernel
theorem dX12_layOffs_16 : decode cX12_layOffs 16 = .ok (.iload_n 2, 1) := by decide +kernel
theorem dX12_layOffs_17 : decode cX12_layOffs 17 = .ok (.aload_n 0, 1) := by decide +kernel
theorem dX12_layOffs_18 : decode cX12_layOffs 18 = .ok (.iload_n 2, 1) := by decide +kernel
theorem dX12_layOffs_19 : decode cX12_layOffs 19 = .ok (.invokevirtual 370, 3) := by decide +kernel
theorem dX12_layOffs_22 : decode cX12_layOffs 22 = .ok (.ifCond .eq 11, 3) := by decide +kernel
theorem dX12_layOffs_33 : decode cX12_layOffs 33 = .ok (.ldc2_w 373, 3) := by decide +kernel
theorem dX12_layOffs_36 : decode cX12_layOffs 36 = .ok (.lastore, 1) := by decide +kernel
theorem dX12_layOffs_37 : decode cX12_layOffs 37 = .ok (.iinc 2 1, 3) := by decide +kernel
theorem dX12_layOffs_40 : decode cX12_layOffs 40 = .ok (.goto (-38), 3) := by decide +kernel
theorem dX12_layOffs_25 : decode cX12_layOffs 25 = .ok (.aload_n 0, 1) := by decide +kernel
theorem dX12_layOffs_26 : decode cX12_layOffs 26 = .ok (.iload_n 1, 1) := by decide +kernel
theorem dX12_layOffs_27 : decode cX12_layOffs 27 = .ok (.invokevirtual 434, 3) := by decide +kernel
theorem dX12_layOffs_30 : decode cX12_layOffs 30 = .ok (.goto 6, 3) := by decide +kernel
theorem dX12_layOffs_0 : decode cX12_layOffs 0 = .ok (.iconst 0, 1) := by decide +kernel
theorem dX12_layOffs_1 : decode cX12_layOffs 1 = .ok (.istore_n 2, 1) := by decide +kernel
theorem dX12_nextPair_7 : decode cX12_nextPair 7 = .ok (.iload_n 2, 1) := by decide +kernel
theorem dX12_nextPair_8 : decode cX12_nextPair 8 = .ok (.iconst 1, 1) := by decide +kernel
theorem dX12_nextPair_9 : decode cX12_nextPair 9 = .ok (.aload_n 0, 1) := by decide +kernel
theorem dX12_nextPair_10 : decode cX12_nextPair 10 = .ok (.getfield 252, 3) := by decide +kernel
theorem dX12_nextPair_13 : decode cX12_nextPair 13 = .ok (.ishl, 1) := by decide +kernel
theorem dX12_nextPair_14 : decode cX12_nextPair 14 = .ok (.if_icmp .ge 92, 3) := by decide +kernel
theorem dX12_nextPair_106 : decode cX12_nextPair 106 = .ok (.aload_n 0, 1) := by decide +kernel
theorem dX12_nextPair_107 : decode cX12_nextPair 107 = .ok (.getfield 456, 3) := by decide +kernel
theorem dX12_nextPair_110 : decode cX12_nextPair 110 = .ok (.ifCond .lt 7, 3) := by decide +kernel
theorem dX12_nextPair_117 : decode cX12_nextPair 117 = .ok (.iconst 0, 1) := by decide +kernel
theorem dX12_nextPair_118 : decode cX12_nextPair 118 = .ok (.ireturn, 1) := by decide +kernel
theorem dX12_nextPair_113 : decode cX12_nextPair 113 = .ok (.iconst 1, 1) := by decide +kernel
theorem dX12_nextPair_114 : decode cX12_nextPair 114 = .ok (.goto 4, 3) := by decide +kernel
theorem dX12_nextPair_17 : decode cX12_nextPair 17 = .ok (.aload_n 0, 1) := by decide +kernel
theorem dX12_nextPair_18 : decode cX12_nextPair 18 = .ok (.iload_n 2, 1) := by decide +kernel
theorem dX12_nextPair_19 : decode cX12_nextPair 19 = .ok (.invokevirtual 447, 3) := by decide +kernel
theorem dX12_nextPair_22 : decode cX12_nextPair 22 = .ok (.istore_n 3, 1) := by decide +kernel
theorem dX12_nextPair_23 : decode cX12_nextPair 23 = .ok (.aload_n 0, 1) := by decide +kernel
theorem dX12_nextPair_24 : decode cX12_nextPair 24 = .ok (.getfield 113, 3) := by decide +kernel
theorem dX12_nextPair_27 : decode cX12_nextPair 27 = .ok (.iload_n 2, 1) := by decide +kernel
theorem dX12_nextPair_28 : decode cX12_nextPair 28 = .ok (.laload, 1) := by decide +kernel
theorem dX12_nextPair_29 : decode cX12_nextPair 29 = .ok (.lconst 0, 1) := by decide +kernel
theorem dX12_nextPair_30 : decode cX12_nextPair 30 = .ok (.lcmp, 1) := by decide +kernel
theorem dX12_nextPair_31 : decode cX12_nextPair 31 = .ok (.ifCond .lt 69, 3) := by decide +kernel
theorem dX12_nextPair_100 : decode cX12_nextPair 100 = .ok (.iinc 2 1, 3) := by decide +kernel
theorem dX12_nextPair_103 : decode cX12_nextPair 103 = .ok (.goto (-96), 3) := by decide +kernel
theorem dX12_nextPair_34 : decode cX12_nextPair 34 = .ok (.iload_n 3, 1) := by decide +kernel
theorem dX12_nextPair_35 : decode cX12_nextPair 35 = .ok (.iload_n 1, 1) := by decide +kernel
theorem dX12_nextPair_36 : decode cX12_nextPair 36 = .ok (.if_icmp .le 64, 3) := by decide +kernel
theorem dX12_nextPair_39 : decode cX12_nextPair 39 = .ok (.aload_n 0, 1) := by decide +kernel
theorem dX12_nextPair_40 : decode cX12_nextPair 40 = .ok (.getfield 456, 3) := by decide +kernel
theorem dX12_nextPair_43 : decode cX12_nextPair 43 = .ok (.ifCond .lt 42, 3) := by decide +kernel
theorem dX12_nextPair_85 : decode cX12_nextPair 85 = .ok (.aload_n 0, 1) := by decide +kernel
theorem dX12_nextPair_86 : decode cX12_nextPair 86 = .ok (.aload_n 0, 1) := by decide +kernel
theorem dX12_nextPair_87 : decode cX12_nextPair 87 = .ok (.getfield 113, 3) := by decide +kernel
theorem dX12_nextPair_90 : decode cX12_nextPair 90 = .ok (.iload_n 2, 1) := by decide +kernel
theorem dX12_nextPair_91 : decode cX12_nextPair 91 = .ok (.laload, 1) := by decide +kernel
theorem dX12_nextPair_92 : decode cX12_nextPair 92 = .ok (.putfield 459, 3) := by decide +kernel
theorem dX12_nextPair_95 : decode cX12_nextPair 95 = .ok (.aload_n 0, 1) := by decide +kernel
theorem dX12_nextPair_96 : decode cX12_nextPair 96 = .ok (.iload_n 3, 1) := by decide +kernel
theorem dX12_nextPair_97 : decode cX12_nextPair 97 = .ok (.putfield 456, 3) := by decide +kernel
theorem dX12_nextPair_46 : decode cX12_nextPair 46 = .ok (.aload_n 0, 1) := by decide +kernel
theorem dX12_nextPair_47 : decode cX12_nextPair 47 = .ok (.getfield 113, 3) := by decide +kernel
theorem dX12_nextPair_50 : decode cX12_nextPair 50 = .ok (.iload_n 2, 1) := by decide +kernel
theorem dX12_nextPair_51 : decode cX12_nextPair 51 = .ok (.laload, 1) := by decide +kernel
theorem dX12_nextPair_52 : decode cX12_nextPair 52 = .ok (.aload_n 0, 1) := by decide +kernel
theorem dX12_nextPair_53 : decode cX12_nextPair 53 = .ok (.getfield 459, 3) := by decide +kernel
theorem dX12_nextPair_56 : decode cX12_nextPair 56 = .ok (.lcmp, 1) := by decide +kernel
theorem dX12_nextPair_57 : decode cX12_nextPair 57 = .ok (.ifCond .gt 43, 3) := by decide +kernel
theorem dX12_nextPair_60 : decode cX12_nextPair 60 = .ok (.aload_n 0, 1) := by decide +kernel
theorem dX12_nextPair_61 : decode cX12_nextPair 61 = .ok (.getfield 113, 3) := by decide +kernel
theorem dX12_nextPair_64 : decode cX12_nextPair 64 = .ok (.iload_n 2, 1) := by decide +kernel
theorem dX12_nextPair_65 : decode cX12_nextPair 65 = .ok (.laload, 1) := by decide +kernel
theorem dX12_nextPair_66 : decode cX12_nextPair 66 = .ok (.aload_n 0, 1) := by decide +kernel
theorem dX12_nextPair_67 : decode cX12_nextPair 67 = .ok (.getfield 459, 3) := by decide +kernel
theorem dX12_nextPair_70 : decode cX12_nextPair 70 = .ok (.lcmp, 1) := by decide +kernel
theorem dX12_nextPair_71 : decode cX12_nextPair 71 = .ok (.ifCond .ne 14, 3) := by decide +kernel
theorem dX12_nextPair_74 : decode cX12_nextPair 74 = .ok (.iload_n 3, 1) := by decide +kernel
theorem dX12_nextPair_75 : decode cX12_nextPair 75 = .ok (.aload_n 0, 1) := by decide +kernel
theorem dX12_nextPair_76 : decode cX12_nextPair 76 = .ok (.getfield 456, 3) := by decide +kernel
theorem dX12_nextPair_79 : decode cX12_nextPair 79 = .ok (.if_icmp .gt 6, 3) := by decide +kernel
theorem dX12_nextPair_82 : decode cX12_nextPair 82 = .ok (.goto 18, 3) := by decide +kernel
theorem dX12_nextPair_0 : decode cX12_nextPair 0 = .ok (.aload_n 0, 1) := by decide +kernel
theorem dX12_nextPair_1 : decode cX12_nextPair 1 = .ok (.iconst (-1), 1) := by decide +kernel
theorem dX12_nextPair_2 : decode cX12_nextPair 2 = .ok (.putfield 456, 3) := by decide +kernel
theorem dX12_nextPair_5 : decode cX12_nextPair 5 = .ok (.iconst 0, 1) := by decide +kernel
theorem dX12_nextPair_6 : decode cX12_nextPair 6 = .ok (.istore_n 2, 1) := by decide +kernel
theorem dX12_front_19 : decode cX12_front 19 = .ok (.aload_n 0, 1) := by decide +kernel
theorem dX12_front_20 : decode cX12_front 20 = .ok (.iload_n 3, 1) := by decide +kernel
theorem dX12_front_21 : decode cX12_front 21 = .ok (.invokevirtual 465, 3) := by decide +kernel
theorem dX12_front_24 : decode cX12_front 24 = .ok (.ifCond .eq 14, 3) := by decide +kernel
theorem dX12_front_38 : decode cX12_front 38 = .ok (.iload_n 2, 1) := by decide +kernel
theorem dX12_front_39 : decode cX12_front 39 = .ok (.ireturn, 1) := by decide +kernel
theorem dX12_front_27 : decode cX12_front 27 = .ok (.aload_n 0, 1) := by decide +kernel
theorem dX12_front_28 : decode cX12_front 28 = .ok (.getfield 456, 3) := by decide +kernel
theorem dX12_front_31 : decode cX12_front 31 = .ok (.istore_n 3, 1) := by decide +kernel
theorem dX12_front_32 : decode cX12_front 32 = .ok (.iinc 2 1, 3) := by decide +kernel
theorem dX12_front_35 : decode cX12_front 35 = .ok (.goto (-16), 3) := by decide +kernel
theorem dX12_front_0 : decode cX12_front 0 = .ok (.aload_n 0, 1) := by decide +kernel
theorem dX12_front_1 : decode cX12_front 1 = .ok (.iload_n 1, 1) := by decide +kernel
theorem dX12_front_2 : decode cX12_front 2 = .ok (.invokevirtual 431, 3) := by decide +kernel
theorem dX12_front_5 : decode cX12_front 5 = .ok (.ifCond .ne 5, 3) := by decide +kernel
theorem dX12_front_10 : decode cX12_front 10 = .ok (.aload_n 0, 1) := by decide +kernel
theorem dX12_front_11 : decode cX12_front 11 = .ok (.iload_n 1, 1) := by decide +kernel
theorem dX12_front_12 : decode cX12_front 12 = .ok (.invokevirtual 462, 3) := by decide +kernel
theorem dX12_front_15 : decode cX12_front 15 = .ok (.iconst 0, 1) := by decide +kernel
theorem dX12_front_16 : decode cX12_front 16 = .ok (.istore_n 2, 1) := by decide +kernel
theorem dX12_front_17 : decode cX12_front 17 = .ok (.iconst (-1), 1) := by decide +kernel
theorem dX12_front_18 : decode cX12_front 18 = .ok (.istore_n 3, 1) := by decide +kernel
theorem dX12_front_8 : decode cX12_front 8 = .ok (.iconst (-1), 1) := by decide +kernel
theorem dX12_front_9 : decode cX12_front 9 = .ok (.ireturn, 1) := by decide +kernel
theorem dX12_pair_36 : decode cX12_pair 36 = .ok (.iload 5, 2) := by decide +kernel
theorem dX12_pair_38 : decode cX12_pair 38 = .ok (.iload_n 2, 1) := by decide +kernel
theorem dX12_pair_39 : decode cX12_pair 39 = .ok (.if_icmp .gt 28, 3) := by decide +kernel
theorem dX12_pair_67 : decode cX12_pair 67 = .ok (.iload_n 3, 1) := by decide +kernel
theorem dX12_pair_68 : decode cX12_pair 68 = .ok (.ifCond .ne 10, 3) := by decide +kernel
theorem dX12_pair_78 : decode cX12_pair 78 = .ok (.aload_n 0, 1) := by decide +kernel
theorem dX12_pair_79 : decode cX12_pair 79 = .ok (.getfield 456, 3) := by decide +kernel
theorem dX12_pair_82 : decode cX12_pair 82 = .ok (.i2l, 1) := by decide +kernel
theorem dX12_pair_83 : decode cX12_pair 83 = .ok (.lreturn, 1) := by decide +kernel
theorem dX12_pair_71 : decode cX12_pair 71 = .ok (.aload_n 0, 1) := by decide +kernel
theorem dX12_pair_72 : decode cX12_pair 72 = .ok (.getfield 459, 3) := by decide +kernel
theorem dX12_pair_75 : decode cX12_pair 75 = .ok (.goto 8, 3) := by decide +kernel
theorem dX12_pair_42 : decode cX12_pair 42 = .ok (.aload_n 0, 1) := by decide +kernel
theorem dX12_pair_43 : decode cX12_pair 43 = .ok (.iload 4, 2) := by decide +kernel
theorem dX12_pair_45 : decode cX12_pair 45 = .ok (.invokevirtual 465, 3) := by decide +kernel
theorem dX12_pair_48 : decode cX12_pair 48 = .ok (.ifCond .ne 7, 3) := by decide +kernel
theorem dX12_pair_55 : decode cX12_pair 55 = .ok (.aload_n 0, 1) := by decide +kernel
theorem dX12_pair_56 : decode cX12_pair 56 = .ok (.getfield 456, 3) := by decide +kernel
theorem dX12_pair_59 : decode cX12_pair 59 = .ok (.istore 4, 2) := by decide +kernel
theorem dX12_pair_61 : decode cX12_pair 61 = .ok (.iinc 5 1, 3) := by decide +kernel
theorem dX12_pair_64 : decode cX12_pair 64 = .ok (.goto (-28), 3) := by decide +kernel
theorem dX12_pair_51 : decode cX12_pair 51 = .ok (.ldc2_w 373, 3) := by decide +kernel
theorem dX12_pair_54 : decode cX12_pair 54 = .ok (.lreturn, 1) := by decide +kernel
theorem dX12_pair_0 : decode cX12_pair 0 = .ok (.aload_n 0, 1) := by decide +kernel
theorem dX12_pair_1 : decode cX12_pair 1 = .ok (.iload_n 1, 1) := by decide +kernel
theorem dX12_pair_2 : decode cX12_pair 2 = .ok (.invokevirtual 431, 3) := by decide +kernel
theorem dX12_pair_5 : decode cX12_pair 5 = .ok (.ifCond .eq 16, 3) := by decide +kernel
theorem dX12_pair_21 : decode cX12_pair 21 = .ok (.ldc2_w 373, 3) := by decide +kernel
theorem dX12_pair_24 : decode cX12_pair 24 = .ok (.lreturn, 1) := by decide +kernel
theorem dX12_pair_8 : decode cX12_pair 8 = .ok (.iload_n 2, 1) := by decide +kernel
theorem dX12_pair_9 : decode cX12_pair 9 = .ok (.ifCond .lt 12, 3) := by decide +kernel
theorem dX12_pair_12 : decode cX12_pair 12 = .ok (.iload_n 3, 1) := by decide +kernel
theorem dX12_pair_13 : decode cX12_pair 13 = .ok (.iconst 0, 1) := by decide +kernel
theorem dX12_pair_14 : decode cX12_pair 14 = .ok (.iconst 1, 1) := by decide +kernel
theorem dX12_pair_15 : decode cX12_pair 15 = .ok (.invokestatic 324, 3) := by decide +kernel
theorem dX12_pair_18 : decode cX12_pair 18 = .ok (.ifCond .ne 7, 3) := by decide +kernel
theorem dX12_pair_25 : decode cX12_pair 25 = .ok (.aload_n 0, 1) := by decide +kernel
theorem dX12_pair_26 : decode cX12_pair 26 = .ok (.iload_n 1, 1) := by decide +kernel
theorem dX12_pair_27 : decode cX12_pair 27 = .ok (.invokevirtual 462, 3) := by decide +kernel
theorem dX12_pair_30 : decode cX12_pair 30 = .ok (.iconst (-1), 1) := by decide +kernel
theorem dX12_pair_31 : decode cX12_pair 31 = .ok (.istore 4, 2) := by decide +kernel
theorem dX12_pair_33 : decode cX12_pair 33 = .ok (.iconst 0, 1) := by decide +kernel
theorem dX12_pair_34 : decode cX12_pair 34 = .ok (.istore 5, 2) := by decide +kernel
theorem rg_588 : 40 ∉ [37, 41, 42, 43, 44, 45, 46, 32, 47, 48, 49, 54, 55, 56, 57] := by decide
theorem rg_589 : 33 ∉ [37, 41, 42, 43, 44, 45, 46, 32, 47, 48, 49, 54, 55, 56, 57] := by decide
theorem rg_590 : 34 ∉ [37, 41, 42, 43, 44, 45, 46, 32, 47, 48, 49, 54, 55, 56, 57] := by decide
theorem rg_591 : 35 ∉ [37, 41, 42, 43, 44, 45, 46, 32, 47, 48, 49, 54, 55, 56, 57] := by decide
theorem rg_592 : ∀ q, q ∈ [37, 41, 42, 43, 44, 45, 46, 32, 47, 48, 49, 54, 55, 56, 57] → q ∈ [37, 41, 42, 43, 44, 45, 46, 32, 47, 48, 49, 54, 55, 56, 57] := by decide
theorem rg_593 : 0 ≤ (1 : Int32).toInt := by decide
theorem rg_594 : 40 ∉ [37, 43, 44, 45, 46] := by decide
theorem rg_595 : 47 ∈ [37, 41, 42, 43, 44, 45, 46, 32, 47, 48, 49, 54, 55, 56, 57] := by decide
theorem rg_596 : 40 ∉ [48, 49] := by decide
theorem rg_597 : 49 ∈ [48, 49] := by decide
theorem rg_598 : 48 ∈ [48, 49] := by decide
theorem rg_599 : ∀ q, q ∈ [48, 49] → q ∈ [37, 41, 42, 43, 44, 45, 46, 32, 47, 48, 49, 54, 55, 56, 57] := by decide
theorem rg_600 : 29 ∉ [48, 49] := by decide
def ow_n_let : List Cond := []
def vs_n_let : List Cond := .code yX12_let cX12_let 2 (some .int) :: (ow_n_let ++ (([.methodLink RX12 423 yX12_isChoice, .instanceMethod yX12_isChoice, .selects RX12 yX12_isChoice yX12_isChoice, .initialized RX12] : List Cond) ++ (vs_n_isChoiceV ++ (([.methodLink RX12 450 yX12_isLet, .instanceMethod yX12_isLet, .selects RX12 yX12_isLet yX12_isLet, .initialized RX12] : List Cond) ++ (vs_n_isLet)))))
theorem vg_n_let : vs_n_let.all goodWord = true := by decide +kernel
theorem dd_n_let : yX12_let.cls = RX12 ∧ yX12_let.cls ≠ "java/lang/invoke/MethodHandle" ∧ yX12_let.cls ≠ "java/lang/invoke/VarHandle" ∧ (parseMethodDescriptor yX12_let.desc).map (fun d => d.parameters.length) = some 1 := by decide +kernel
def rm_n_let : Room := { frames := 8, cells := 0, slots := 0, locals := 209 }
theorem gd_n_let_423_n_isChoiceV : GoodIn vs_n_let (wsV RX12 423 RX12 yX12_isChoice vs_n_isChoiceV) := goodIn_app (goodIn_sub (fun w h => (List.mem_cons_of_mem _ (List.mem_append_right _ (List.mem_append_left _ h)))) (by decide +kernel)) (goodIn_sub (fun w h => (List.mem_cons_of_mem _ (List.mem_append_right _ (List.mem_append_right _ (List.mem_append_left _ h))))) vg_n_isChoiceV)
theorem gd_n_let_450_n_isLet : GoodIn vs_n_let (wsV RX12 450 RX12 yX12_isLet vs_n_isLet) := goodIn_app (goodIn_sub (fun w h => (List.mem_cons_of_mem _ (List.mem_append_right _ (List.mem_append_right _ (List.mem_append_right _ (List.mem_append_left _ h)))))) (by decide +kernel)) (goodIn_sub (fun w h => (List.mem_cons_of_mem _ (List.mem_append_right _ (List.mem_append_right _ (List.mem_append_right _ (List.mem_append_right _ h)))))) vg_n_isLet)
set_option maxHeartbeats 4000000 in
set_option maxRecDepth 100000 in
theorem n_let (l : Launch) (dC : Nat → ClassId) (dI : Nat → Nat → Nat) (h : Nat) (ad : Nat → Nat) (cl : Nat → ClassId) (sz : Nat) (σ : MS) (x : Int32) (hI : Inv σ) (hR : RelP σ (σ.1 29).toNatClampNeg) (hC : ChR σ) : Met l yX12_let vs_n_let rm_n_let (va_Pc [.ref h, .int x] (wSt dC dI (mW h ad cl σ) (mT cl) sz)) (va_Qi (fun (r : Int32) (τ : MS) => Inv τ ∧ eqx [37, 41, 42, 43, 44, 45, 46, 32, 47, 48, 49, 54, 55, 56, 57] τ σ) (fun (τ : MS) => wEn dC dI (va_A (mW h ad cl σ) sz) (mW h ad cl τ) []) (va_A (mW h ad cl σ) sz)) 0 0 (va_A (mW h ad cl σ) sz) := by
  refine Met.ofW (cc := cX12_let) (maxL := 2) (ret := (some .int)) (by decide) rfl ?_
  intro p e s m args below meth c s₁ B hml hv
  obtain ⟨rfl, hsz, hP, hK, hD0, hE⟩ := hv
  have hx := B.exec
  have hb := B.bytes
  have hr := B.returns
  have hts := atoms_spec (ws := vs_n_let) B.pre
  have hown : s.vm.findClass RX12 = some m.cls := findClass_of_methodNamed B.named
  have hlocks := B.notSynchronized
  subst hsz
  have hD := hD0.self (sz := s.heap.size)
  generalize hAe : va_A (mW h ad cl σ) s.heap.size = A at hD ⊢
  have hA : ∀ q : Nat, s.heap.size ≤ q → A q := fun q h => by rw [← hAe]; exact Or.inr h
  have hl := lv_entry ([.ref h, .int x]) (n := 2) (Nat.le_of_ble_eq_true rfl)
  rw [lg_entry_eq]
  generalize (lg_sl ([.ref h, .int x]) ++ List.replicate (2 - (lg_sl ([.ref h, .int x])).length) Slot.unset).toArray = ls at hl ⊢
  have hl : lv_has ls 2 [(0, .ref h), (1, .int x)] := hl
  have ho := fun w (h : w ∈ ow_n_let) => hts w (List.mem_cons_of_mem _ (List.mem_append_left _ h))
  refine zQ (fun Q hQ => ?_)
  refine zH (A := A) (ws := mW h ad cl σ) (fun H hP hS => ?_) hP
  refine lv_aload_n hx hb dX12_let_0 rfl (lv_at hl 0 rfl) ?_
  refine lv_iload_n hx hb dX12_let_1 rfl (lv_at hl 1 rfl) ?_
  refine zy_i (va_runV (As := [.int x]) (rest := []) ⟨hx, hb, hml, hown, hts⟩ (n_isChoiceV l dC dI h ad cl H.size σ x hI) (cwV 1 hts gd_n_let_423_n_isChoiceV rfl rfl rfl dd_n_isChoiceV ⟨Nat.le_of_ble_eq_true rfl, Nat.le_of_ble_eq_true rfl⟩) (preV hP hK hD hE (ci := 12) (q0 := 0) rfl rfl) rfl rfl hl.1 rfl (lv_room (Nat.le_of_ble_eq_true rfl)) dX12_let_2 ⟨Nat.le_of_ble_eq_true rfl, Nat.le_of_ble_eq_true rfl⟩) hD hS hA (fun z2_ τ1_ H locs hq hP hD hS => ?_)
  obtain ⟨hI3_, hx4_, f5_⟩ := hq
  have Xτ1_ : eqx [37, 41, 42, 43, 44, 45, 46, 32, 47, 48, 49, 54, 55, 56, 57] τ1_ σ := eqx.tr hx4_ eqx.rf rg_578
  refine W.widen (k := 0) (n := 0) (Nat.le_of_ble_eq_true rfl) (Nat.le_of_ble_eq_true rfl) ?_
  refine lv_if_ne (tgt := 12) hx hb dX12_let_5 rfl (fun c6_ => ?_) (fun c6_ => ?_)
  · have tc6_ := (show z2_.toInt ≠ 0 from ti_ne rfl rg_11 c6_)
    refine lv_aload_n hx hb dX12_let_12 rfl (lv_at hl 0 rfl) ?_
    refine lv_iload_n hx hb dX12_let_13 rfl (lv_at hl 1 rfl) ?_
    refine zy_i (va_runV (As := [.int x]) (rest := []) ⟨hx, hb, hml, hown, hts⟩ (n_isLet l dC dI h ad cl H.size τ1_ x hI3_ (RelP.x hR Xτ1_ rg_571 rg_572) (ChR.x hC Xτ1_ rg_571 rg_588 rg_572 rg_589 rg_590 rg_591)) (cwV 1 hts gd_n_let_450_n_isLet rfl rfl rfl dd_n_isLet ⟨Nat.le_of_ble_eq_true rfl, Nat.le_of_ble_eq_true rfl⟩) (preV hP hK hD hE (ci := 12) (q0 := 0) rfl rfl) rfl rfl hl.1 rfl (lv_room (Nat.le_of_ble_eq_true rfl)) dX12_let_14 ⟨Nat.le_of_ble_eq_true rfl, Nat.le_of_ble_eq_true rfl⟩) hD hS hA (fun z8_ τ7_ H locs hq hP hD hS => ?_)
    obtain ⟨hI9_, hx10_⟩ := hq
    have Xτ7_ : eqx [37, 41, 42, 43, 44, 45, 46, 32, 47, 48, 49, 54, 55, 56, 57] τ7_ σ := eqx.tr hx10_ Xτ1_ rg_592
    refine W.widen (k := 0) (n := 0) (Nat.le_of_ble_eq_true rfl) (Nat.le_of_ble_eq_true rfl) ?_
    refine lv_if_eq (tgt := 24) hx hb dX12_let_17 rfl (fun c11_ => ?_) (fun c11_ => ?_)
    · have tc11_ := (show z8_.toInt = 0 from ti_eq rfl rg_11 c11_)
      refine lv_iconst (v := 0) hx hb dX12_let_24 rg_0 ?_
      rw [hQ]
      exact W.iret (v := 0) hx hb hr (fun t ht hW => ⟨⟨0, τ7_, rfl, ⟨hI9_, Xτ7_⟩, wEn_of hP (hK.sub [] rfl) hD ht hW⟩, hS.F ht⟩) hS.2.2 dX12_let_25
    · have tc11_ := (show z8_.toInt ≠ 0 from ti_ne rfl rg_11 c11_)
      refine lv_iconst (v := 1) hx hb dX12_let_20 rg_6 ?_
      refine lv_goto (tgt := 25) hx hb dX12_let_21 rfl ?_
      rw [hQ]
      exact W.iret (v := 1) hx hb hr (fun t ht hW => ⟨⟨1, τ7_, rfl, ⟨hI9_, Xτ7_⟩, wEn_of hP (hK.sub [] rfl) hD ht hW⟩, hS.F ht⟩) hS.2.2 dX12_let_25
  · have tc6_ := (show z2_.toInt = 0 from ti_eq rfl rg_11 c6_)
    refine lv_iconst (v := (-1)) hx hb dX12_let_8 rg_53 ?_
    refine lv_goto (tgt := 25) hx hb dX12_let_9 rfl ?_
    rw [hQ]
    exact W.iret (v := (-1)) hx hb hr (fun t ht hW => ⟨⟨(-1), τ1_, rfl, ⟨hI3_, Xτ1_⟩, wEn_of hP (hK.sub [] rfl) hD ht hW⟩, hS.F ht⟩) hS.2.2 dX12_let_25
def ow_n_bitsOf : List Cond := []
def vs_n_bitsOf : List Cond := .code yX12_bitsOf cX12_bitsOf 3 (some .int) :: (ow_n_bitsOf)
theorem vg_n_bitsOf : vs_n_bitsOf.all goodWord = true := by decide +kernel
theorem dd_n_bitsOf : yX12_bitsOf.cls ≠ "java/lang/invoke/MethodHandle" ∧ yX12_bitsOf.cls ≠ "java/lang/invoke/VarHandle" ∧ (parseMethodDescriptor yX12_bitsOf.desc).map (fun d => d.parameters.length) = some 1 := by decide +kernel
def rm_n_bitsOf : Room := { frames := 0, cells := 0, slots := 0, locals := 0 }
set_option maxHeartbeats 4000000 in
set_option maxRecDepth 100000 in
theorem n_bitsOf (l : Launch) (dC : Nat → ClassId) (dI : Nat → Nat → Nat) (x : Int32)  (sz : Nat) : Met l yX12_bitsOf vs_n_bitsOf rm_n_bitsOf (va_Pc [.int x] (wSt dC dI [] [] sz)) (va_Qi (fun (r : Int32) (_ : Unit) => True) (fun (_ : Unit) => wEn dC dI (va_A [] sz) [] []) (va_A ([]) sz)) 0 0 (va_A ([]) sz) := by
  refine Met.ofW (cc := cX12_bitsOf) (maxL := 3) (ret := (some .int)) (by decide) rfl ?_
  intro p e s m args below meth c s₁ B hml hv
  obtain ⟨rfl, hsz, hP, hK, hD0, hE⟩ := hv
  have hx := B.exec
  have hb := B.bytes
  have hr := B.returns
  have hts := atoms_spec (ws := vs_n_bitsOf) B.pre
  have hown : s.vm.findClass RX12 = some m.cls := findClass_of_methodNamed B.named
  have hlocks := B.notSynchronized
  subst hsz
  have hD := hD0.self (sz := s.heap.size)
  generalize hAe : va_A ([]) s.heap.size = A at hD ⊢
  have hA : ∀ q : Nat, s.heap.size ≤ q → A q := fun q h => by rw [← hAe]; exact Or.inr h
  have hl := lv_entry ([.int x]) (n := 3) (Nat.le_of_ble_eq_true rfl)
  rw [lg_entry_eq]
  generalize (lg_sl ([.int x]) ++ List.replicate (3 - (lg_sl ([.int x])).length) Slot.unset).toArray = ls at hl ⊢
  have hl : lv_has ls 3 [(0, .int x)] := hl
  have ho := fun w (h : w ∈ ow_n_bitsOf) => hts w (List.mem_cons_of_mem _ h)
  refine zQ (fun Q hQ => ?_)
  have pt_4 : ∀ (n4 : Nat) (nv : Int32) (kv : Int32) (H : Heap) (locs : List Loc) (ls : Array Slot), (12 - kv.toInt).toNat < n4 → (0 ≤ kv.toInt) → va_P (dC, dI) vwCl [] H → va_D A [] → va_S A s.heap H locs → lv_has ls 3 [(0, .int x), (1, .int nv), (2, .int kv)] → W p l e (headSpec vs_n_bitsOf rm_n_bitsOf).room s m #[Value.int x] below meth c H locs 0 0 Q (F0 m 4 ls []) := by
    intro n4
    induction n4 with
    | zero => intro nv kv H locs ls hn4 hk0 hP hD hS hl; exact absurd hn4 (Nat.not_lt_zero _)
    | succ n4 ih4 =>
      intro nv kv H locs ls hn4 hk0 hP hD hS hl
      refine lv_iload_n hx hb dX12_bitsOf_4 rfl (lv_at hl 2 rfl) ?_
      refine lv_bipush (v := 12) hx hb dX12_bitsOf_5 rg_57 ?_
      refine lv_icmp_ge (tgt := 24) hx hb dX12_bitsOf_7 rfl (fun c1_ => ?_) (fun c1_ => ?_)
      · have tc1_ := (show 12 ≤ kv.toInt from ti_le rg_58 rfl c1_)
        refine lv_iload_n hx hb dX12_bitsOf_24 rfl (lv_at hl 1 rfl) ?_
        rw [hQ]
        exact W.iret (v := nv) hx hb hr (fun t ht hW => ⟨⟨nv, (), rfl, trivial, wEn_of empP (hK.sub [] rfl) empD ht hW⟩, hS.F ht⟩) hS.2.2 dX12_bitsOf_25
      · have tc1_ := (show kv.toInt < 12 from ti_nle rg_58 rfl c1_)
        refine lv_iload_n hx hb dX12_bitsOf_10 rfl (lv_at hl 1 rfl) ?_
        refine lv_iload_n hx hb dX12_bitsOf_11 rfl (lv_at hl 0 rfl) ?_
        refine lv_iload_n hx hb dX12_bitsOf_12 rfl (lv_at hl 2 rfl) ?_
        refine lv_ishr hx hb dX12_bitsOf_13 ?_
        refine lv_topi (fun z2_ ez2_ => ?_)
        refine lv_iconst (v := 1) hx hb dX12_bitsOf_14 rg_6 ?_
        refine lv_iand hx hb dX12_bitsOf_15 ?_
        refine lv_topi (fun z3_ ez3_ => ?_)
        refine lv_iadd hx hb dX12_bitsOf_16 ?_
        refine lv_topi (fun z4_ ez4_ => ?_)
        refine lv_istore_n (lv' := [(1, .int z4_), (0, .int x), (2, .int kv)]) hx hb dX12_bitsOf_17 rfl hl (Nat.le_of_ble_eq_true rfl) rfl (fun ls hl => ?_)
        obtain ⟨z5_, ez5_⟩ : ∃ y : Int32, y = kv + 1 := ⟨_, rfl⟩
        have o1 : -2147483648 ≤ kv.toInt + 1 := by omega
        have o2 : kv.toInt + 1 ≤ 2147483647 := by omega
        have tz5_ := ti_add ez5_ rfl rg_18 o1 o2
        refine lv_iinc (v := z5_) (lv' := [(2, .int z5_), (1, .int z4_), (0, .int x)]) hx hb dX12_bitsOf_18 hl (k := 2) rfl (iincp ez5_ rg_6) (Nat.le_of_ble_eq_true rfl) rfl (fun ls hl => ?_)
        refine lv_goto (tgt := 4) hx hb dX12_bitsOf_21 rfl ?_
        have o3 : (12 - z5_.toInt).toNat < n4 := by omega
        have o4 : 0 ≤ z5_.toInt := by omega
        exact ih4  z4_ z5_ _ _ _ (show (12 - z5_.toInt).toNat < n4 from o3) (show 0 ≤ z5_.toInt from o4) hP hD hS (lv_sub hl [2, 1, 0] rfl)
  refine zH (A := A) (ws := []) (fun H hP hS => ?_) hP
  refine lv_iconst (v := 0) hx hb dX12_bitsOf_0 rg_0 ?_
  refine lv_istore_n (lv' := [(1, .int 0), (0, .int x)]) hx hb dX12_bitsOf_1 rfl hl (Nat.le_of_ble_eq_true rfl) rfl (fun ls hl => ?_)
  refine lv_iconst (v := 0) hx hb dX12_bitsOf_2 rg_0 ?_
  refine lv_istore_n (lv' := [(2, .int 0), (1, .int 0), (0, .int x)]) hx hb dX12_bitsOf_3 rfl hl (Nat.le_of_ble_eq_true rfl) rfl (fun ls hl => ?_)
  exact pt_4 _  0 0 _ _ _ (Nat.lt_succ_self _) rg_56 hP hD hS (lv_sub hl [2, 1, 0] rfl)
def ow_n_best : List Cond := [.fieldLink RX12 252 "NearEnoughModel" "changes" "I"]
def vs_n_best : List Cond := .code yX12_best cX12_best 4 (some .int) :: (ow_n_best ++ (([.methodLink RX12 447 yX12_savedBy, .instanceMethod yX12_savedBy, .selects RX12 yX12_savedBy yX12_savedBy, .initialized RX12] : List Cond) ++ (vs_n_savedBy ++ (([.methodLink RX12 450 yX12_isLet, .instanceMethod yX12_isLet, .selects RX12 yX12_isLet yX12_isLet, .initialized RX12] : List Cond) ++ (vs_n_isLet ++ (([.methodLink RX12 453 yX12_bitsOf, .static yX12_bitsOf, .initialized yX12_bitsOf.cls] : List Cond) ++ (vs_n_bitsOf ++ (wsX120))))))))
theorem vg_n_best : vs_n_best.all goodWord = true := by decide +kernel
theorem dd_n_best : yX12_best.cls = RX12 ∧ yX12_best.cls ≠ "java/lang/invoke/MethodHandle" ∧ yX12_best.cls ≠ "java/lang/invoke/VarHandle" ∧ (parseMethodDescriptor yX12_best.desc).map (fun d => d.parameters.length) = some 0 := by decide +kernel
def rm_n_best : Room := { frames := 8, cells := 0, slots := 0, locals := 209 }
theorem gd_n_best_447_n_savedBy : GoodIn vs_n_best (wsV RX12 447 RX12 yX12_savedBy vs_n_savedBy) := goodIn_app (goodIn_sub (fun w h => (List.mem_cons_of_mem _ (List.mem_append_right _ (List.mem_append_left _ h)))) (by decide +kernel)) (goodIn_sub (fun w h => (List.mem_cons_of_mem _ (List.mem_append_right _ (List.mem_append_right _ (List.mem_append_left _ h))))) vg_n_savedBy)
theorem gd_n_best_450_n_isLet : GoodIn vs_n_best (wsV RX12 450 RX12 yX12_isLet vs_n_isLet) := goodIn_app (goodIn_sub (fun w h => (List.mem_cons_of_mem _ (List.mem_append_right _ (List.mem_append_right _ (List.mem_append_right _ (List.mem_append_left _ h)))))) (by decide +kernel)) (goodIn_sub (fun w h => (List.mem_cons_of_mem _ (List.mem_append_right _ (List.mem_append_right _ (List.mem_append_right _ (List.mem_append_right _ (List.mem_append_left _ h))))))) vg_n_isLet)
theorem gd_n_best_453_n_bitsOf : GoodIn vs_n_best (va_wsS RX12 453 yX12_bitsOf vs_n_bitsOf) := goodIn_app (goodIn_sub (fun w h => (List.mem_cons_of_mem _ (List.mem_append_right _ (List.mem_append_right _ (List.mem_append_right _ (List.mem_append_right _ (List.mem_append_right _ (List.mem_append_left _ h)))))))) (by decide +kernel)) (goodIn_sub (fun w h => (List.mem_cons_of_mem _ (List.mem_append_right _ (List.mem_append_right _ (List.mem_append_right _ (List.mem_append_right _ (List.mem_append_right _ (List.mem_append_right _ (List.mem_append_left _ h))))))))) vg_n_bitsOf)
set_option maxHeartbeats 4000000 in
set_option maxRecDepth 100000 in
theorem n_best (l : Launch) (dC : Nat → ClassId) (dI : Nat → Nat → Nat) (h : Nat) (ad : Nat → Nat) (cl : Nat → ClassId) (sz : Nat) (σ : MS)  (hI : Inv σ) (hR : RelP σ (σ.1 29).toNatClampNeg) (hC : ChR σ) : Met l yX12_best vs_n_best rm_n_best (va_Pc [.ref h] (wSt dC dI (mW h ad cl σ) (mT cl) sz)) (va_Qi (fun (r : Int32) (τ : MS) => Inv τ ∧ eqx [37, 41, 42, 43, 44, 45, 46, 32, 47, 48, 49, 54, 55, 56, 57] τ σ) (fun (τ : MS) => wEn dC dI (va_A (mW h ad cl σ) sz) (mW h ad cl τ) []) (va_A (mW h ad cl σ) sz)) 0 0 (va_A (mW h ad cl σ) sz) := by
  refine Met.ofW (cc := cX12_best) (maxL := 4) (ret := (some .int)) (by decide) rfl ?_
  intro p e s m args below meth c s₁ B hml hv
  obtain ⟨rfl, hsz, hP, hK, hD0, hE⟩ := hv
  have hx := B.exec
  have hb := B.bytes
  have hr := B.returns
  have hts := atoms_spec (ws := vs_n_best) B.pre
  have hown : s.vm.findClass RX12 = some m.cls := findClass_of_methodNamed B.named
  have hlocks := B.notSynchronized
  subst hsz
  have hD := hD0.self (sz := s.heap.size)
  generalize hAe : va_A (mW h ad cl σ) s.heap.size = A at hD ⊢
  have hA : ∀ q : Nat, s.heap.size ≤ q → A q := fun q h => by rw [← hAe]; exact Or.inr h
  have hl := lv_entry ([.ref h]) (n := 4) (Nat.le_of_ble_eq_true rfl)
  rw [lg_entry_eq]
  generalize (lg_sl ([.ref h]) ++ List.replicate (4 - (lg_sl ([.ref h])).length) Slot.unset).toArray = ls at hl ⊢
  have hl : lv_has ls 4 [(0, .ref h)] := hl
  have ho := fun w (h : w ∈ ow_n_best) => hts w (List.mem_cons_of_mem _ (List.mem_append_left _ h))
  have hin12 : ∀ w ∈ u_ws RX12 TX12 59, w ∈ vs_n_best := fun w h => (List.mem_cons_of_mem _ (List.mem_append_right _ (List.mem_append_right _ (List.mem_append_right _ (List.mem_append_right _ (List.mem_append_right _ (List.mem_append_right _ (List.mem_append_right _ h))))))))
  refine zQ (fun Q hQ => ?_)
  have pt_4 : ∀ (n4 : Nat) (τ : MS) (bv : Int32) (kv : Int32) (H : Heap) (locs : List Loc) (ls : Array Slot), (4096 - kv.toInt).toNat < n4 → (Inv τ) → (eqx [37, 41, 42, 43, 44, 45, 46, 32, 47, 48, 49, 54, 55, 56, 57] τ σ) → (0 ≤ kv.toInt) → va_P (dC, dI) vwCl (mW h ad cl τ) H → va_D A (mW h ad cl τ) → va_S A s.heap H locs → lv_has ls 4 [(0, .ref h), (1, .int bv), (2, .int kv)] → W p l e (headSpec vs_n_best rm_n_best).room s m #[Value.ref h] below meth c H locs 0 0 Q (F0 m 4 ls []) := by
    intro n4
    induction n4 with
    | zero => intro τ bv kv H locs ls hn4 hIτ hxτ hk0τ hP hD hS hl; exact absurd hn4 (Nat.not_lt_zero _)
    | succ n4 ih4 =>
      intro τ bv kv H locs ls hn4 hIτ hxτ hk0τ hP hD hS hl
      have bτ_29 : 0 ≤ (τ.1 29).toInt ∧ (τ.1 29).toInt ≤ 1 := hIτ.1 29
      have qq1_ : (τ.1 29).toInt = ((σ.1 29) : Int32).toInt := congrArg Int32.toInt (((hxτ 29 rg_571).1))
      have bτ_40 : 0 ≤ (τ.1 40).toInt ∧ (τ.1 40).toInt ≤ 12 := hIτ.1 40
      have qq2_ : (τ.1 40).toInt = ((σ.1 40) : Int32).toInt := congrArg Int32.toInt (((hxτ 40 rg_588).1))
      refine lv_iload_n hx hb dX12_best_4 rfl (lv_at hl 2 rfl) ?_
      refine lv_iconst (v := 1) hx hb dX12_best_5 rg_6 ?_
      refine lv_aload_n hx hb dX12_best_6 rfl (lv_at hl 0 rfl) ?_
      refine va_get (D := (dC, dI)) (ci := 12) (v := .int (τ.1 40)) (C := RX12) (T := TX12) (N := 59) hx hb hts hin12 hown hK hP 0 rfl rfl 40 (Nat.le_of_ble_eq_true rfl) (ho (.fieldLink RX12 252 "NearEnoughModel" "changes" "I") (List.mem_of_getElem? (i := 0) rfl)) (fun _ h9 => h9) rfl dX12_best_7 ?_
      refine zi (v := (σ.1 40)) ((hxτ 40 rg_588).1) ?_
      have bb3_ : 0 ≤ (σ.1 40).toInt ∧ (σ.1 40).toInt ≤ 12 := by have h9 := hIτ.1 40; rw [show (τ.1 40) = (σ.1 40) from ((hxτ 40 rg_588).1)] at h9; exact h9
      refine lv_ishl hx hb dX12_best_10 ?_
      refine lv_topi (fun z4_ ez4_ => ?_)
      have o1 : 0 ≤ (σ.1 40).toInt := by omega
      have o2 : (σ.1 40).toInt ≤ 12 := by omega
      have bz4_ := shl_bd ez4_ o1 o2
      refine lv_icmp_ge (tgt := 72) hx hb dX12_best_11 rfl (fun c5_ => ?_) (fun c5_ => ?_)
      · have tc5_ := (show z4_.toInt ≤ kv.toInt from ti_le rfl rfl c5_)
        refine lv_iload_n hx hb dX12_best_72 rfl (lv_at hl 1 rfl) ?_
        rw [hQ]
        exact W.iret (v := bv) hx hb hr (fun t ht hW => ⟨⟨bv, τ, rfl, ⟨hIτ, hxτ⟩, wEn_of hP (hK.sub [] rfl) hD ht hW⟩, hS.F ht⟩) hS.2.2 dX12_best_73
      · have tc5_ := (show kv.toInt < z4_.toInt from ti_nle rfl rfl c5_)
        refine lv_aload_n hx hb dX12_best_14 rfl (lv_at hl 0 rfl) ?_
        refine lv_iload_n hx hb dX12_best_15 rfl (lv_at hl 2 rfl) ?_
        refine zy_i (va_runV (As := [.int kv]) (rest := []) ⟨hx, hb, hml, hown, hts⟩ (n_savedBy l dC dI h ad cl H.size τ kv hIτ) (cwV 1 hts gd_n_best_447_n_savedBy rfl rfl rfl dd_n_savedBy ⟨Nat.le_of_ble_eq_true rfl, Nat.le_of_ble_eq_true rfl⟩) (preV hP hK hD hE (ci := 12) (q0 := 0) rfl rfl) rfl rfl hl.1 rfl (lv_room (Nat.le_of_ble_eq_true rfl)) dX12_best_16 ⟨Nat.le_of_ble_eq_true rfl, Nat.le_of_ble_eq_true rfl⟩) hD hS hA (fun z7_ τ6_ H locs hq hP hD hS => ?_)
        obtain rfl := hq
        refine W.widen (k := 0) (n := 0) (Nat.le_of_ble_eq_true rfl) (Nat.le_of_ble_eq_true rfl) ?_
        refine lv_istore_n (lv' := [(3, .int z7_), (0, .ref h), (1, .int bv), (2, .int kv)]) hx hb dX12_best_19 rfl hl (Nat.le_of_ble_eq_true rfl) rfl (fun ls hl => ?_)
        refine lv_iload_n hx hb dX12_best_20 rfl (lv_at hl 0 rfl) ?_
        refine lv_aload_n hx hb dX12_best_21 rfl (lv_at hl 1 rfl) ?_
        refine lv_iload_n hx hb dX12_best_22 rfl (lv_at hl 2 rfl) ?_
        refine zy_i (va_runV (As := [.int bv]) (rest := [.int z7_]) ⟨hx, hb, hml, hown, hts⟩ (n_savedBy l dC dI h ad cl H.size τ bv hIτ) (cwV 1 hts gd_n_best_447_n_savedBy rfl rfl rfl dd_n_savedBy ⟨Nat.le_of_ble_eq_true rfl, Nat.le_of_ble_eq_true rfl⟩) (preV hP hK hD hE (ci := 12) (q0 := 0) rfl rfl) rfl rfl hl.1 rfl (lv_room (Nat.le_of_ble_eq_true rfl)) dX12_best_23 ⟨Nat.le_of_ble_eq_true rfl, Nat.le_of_ble_eq_true rfl⟩) hD hS hA (fun z9_ τ8_ H locs hq hP hD hS => ?_)
        obtain rfl := hq
        refine W.widen (k := 0) (n := 0) (Nat.le_of_ble_eq_true rfl) (Nat.le_of_ble_eq_true rfl) ?_
        refine lv_icmp_lt (tgt := 66) hx hb dX12_best_26 rfl (fun c10_ => ?_) (fun c10_ => ?_)
        · have tc10_ := (show z7_.toInt < z9_.toInt from ti_lt rfl rfl c10_)
          obtain ⟨z11_, ez11_⟩ : ∃ y : Int32, y = kv + 1 := ⟨_, rfl⟩
          have o3 : -2147483648 ≤ kv.toInt + 1 := by omega
          have o4 : kv.toInt + 1 ≤ 2147483647 := by omega
          have tz11_ := ti_add ez11_ rfl rg_18 o3 o4
          refine lv_iinc (v := z11_) (lv' := [(2, .int z11_), (3, .int z7_), (0, .ref h), (1, .int bv)]) hx hb dX12_best_66 hl (k := 3) rfl (iincp ez11_ rg_6) (Nat.le_of_ble_eq_true rfl) rfl (fun ls hl => ?_)
          refine lv_goto (tgt := 4) hx hb dX12_best_69 rfl ?_
          have o5 : (4096 - z11_.toInt).toNat < n4 := by omega
          have o6 : 0 ≤ z11_.toInt := by omega
          exact ih4 τ bv z11_ _ _ _ (show (4096 - z11_.toInt).toNat < n4 from o5) hIτ hxτ (show 0 ≤ z11_.toInt from o6) hP hD hS (lv_sub hl [2, 3, 0] rfl)
        · have tc10_ := (show z9_.toInt ≤ z7_.toInt from ti_nlt rfl rfl c10_)
          refine lv_iload_n hx hb dX12_best_29 rfl (lv_at hl 0 rfl) ?_
          refine lv_aload_n hx hb dX12_best_30 rfl (lv_at hl 1 rfl) ?_
          refine lv_iload_n hx hb dX12_best_31 rfl (lv_at hl 2 rfl) ?_
          refine zy_i (va_runV (As := [.int bv]) (rest := [.int z7_]) ⟨hx, hb, hml, hown, hts⟩ (n_savedBy l dC dI h ad cl H.size τ bv hIτ) (cwV 1 hts gd_n_best_447_n_savedBy rfl rfl rfl dd_n_savedBy ⟨Nat.le_of_ble_eq_true rfl, Nat.le_of_ble_eq_true rfl⟩) (preV hP hK hD hE (ci := 12) (q0 := 0) rfl rfl) rfl rfl hl.1 rfl (lv_room (Nat.le_of_ble_eq_true rfl)) dX12_best_32 ⟨Nat.le_of_ble_eq_true rfl, Nat.le_of_ble_eq_true rfl⟩) hD hS hA (fun z13_ τ12_ H locs hq hP hD hS => ?_)
          obtain rfl := hq
          refine W.widen (k := 0) (n := 0) (Nat.le_of_ble_eq_true rfl) (Nat.le_of_ble_eq_true rfl) ?_
          refine lv_icmp_ne (tgt := 52) hx hb dX12_best_35 rfl (fun c14_ => ?_) (fun c14_ => ?_)
          · have tc14_ := (show z7_.toInt ≠ z13_.toInt from ti_ne rfl rfl c14_)
            refine lv_aload_n hx hb dX12_best_52 rfl (lv_at hl 1 rfl) ?_
            refine lv_iload_n hx hb dX12_best_53 rfl (lv_at hl 3 rfl) ?_
            refine zy_i (va_runV (As := [.int kv]) (rest := []) ⟨hx, hb, hml, hown, hts⟩ (n_isLet l dC dI h ad cl H.size τ kv hIτ (RelP.x hR hxτ rg_571 rg_572) (ChR.x hC hxτ rg_571 rg_588 rg_572 rg_589 rg_590 rg_591)) (cwV 1 hts gd_n_best_450_n_isLet rfl rfl rfl dd_n_isLet ⟨Nat.le_of_ble_eq_true rfl, Nat.le_of_ble_eq_true rfl⟩) (preV hP hK hD hE (ci := 12) (q0 := 0) rfl rfl) rfl rfl hl.1 rfl (lv_room (Nat.le_of_ble_eq_true rfl)) dX12_best_54 ⟨Nat.le_of_ble_eq_true rfl, Nat.le_of_ble_eq_true rfl⟩) hD hS hA (fun z16_ τ15_ H locs hq hP hD hS => ?_)
            obtain ⟨hI17_, hx18_⟩ := hq
            have Xτ15_ : eqx [37, 41, 42, 43, 44, 45, 46, 32, 47, 48, 49, 54, 55, 56, 57] τ15_ σ := eqx.tr hx18_ hxτ rg_592
            have qq19_ : (τ15_.1 29).toInt = ((σ.1 29) : Int32).toInt := congrArg Int32.toInt ((show τ15_.1 29 = (σ.1 29) from ((hx18_ 29 rg_571).1).trans ((hxτ 29 rg_571).1)))
            have qq20_ : (τ15_.1 40).toInt = ((σ.1 40) : Int32).toInt := congrArg Int32.toInt ((show τ15_.1 40 = (σ.1 40) from ((hx18_ 40 rg_588).1).trans ((hxτ 40 rg_588).1)))
            refine W.widen (k := 0) (n := 0) (Nat.le_of_ble_eq_true rfl) (Nat.le_of_ble_eq_true rfl) ?_
            refine lv_if_eq (tgt := 64) hx hb dX12_best_57 rfl (fun c21_ => ?_) (fun c21_ => ?_)
            · have tc21_ := (show z16_.toInt = 0 from ti_eq rfl rg_11 c21_)
              refine lv_iload_n hx hb dX12_best_64 rfl (lv_at hl 2 rfl) ?_
              refine lv_istore_n (lv' := [(1, .int bv), (3, .int z7_), (0, .ref h), (2, .int kv)]) hx hb dX12_best_65 rfl hl (Nat.le_of_ble_eq_true rfl) rfl (fun ls hl => ?_)
              obtain ⟨z22_, ez22_⟩ : ∃ y : Int32, y = kv + 1 := ⟨_, rfl⟩
              have o7 : -2147483648 ≤ kv.toInt + 1 := by omega
              have o8 : kv.toInt + 1 ≤ 2147483647 := by omega
              have tz22_ := ti_add ez22_ rfl rg_18 o7 o8
              refine lv_iinc (v := z22_) (lv' := [(2, .int z22_), (1, .int bv), (3, .int z7_), (0, .ref h)]) hx hb dX12_best_66 hl (k := 3) rfl (iincp ez22_ rg_6) (Nat.le_of_ble_eq_true rfl) rfl (fun ls hl => ?_)
              refine lv_goto (tgt := 4) hx hb dX12_best_69 rfl ?_
              have o9 : (4096 - z22_.toInt).toNat < n4 := by omega
              have o10 : 0 ≤ z22_.toInt := by omega
              exact ih4 τ15_ bv z22_ _ _ _ (show (4096 - z22_.toInt).toNat < n4 from o9) hI17_ Xτ15_ (show 0 ≤ z22_.toInt from o10) hP hD hS (lv_sub hl [3, 1, 0] rfl)
            · have tc21_ := (show z16_.toInt ≠ 0 from ti_ne rfl rg_11 c21_)
              refine lv_iload_n hx hb dX12_best_60 rfl (lv_at hl 3 rfl) ?_
              refine lv_goto (tgt := 65) hx hb dX12_best_61 rfl ?_
              refine lv_istore_n (lv' := [(1, .int kv), (3, .int z7_), (0, .ref h), (2, .int kv)]) hx hb dX12_best_65 rfl hl (Nat.le_of_ble_eq_true rfl) rfl (fun ls hl => ?_)
              obtain ⟨z23_, ez23_⟩ : ∃ y : Int32, y = kv + 1 := ⟨_, rfl⟩
              have o11 : -2147483648 ≤ kv.toInt + 1 := by omega
              have o12 : kv.toInt + 1 ≤ 2147483647 := by omega
              have tz23_ := ti_add ez23_ rfl rg_18 o11 o12
              refine lv_iinc (v := z23_) (lv' := [(2, .int z23_), (1, .int kv), (3, .int z7_), (0, .ref h)]) hx hb dX12_best_66 hl (k := 3) rfl (iincp ez23_ rg_6) (Nat.le_of_ble_eq_true rfl) rfl (fun ls hl => ?_)
              refine lv_goto (tgt := 4) hx hb dX12_best_69 rfl ?_
              have o13 : (4096 - z23_.toInt).toNat < n4 := by omega
              have o14 : 0 ≤ z23_.toInt := by omega
              exact ih4 τ15_ kv z23_ _ _ _ (show (4096 - z23_.toInt).toNat < n4 from o13) hI17_ Xτ15_ (show 0 ≤ z23_.toInt from o14) hP hD hS (lv_sub hl [3, 1, 0] rfl)
          · have tc14_ := (show z7_.toInt = z13_.toInt from ti_eq rfl rfl c14_)
            refine lv_iload_n hx hb dX12_best_38 rfl (lv_at hl 3 rfl) ?_
            refine zs_i (va_runS (As := [.int kv]) (rest := []) ⟨hx, hb, hml, hown, hts⟩ (n_bitsOf l dC dI kv  H.size) (va_cwS 1 hts gd_n_best_453_n_bitsOf rfl rfl rfl dd_n_bitsOf ⟨Nat.le_of_ble_eq_true rfl, Nat.le_of_ble_eq_true rfl⟩) (preS (A := A) empP (hK.sub (tys' := []) [] rfl) empD hE) rfl rfl hl.1 rfl (lv_room (Nat.le_of_ble_eq_true rfl)) dX12_best_39 ⟨Nat.le_of_ble_eq_true rfl, Nat.le_of_ble_eq_true rfl⟩) hP hD hS hA (fun z24_ H locs hq hP hD hS => ?_)
            have f25_ := hq
            refine W.widen (k := 0) (n := 0) (Nat.le_of_ble_eq_true rfl) (Nat.le_of_ble_eq_true rfl) ?_
            refine lv_iload_n hx hb dX12_best_42 rfl (lv_at hl 2 rfl) ?_
            refine zs_i (va_runS (As := [.int bv]) (rest := [.int z24_]) ⟨hx, hb, hml, hown, hts⟩ (n_bitsOf l dC dI bv  H.size) (va_cwS 1 hts gd_n_best_453_n_bitsOf rfl rfl rfl dd_n_bitsOf ⟨Nat.le_of_ble_eq_true rfl, Nat.le_of_ble_eq_true rfl⟩) (preS (A := A) empP (hK.sub (tys' := []) [] rfl) empD hE) rfl rfl hl.1 rfl (lv_room (Nat.le_of_ble_eq_true rfl)) dX12_best_43 ⟨Nat.le_of_ble_eq_true rfl, Nat.le_of_ble_eq_true rfl⟩) hP hD hS hA (fun z26_ H locs hq hP hD hS => ?_)
            have f27_ := hq
            refine W.widen (k := 0) (n := 0) (Nat.le_of_ble_eq_true rfl) (Nat.le_of_ble_eq_true rfl) ?_
            refine lv_icmp_lt (tgt := 52) hx hb dX12_best_46 rfl (fun c28_ => ?_) (fun c28_ => ?_)
            · have tc28_ := (show z24_.toInt < z26_.toInt from ti_lt rfl rfl c28_)
              refine lv_aload_n hx hb dX12_best_52 rfl (lv_at hl 1 rfl) ?_
              refine lv_iload_n hx hb dX12_best_53 rfl (lv_at hl 3 rfl) ?_
              refine zy_i (va_runV (As := [.int kv]) (rest := []) ⟨hx, hb, hml, hown, hts⟩ (n_isLet l dC dI h ad cl H.size τ kv hIτ (RelP.x hR hxτ rg_571 rg_572) (ChR.x hC hxτ rg_571 rg_588 rg_572 rg_589 rg_590 rg_591)) (cwV 1 hts gd_n_best_450_n_isLet rfl rfl rfl dd_n_isLet ⟨Nat.le_of_ble_eq_true rfl, Nat.le_of_ble_eq_true rfl⟩) (preV hP hK hD hE (ci := 12) (q0 := 0) rfl rfl) rfl rfl hl.1 rfl (lv_room (Nat.le_of_ble_eq_true rfl)) dX12_best_54 ⟨Nat.le_of_ble_eq_true rfl, Nat.le_of_ble_eq_true rfl⟩) hD hS hA (fun z30_ τ29_ H locs hq hP hD hS => ?_)
              obtain ⟨hI31_, hx32_⟩ := hq
              have Xτ29_ : eqx [37, 41, 42, 43, 44, 45, 46, 32, 47, 48, 49, 54, 55, 56, 57] τ29_ σ := eqx.tr hx32_ hxτ rg_592
              have qq33_ : (τ29_.1 29).toInt = ((σ.1 29) : Int32).toInt := congrArg Int32.toInt ((show τ29_.1 29 = (σ.1 29) from ((hx32_ 29 rg_571).1).trans ((hxτ 29 rg_571).1)))
              have qq34_ : (τ29_.1 40).toInt = ((σ.1 40) : Int32).toInt := congrArg Int32.toInt ((show τ29_.1 40 = (σ.1 40) from ((hx32_ 40 rg_588).1).trans ((hxτ 40 rg_588).1)))
              refine W.widen (k := 0) (n := 0) (Nat.le_of_ble_eq_true rfl) (Nat.le_of_ble_eq_true rfl) ?_
              refine lv_if_eq (tgt := 64) hx hb dX12_best_57 rfl (fun c35_ => ?_) (fun c35_ => ?_)
              · have tc35_ := (show z30_.toInt = 0 from ti_eq rfl rg_11 c35_)
                refine lv_iload_n hx hb dX12_best_64 rfl (lv_at hl 2 rfl) ?_
                refine lv_istore_n (lv' := [(1, .int bv), (3, .int z7_), (0, .ref h), (2, .int kv)]) hx hb dX12_best_65 rfl hl (Nat.le_of_ble_eq_true rfl) rfl (fun ls hl => ?_)
                obtain ⟨z36_, ez36_⟩ : ∃ y : Int32, y = kv + 1 := ⟨_, rfl⟩
                have o15 : -2147483648 ≤ kv.toInt + 1 := by omega
                have o16 : kv.toInt + 1 ≤ 2147483647 := by omega
                have tz36_ := ti_add ez36_ rfl rg_18 o15 o16
                refine lv_iinc (v := z36_) (lv' := [(2, .int z36_), (1, .int bv), (3, .int z7_), (0, .ref h)]) hx hb dX12_best_66 hl (k := 3) rfl (iincp ez36_ rg_6) (Nat.le_of_ble_eq_true rfl) rfl (fun ls hl => ?_)
                refine lv_goto (tgt := 4) hx hb dX12_best_69 rfl ?_
                have o17 : (4096 - z36_.toInt).toNat < n4 := by omega
                have o18 : 0 ≤ z36_.toInt := by omega
                exact ih4 τ29_ bv z36_ _ _ _ (show (4096 - z36_.toInt).toNat < n4 from o17) hI31_ Xτ29_ (show 0 ≤ z36_.toInt from o18) hP hD hS (lv_sub hl [3, 1, 0] rfl)
              · have tc35_ := (show z30_.toInt ≠ 0 from ti_ne rfl rg_11 c35_)
                refine lv_iload_n hx hb dX12_best_60 rfl (lv_at hl 3 rfl) ?_
                refine lv_goto (tgt := 65) hx hb dX12_best_61 rfl ?_
                refine lv_istore_n (lv' := [(1, .int kv), (3, .int z7_), (0, .ref h), (2, .int kv)]) hx hb dX12_best_65 rfl hl (Nat.le_of_ble_eq_true rfl) rfl (fun ls hl => ?_)
                obtain ⟨z37_, ez37_⟩ : ∃ y : Int32, y = kv + 1 := ⟨_, rfl⟩
                have o19 : -2147483648 ≤ kv.toInt + 1 := by omega
                have o20 : kv.toInt + 1 ≤ 2147483647 := by omega
                have tz37_ := ti_add ez37_ rfl rg_18 o19 o20
                refine lv_iinc (v := z37_) (lv' := [(2, .int z37_), (1, .int kv), (3, .int z7_), (0, .ref h)]) hx hb dX12_best_66 hl (k := 3) rfl (iincp ez37_ rg_6) (Nat.le_of_ble_eq_true rfl) rfl (fun ls hl => ?_)
                refine lv_goto (tgt := 4) hx hb dX12_best_69 rfl ?_
                have o21 : (4096 - z37_.toInt).toNat < n4 := by omega
                have o22 : 0 ≤ z37_.toInt := by omega
                exact ih4 τ29_ kv z37_ _ _ _ (show (4096 - z37_.toInt).toNat < n4 from o21) hI31_ Xτ29_ (show 0 ≤ z37_.toInt from o22) hP hD hS (lv_sub hl [3, 1, 0] rfl)
            · have tc28_ := (show z26_.toInt ≤ z24_.toInt from ti_nlt rfl rfl c28_)
              refine lv_goto (tgt := 66) hx hb dX12_best_49 rfl ?_
              obtain ⟨z38_, ez38_⟩ : ∃ y : Int32, y = kv + 1 := ⟨_, rfl⟩
              have o23 : -2147483648 ≤ kv.toInt + 1 := by omega
              have o24 : kv.toInt + 1 ≤ 2147483647 := by omega
              have tz38_ := ti_add ez38_ rfl rg_18 o23 o24
              refine lv_iinc (v := z38_) (lv' := [(2, .int z38_), (3, .int z7_), (0, .ref h), (1, .int bv)]) hx hb dX12_best_66 hl (k := 3) rfl (iincp ez38_ rg_6) (Nat.le_of_ble_eq_true rfl) rfl (fun ls hl => ?_)
              refine lv_goto (tgt := 4) hx hb dX12_best_69 rfl ?_
              have o25 : (4096 - z38_.toInt).toNat < n4 := by omega
              have o26 : 0 ≤ z38_.toInt := by omega
              exact ih4 τ bv z38_ _ _ _ (show (4096 - z38_.toInt).toNat < n4 from o25) hIτ hxτ (show 0 ≤ z38_.toInt from o26) hP hD hS (lv_sub hl [2, 3, 0] rfl)
  refine zH (A := A) (ws := mW h ad cl σ) (fun H hP hS => ?_) hP
  have bσ_29 : 0 ≤ (σ.1 29).toInt ∧ (σ.1 29).toInt ≤ 1 := hI.1 29
  have bσ_40 : 0 ≤ (σ.1 40).toInt ∧ (σ.1 40).toInt ≤ 12 := hI.1 40
  refine lv_iconst (v := 0) hx hb dX12_best_0 rg_0 ?_
  refine lv_istore_n (lv' := [(1, .int 0), (0, .ref h)]) hx hb dX12_best_1 rfl hl (Nat.le_of_ble_eq_true rfl) rfl (fun ls hl => ?_)
  refine lv_iconst (v := 1) hx hb dX12_best_2 rg_6 ?_
  refine lv_istore_n (lv' := [(2, .int 1), (1, .int 0), (0, .ref h)]) hx hb dX12_best_3 rfl hl (Nat.le_of_ble_eq_true rfl) rfl (fun ls hl => ?_)
  exact pt_4 _ σ 0 1 _ _ _ (Nat.lt_succ_self _) hI eqx.rf rg_593 hP hD hS (lv_sub hl [2, 1, 0] rfl)
def ow_n_layOffs : List Cond := [.fieldLink RX12 252 "NearEnoughModel" "changes" "I", .fieldLink RX12 113 "NearEnoughModel" "offs" "[J", .constantLong RX12 373 (-1)]
def vs_n_layOffs : List Cond := .code yX12_layOffs cX12_layOffs 3 none :: (ow_n_layOffs ++ (([.methodLink RX12 370 yX12_isOpen, .instanceMethod yX12_isOpen, .selects RX12 yX12_isOpen yX12_isOpen, .initialized RX12] : List Cond) ++ (vs_n_isOpen ++ (([.methodLink RX12 434 yX12_offOf, .instanceMethod yX12_offOf, .selects RX12 yX12_offOf yX12_offOf, .initialized RX12] : List Cond) ++ (vs_n_offOf ++ (wsX120))))))
theorem vg_n_layOffs : vs_n_layOffs.all goodWord = true := by decide +kernel
theorem dd_n_layOffs : yX12_layOffs.cls = RX12 ∧ yX12_layOffs.cls ≠ "java/lang/invoke/MethodHandle" ∧ yX12_layOffs.cls ≠ "java/lang/invoke/VarHandle" ∧ (parseMethodDescriptor yX12_layOffs.desc).map (fun d => d.parameters.length) = some 1 := by decide +kernel
def rm_n_layOffs : Room := { frames := 7, cells := 0, slots := 0, locals := 180 }
theorem gd_n_layOffs_370_n_isOpen : GoodIn vs_n_layOffs (wsV RX12 370 RX12 yX12_isOpen vs_n_isOpen) := goodIn_app (goodIn_sub (fun w h => (List.mem_cons_of_mem _ (List.mem_append_right _ (List.mem_append_left _ h)))) (by decide +kernel)) (goodIn_sub (fun w h => (List.mem_cons_of_mem _ (List.mem_append_right _ (List.mem_append_right _ (List.mem_append_left _ h))))) vg_n_isOpen)
theorem gd_n_layOffs_434_n_offOf : GoodIn vs_n_layOffs (wsV RX12 434 RX12 yX12_offOf vs_n_offOf) := goodIn_app (goodIn_sub (fun w h => (List.mem_cons_of_mem _ (List.mem_append_right _ (List.mem_append_right _ (List.mem_append_right _ (List.mem_append_left _ h)))))) (by decide +kernel)) (goodIn_sub (fun w h => (List.mem_cons_of_mem _ (List.mem_append_right _ (List.mem_append_right _ (List.mem_append_right _ (List.mem_append_right _ (List.mem_append_left _ h))))))) vg_n_offOf)
set_option maxHeartbeats 4000000 in
set_option maxRecDepth 100000 in
theorem n_layOffs (l : Launch) (dC : Nat → ClassId) (dI : Nat → Nat → Nat) (h : Nat) (ad : Nat → Nat) (cl : Nat → ClassId) (sz : Nat) (σ : MS) (x : Int32) (hI : Inv σ) (hR : RelP σ (σ.1 29).toNatClampNeg) (hC : ChR σ) (he : EndOk σ x) : Met l yX12_layOffs vs_n_layOffs rm_n_layOffs (va_Pc [.ref h, .int x] (wSt dC dI (mW h ad cl σ) (mT cl) sz)) (va_Qv (fun (τ : MS) => Inv τ ∧ eqx [37, 41, 42, 43, 44, 45, 46, 32, 47, 48, 49, 54, 55, 56, 57] τ σ) (fun (τ : MS) => wEn dC dI (va_A (mW h ad cl σ) sz) (mW h ad cl τ) []) (va_A (mW h ad cl σ) sz)) 0 0 (va_A (mW h ad cl σ) sz) := by
  refine Met.ofW (cc := cX12_layOffs) (maxL := 3) (ret := none) (by decide) rfl ?_
  intro p e s m args below meth c s₁ B hml hv
  obtain ⟨rfl, hsz, hP, hK, hD0, hE⟩ := hv
  have hx := B.exec
  have hb := B.bytes
  have hr := B.returns
  have hts := atoms_spec (ws := vs_n_layOffs) B.pre
  have hown : s.vm.findClass RX12 = some m.cls := findClass_of_methodNamed B.named
  have hlocks := B.notSynchronized
  subst hsz
  have hD := hD0.self (sz := s.heap.size)
  generalize hAe : va_A (mW h ad cl σ) s.heap.size = A at hD ⊢
  have hA : ∀ q : Nat, s.heap.size ≤ q → A q := fun q h => by rw [← hAe]; exact Or.inr h
  have hl := lv_entry ([.ref h, .int x]) (n := 3) (Nat.le_of_ble_eq_true rfl)
  rw [lg_entry_eq]
  generalize (lg_sl ([.ref h, .int x]) ++ List.replicate (3 - (lg_sl ([.ref h, .int x])).length) Slot.unset).toArray = ls at hl ⊢
  have hl : lv_has ls 3 [(0, .ref h), (1, .int x)] := hl
  have ho := fun w (h : w ∈ ow_n_layOffs) => hts w (List.mem_cons_of_mem _ (List.mem_append_left _ h))
  have hin12 : ∀ w ∈ u_ws RX12 TX12 59, w ∈ vs_n_layOffs := fun w h => (List.mem_cons_of_mem _ (List.mem_append_right _ (List.mem_append_right _ (List.mem_append_right _ (List.mem_append_right _ (List.mem_append_right _ h))))))
  refine zQ (fun Q hQ => ?_)
  have he0 := he
  unfold EndOk at he0
  have pt_2 : ∀ (n2 : Nat) (τ : MS) (kv : Int32) (H : Heap) (locs : List Loc) (ls : Array Slot), (4096 - kv.toInt).toNat < n2 → (Inv τ) → (eqx [37, 41, 42, 43, 44, 45, 46, 32, 47, 48, 49, 54, 55, 56, 57] τ σ) → (0 ≤ kv.toInt) → va_P (dC, dI) vwCl (mW h ad cl τ) H → va_D A (mW h ad cl τ) → va_S A s.heap H locs → lv_has ls 3 [(0, .ref h), (1, .int x), (2, .int kv)] → W p l e (headSpec vs_n_layOffs rm_n_layOffs).room s m #[Value.ref h, Value.int x] below meth c H locs 0 0 Q (F0 m 2 ls []) := by
    intro n2
    induction n2 with
    | zero => intro τ kv H locs ls hn2 hIτ hxτ hk0τ hP hD hS hl; exact absurd hn2 (Nat.not_lt_zero _)
    | succ n2 ih2 =>
      intro τ kv H locs ls hn2 hIτ hxτ hk0τ hP hD hS hl
      have bτ_29 : 0 ≤ (τ.1 29).toInt ∧ (τ.1 29).toInt ≤ 1 := hIτ.1 29
      have qq1_ : (τ.1 29).toInt = ((σ.1 29) : Int32).toInt := congrArg Int32.toInt (((hxτ 29 rg_571).1))
      have bτ_40 : 0 ≤ (τ.1 40).toInt ∧ (τ.1 40).toInt ≤ 12 := hIτ.1 40
      have qq2_ : (τ.1 40).toInt = ((σ.1 40) : Int32).toInt := congrArg Int32.toInt (((hxτ 40 rg_588).1))
      refine lv_iload_n hx hb dX12_layOffs_2 rfl (lv_at hl 2 rfl) ?_
      refine lv_iconst (v := 1) hx hb dX12_layOffs_3 rg_6 ?_
      refine lv_aload_n hx hb dX12_layOffs_4 rfl (lv_at hl 0 rfl) ?_
      refine va_get (D := (dC, dI)) (ci := 12) (v := .int (τ.1 40)) (C := RX12) (T := TX12) (N := 59) hx hb hts hin12 hown hK hP 0 rfl rfl 40 (Nat.le_of_ble_eq_true rfl) (ho (.fieldLink RX12 252 "NearEnoughModel" "changes" "I") (List.mem_of_getElem? (i := 0) rfl)) (fun _ h9 => h9) rfl dX12_layOffs_5 ?_
      refine zi (v := (σ.1 40)) ((hxτ 40 rg_588).1) ?_
      have bb3_ : 0 ≤ (σ.1 40).toInt ∧ (σ.1 40).toInt ≤ 12 := by have h9 := hIτ.1 40; rw [show (τ.1 40) = (σ.1 40) from ((hxτ 40 rg_588).1)] at h9; exact h9
      refine lv_ishl hx hb dX12_layOffs_8 ?_
      refine lv_topi (fun z4_ ez4_ => ?_)
      have o1 : 0 ≤ (σ.1 40).toInt := by omega
      have o2 : (σ.1 40).toInt ≤ 12 := by omega
      have bz4_ := shl_bd ez4_ o1 o2
      refine lv_icmp_ge (tgt := 43) hx hb dX12_layOffs_9 rfl (fun c5_ => ?_) (fun c5_ => ?_)
      · have tc5_ := (show z4_.toInt ≤ kv.toInt from ti_le rfl rfl c5_)
        rw [hQ]
        exact W.vret hx hb hr (fun t ht hW => ⟨⟨τ, rfl, ⟨hIτ, hxτ⟩, wEn_of hP (hK.sub [] rfl) hD ht hW⟩, hS.F ht⟩) hS.2.2 dX12_layOffs_43
      · have tc5_ := (show kv.toInt < z4_.toInt from ti_nle rfl rfl c5_)
        refine lv_aload_n hx hb dX12_layOffs_12 rfl (lv_at hl 0 rfl) ?_
        refine va_get (D := (dC, dI)) (ci := 12) (v := .ref (ad 47)) (C := RX12) (T := TX12) (N := 59) hx hb hts hin12 hown hK hP 0 rfl rfl 47 (Nat.le_of_ble_eq_true rfl) (ho (.fieldLink RX12 113 "NearEnoughModel" "offs" "[J") (List.mem_of_getElem? (i := 1) rfl)) (fun _ h9 => h9) rfl dX12_layOffs_13 ?_
        refine lv_iload_n hx hb dX12_layOffs_16 rfl (lv_at hl 2 rfl) ?_
        refine lv_aload_n hx hb dX12_layOffs_17 rfl (lv_at hl 0 rfl) ?_
        refine lv_iload_n hx hb dX12_layOffs_18 rfl (lv_at hl 2 rfl) ?_
        refine zy_i (va_runV (As := [.int kv]) (rest := [.int kv, .ref (ad 47)]) ⟨hx, hb, hml, hown, hts⟩ (n_isOpen l dC dI h ad cl H.size τ kv hIτ (RelP.x hR hxτ rg_571 rg_572) (ChR.x hC hxτ rg_571 rg_588 rg_572 rg_589 rg_590 rg_591)) (cwV 1 hts gd_n_layOffs_370_n_isOpen rfl rfl rfl dd_n_isOpen ⟨Nat.le_of_ble_eq_true rfl, Nat.le_of_ble_eq_true rfl⟩) (preV hP hK hD hE (ci := 12) (q0 := 0) rfl rfl) rfl rfl hl.1 rfl (lv_room (Nat.le_of_ble_eq_true rfl)) dX12_layOffs_19 ⟨Nat.le_of_ble_eq_true rfl, Nat.le_of_ble_eq_true rfl⟩) hD hS hA (fun z7_ τ6_ H locs hq hP hD hS => ?_)
        obtain ⟨hI8_, hx9_, f10_⟩ := hq
        have Xτ6_ : eqx [37, 41, 42, 43, 44, 45, 46, 32, 47, 48, 49, 54, 55, 56, 57] τ6_ σ := eqx.tr hx9_ hxτ rg_568
        have qq11_ : (τ6_.1 29).toInt = ((σ.1 29) : Int32).toInt := congrArg Int32.toInt ((show τ6_.1 29 = (σ.1 29) from ((hx9_ 29 rg_569).1).trans ((hxτ 29 rg_571).1)))
        have qq12_ : (τ6_.1 40).toInt = ((σ.1 40) : Int32).toInt := congrArg Int32.toInt ((show τ6_.1 40 = (σ.1 40) from ((hx9_ 40 rg_594).1).trans ((hxτ 40 rg_588).1)))
        refine W.widen (k := 0) (n := 0) (Nat.le_of_ble_eq_true rfl) (Nat.le_of_ble_eq_true rfl) ?_
        refine lv_if_eq (tgt := 33) hx hb dX12_layOffs_22 rfl (fun c13_ => ?_) (fun c13_ => ?_)
        · have tc13_ := (show z7_.toInt = 0 from ti_eq rfl rg_11 c13_)
          refine lv_ldc2 (v := (-1)) hx hb hown (ho (.constantLong RX12 373 (-1)) (List.mem_of_getElem? (i := 2) rfl)) dX12_layOffs_33 ?_
          have o3 : 0 ≤ kv.toInt := by omega
          have o4 : kv.toInt < ((4096 : Nat) : Int) := by omega
          refine va_last hx hb hK hP hD hS 33 32 rfl rfl (ti_inx o3 o4) dX12_layOffs_36 (fun H locs hP hD hS => ?_)
          rw [wS47] at hP hD
          obtain ⟨τ14_, eτ14_⟩ : ∃ x9 : MS, x9 = sJ τ6_ 47 (vp_updL (τ6_.2.2.1 47) (Int32.toNatClampNeg kv) (-1)) := ⟨_, rfl⟩
          have hP : va_P (dC, dI) vwCl (mW h ad cl τ14_) H := by rw [eτ14_]; exact hP
          have hD : va_D A (mW h ad cl τ14_) := by rw [eτ14_]; exact hD
          have hIτ14_ : Inv τ14_ := by rw [eτ14_]; exact (Inv.sJ hI8_)
          have Xτ14_ : eqx [37, 41, 42, 43, 44, 45, 46, 32, 47, 48, 49, 54, 55, 56, 57] τ14_ σ := (eqx.eq eτ14_ (eqx.sJ Xτ6_ rg_595))
          have qq15_ : (τ14_.1 29).toInt = ((σ.1 29) : Int32).toInt := congrArg Int32.toInt ((show τ14_.1 29 = (σ.1 29) from (congrArg (fun x9 : MS => x9.1 29) eτ14_).trans (show τ6_.1 29 = (σ.1 29) from ((hx9_ 29 rg_569).1).trans ((hxτ 29 rg_571).1))))
          have qq16_ : (τ14_.1 40).toInt = ((σ.1 40) : Int32).toInt := congrArg Int32.toInt ((show τ14_.1 40 = (σ.1 40) from (congrArg (fun x9 : MS => x9.1 40) eτ14_).trans (show τ6_.1 40 = (σ.1 40) from ((hx9_ 40 rg_594).1).trans ((hxτ 40 rg_588).1))))
          obtain ⟨z17_, ez17_⟩ : ∃ y : Int32, y = kv + 1 := ⟨_, rfl⟩
          have o5 : -2147483648 ≤ kv.toInt + 1 := by omega
          have o6 : kv.toInt + 1 ≤ 2147483647 := by omega
          have tz17_ := ti_add ez17_ rfl rg_18 o5 o6
          refine lv_iinc (v := z17_) (lv' := [(2, .int z17_), (0, .ref h), (1, .int x)]) hx hb dX12_layOffs_37 hl (k := 2) rfl (iincp ez17_ rg_6) (Nat.le_of_ble_eq_true rfl) rfl (fun ls hl => ?_)
          refine lv_goto (tgt := 2) hx hb dX12_layOffs_40 rfl ?_
          have o7 : (4096 - z17_.toInt).toNat < n2 := by omega
          have o8 : 0 ≤ z17_.toInt := by omega
          exact ih2 τ14_ z17_ _ _ _ (show (4096 - z17_.toInt).toNat < n2 from o7) hIτ14_ Xτ14_ (show 0 ≤ z17_.toInt from o8) hP hD hS (lv_sub hl [1, 2, 0] rfl)
        · have tc13_ := (show z7_.toInt ≠ 0 from ti_ne rfl rg_11 c13_)
          refine lv_aload_n hx hb dX12_layOffs_25 rfl (lv_at hl 0 rfl) ?_
          refine lv_iload_n hx hb dX12_layOffs_26 rfl (lv_at hl 1 rfl) ?_
          refine zy_l (va_runV (As := [.int x]) (rest := [.int kv, .ref (ad 47)]) ⟨hx, hb, hml, hown, hts⟩ (n_offOf l dC dI h ad cl H.size τ6_ x hI8_ (RelP.x hR Xτ6_ rg_571 rg_572) (EndOk.x he Xτ6_ rg_571 rg_577)) (cwV 1 hts gd_n_layOffs_434_n_offOf rfl rfl rfl dd_n_offOf ⟨Nat.le_of_ble_eq_true rfl, Nat.le_of_ble_eq_true rfl⟩) (preV hP hK hD hE (ci := 12) (q0 := 0) rfl rfl) rfl rfl hl.1 rfl (lv_room (Nat.le_of_ble_eq_true rfl)) dX12_layOffs_27 ⟨Nat.le_of_ble_eq_true rfl, Nat.le_of_ble_eq_true rfl⟩) hD hS hA (fun y19_ τ18_ H locs hq hP hD hS => ?_)
          obtain rfl := hq
          refine W.widen (k := 0) (n := 0) (Nat.le_of_ble_eq_true rfl) (Nat.le_of_ble_eq_true rfl) ?_
          refine lv_goto (tgt := 36) hx hb dX12_layOffs_30 rfl ?_
          have o9 : 0 ≤ kv.toInt := by omega
          have o10 : kv.toInt < ((4096 : Nat) : Int) := by omega
          refine va_last hx hb hK hP hD hS 33 32 rfl rfl (ti_inx o9 o10) dX12_layOffs_36 (fun H locs hP hD hS => ?_)
          rw [wS47] at hP hD
          obtain ⟨τ20_, eτ20_⟩ : ∃ x9 : MS, x9 = sJ τ6_ 47 (vp_updL (τ6_.2.2.1 47) (Int32.toNatClampNeg kv) y19_) := ⟨_, rfl⟩
          have hP : va_P (dC, dI) vwCl (mW h ad cl τ20_) H := by rw [eτ20_]; exact hP
          have hD : va_D A (mW h ad cl τ20_) := by rw [eτ20_]; exact hD
          have hIτ20_ : Inv τ20_ := by rw [eτ20_]; exact (Inv.sJ hI8_)
          have Xτ20_ : eqx [37, 41, 42, 43, 44, 45, 46, 32, 47, 48, 49, 54, 55, 56, 57] τ20_ σ := (eqx.eq eτ20_ (eqx.sJ Xτ6_ rg_595))
          have qq21_ : (τ20_.1 29).toInt = ((σ.1 29) : Int32).toInt := congrArg Int32.toInt ((show τ20_.1 29 = (σ.1 29) from (congrArg (fun x9 : MS => x9.1 29) eτ20_).trans (show τ6_.1 29 = (σ.1 29) from ((hx9_ 29 rg_569).1).trans ((hxτ 29 rg_571).1))))
          have qq22_ : (τ20_.1 40).toInt = ((σ.1 40) : Int32).toInt := congrArg Int32.toInt ((show τ20_.1 40 = (σ.1 40) from (congrArg (fun x9 : MS => x9.1 40) eτ20_).trans (show τ6_.1 40 = (σ.1 40) from ((hx9_ 40 rg_594).1).trans ((hxτ 40 rg_588).1))))
          obtain ⟨z23_, ez23_⟩ : ∃ y : Int32, y = kv + 1 := ⟨_, rfl⟩
          have o11 : -2147483648 ≤ kv.toInt + 1 := by omega
          have o12 : kv.toInt + 1 ≤ 2147483647 := by omega
          have tz23_ := ti_add ez23_ rfl rg_18 o11 o12
          refine lv_iinc (v := z23_) (lv' := [(2, .int z23_), (0, .ref h), (1, .int x)]) hx hb dX12_layOffs_37 hl (k := 2) rfl (iincp ez23_ rg_6) (Nat.le_of_ble_eq_true rfl) rfl (fun ls hl => ?_)
          refine lv_goto (tgt := 2) hx hb dX12_layOffs_40 rfl ?_
          have o13 : (4096 - z23_.toInt).toNat < n2 := by omega
          have o14 : 0 ≤ z23_.toInt := by omega
          exact ih2 τ20_ z23_ _ _ _ (show (4096 - z23_.toInt).toNat < n2 from o13) hIτ20_ Xτ20_ (show 0 ≤ z23_.toInt from o14) hP hD hS (lv_sub hl [1, 2, 0] rfl)
  refine zH (A := A) (ws := mW h ad cl σ) (fun H hP hS => ?_) hP
  have bσ_29 : 0 ≤ (σ.1 29).toInt ∧ (σ.1 29).toInt ≤ 1 := hI.1 29
  have bσ_40 : 0 ≤ (σ.1 40).toInt ∧ (σ.1 40).toInt ≤ 12 := hI.1 40
  refine lv_iconst (v := 0) hx hb dX12_layOffs_0 rg_0 ?_
  refine lv_istore_n (lv' := [(2, .int 0), (0, .ref h), (1, .int x)]) hx hb dX12_layOffs_1 rfl hl (Nat.le_of_ble_eq_true rfl) rfl (fun ls hl => ?_)
  exact pt_2 _ σ 0 _ _ _ (Nat.lt_succ_self _) hI eqx.rf rg_56 hP hD hS (lv_sub hl [1, 2, 0] rfl)
def ow_n_nextPair : List Cond := [.fieldLink RX12 252 "NearEnoughModel" "changes" "I", .fieldLink RX12 456 "NearEnoughModel" "pairSaved" "I", .fieldLink RX12 113 "NearEnoughModel" "offs" "[J", .fieldLink RX12 459 "NearEnoughModel" "pairOff" "J"]
def vs_n_nextPair : List Cond := .code yX12_nextPair cX12_nextPair 4 (some .boolean) :: (ow_n_nextPair ++ (([.methodLink RX12 447 yX12_savedBy, .instanceMethod yX12_savedBy, .selects RX12 yX12_savedBy yX12_savedBy, .initialized RX12] : List Cond) ++ (vs_n_savedBy ++ (wsX120))))
theorem vg_n_nextPair : vs_n_nextPair.all goodWord = true := by decide +kernel
theorem dd_n_nextPair : yX12_nextPair.cls = RX12 ∧ yX12_nextPair.cls ≠ "java/lang/invoke/MethodHandle" ∧ yX12_nextPair.cls ≠ "java/lang/invoke/VarHandle" ∧ (parseMethodDescriptor yX12_nextPair.desc).map (fun d => d.parameters.length) = some 1 := by decide +kernel
def rm_n_nextPair : Room := { frames := 1, cells := 0, slots := 0, locals := 23 }
theorem gd_n_nextPair_447_n_savedBy : GoodIn vs_n_nextPair (wsV RX12 447 RX12 yX12_savedBy vs_n_savedBy) := goodIn_app (goodIn_sub (fun w h => (List.mem_cons_of_mem _ (List.mem_append_right _ (List.mem_append_left _ h)))) (by decide +kernel)) (goodIn_sub (fun w h => (List.mem_cons_of_mem _ (List.mem_append_right _ (List.mem_append_right _ (List.mem_append_left _ h))))) vg_n_savedBy)
set_option maxHeartbeats 4000000 in
set_option maxRecDepth 100000 in
theorem n_nextPair (l : Launch) (dC : Nat → ClassId) (dI : Nat → Nat → Nat) (h : Nat) (ad : Nat → Nat) (cl : Nat → ClassId) (sz : Nat) (σ : MS) (x : Int32) (hI : Inv σ) : Met l yX12_nextPair vs_n_nextPair rm_n_nextPair (va_Pc [.ref h, .int x] (wSt dC dI (mW h ad cl σ) (mT cl) sz)) (va_Qi (fun (r : Int32) (τ : MS) => Inv τ ∧ eqx [48, 49] τ σ ∧ (r.toInt = 0 ∨ x.toInt < (τ.1 49).toInt)) (fun (τ : MS) => wEn dC dI (va_A (mW h ad cl σ) sz) (mW h ad cl τ) []) (va_A (mW h ad cl σ) sz)) 0 0 (va_A (mW h ad cl σ) sz) := by
  refine Met.ofW (cc := cX12_nextPair) (maxL := 4) (ret := (some .boolean)) (by decide) rfl ?_
  intro p e s m args below meth c s₁ B hml hv
  obtain ⟨rfl, hsz, hP, hK, hD0, hE⟩ := hv
  have hx := B.exec
  have hb := B.bytes
  have hr := B.returns
  have hts := atoms_spec (ws := vs_n_nextPair) B.pre
  have hown : s.vm.findClass RX12 = some m.cls := findClass_of_methodNamed B.named
  have hlocks := B.notSynchronized
  subst hsz
  have hD := hD0.self (sz := s.heap.size)
  generalize hAe : va_A (mW h ad cl σ) s.heap.size = A at hD ⊢
  have hA : ∀ q : Nat, s.heap.size ≤ q → A q := fun q h => by rw [← hAe]; exact Or.inr h
  have hl := lv_entry ([.ref h, .int x]) (n := 4) (Nat.le_of_ble_eq_true rfl)
  rw [lg_entry_eq]
  generalize (lg_sl ([.ref h, .int x]) ++ List.replicate (4 - (lg_sl ([.ref h, .int x])).length) Slot.unset).toArray = ls at hl ⊢
  have hl : lv_has ls 4 [(0, .ref h), (1, .int x)] := hl
  have ho := fun w (h : w ∈ ow_n_nextPair) => hts w (List.mem_cons_of_mem _ (List.mem_append_left _ h))
  have hin12 : ∀ w ∈ u_ws RX12 TX12 59, w ∈ vs_n_nextPair := fun w h => (List.mem_cons_of_mem _ (List.mem_append_right _ (List.mem_append_right _ (List.mem_append_right _ h))))
  refine zQ (fun Q hQ => ?_)
  have pt_7 : ∀ (n7 : Nat) (τ : MS) (kv : Int32) (H : Heap) (locs : List Loc) (ls : Array Slot), (4096 - kv.toInt).toNat < n7 → (Inv τ) → (eqx [48, 49] τ σ) → (0 ≤ kv.toInt) → ((τ.1 49).toInt = -1 ∨ x.toInt < (τ.1 49).toInt) → va_P (dC, dI) vwCl (mW h ad cl τ) H → va_D A (mW h ad cl τ) → va_S A s.heap H locs → lv_has ls 4 [(0, .ref h), (1, .int x), (2, .int kv)] → W p l e (headSpec vs_n_nextPair rm_n_nextPair).room s m #[Value.ref h, Value.int x] below meth c H locs 0 0 Q (F0 m 7 ls []) := by
    intro n7
    induction n7 with
    | zero => intro τ kv H locs ls hn7 hIτ hxτ hk0τ hps hP hD hS hl; exact absurd hn7 (Nat.not_lt_zero _)
    | succ n7 ih7 =>
      intro τ kv H locs ls hn7 hIτ hxτ hk0τ hps hP hD hS hl
      have bτ_40 : 0 ≤ (τ.1 40).toInt ∧ (τ.1 40).toInt ≤ 12 := hIτ.1 40
      have qq1_ : (τ.1 40).toInt = ((σ.1 40) : Int32).toInt := congrArg Int32.toInt (((hxτ 40 rg_596).1))
      refine lv_iload_n hx hb dX12_nextPair_7 rfl (lv_at hl 2 rfl) ?_
      refine lv_iconst (v := 1) hx hb dX12_nextPair_8 rg_6 ?_
      refine lv_aload_n hx hb dX12_nextPair_9 rfl (lv_at hl 0 rfl) ?_
      refine va_get (D := (dC, dI)) (ci := 12) (v := .int (τ.1 40)) (C := RX12) (T := TX12) (N := 59) hx hb hts hin12 hown hK hP 0 rfl rfl 40 (Nat.le_of_ble_eq_true rfl) (ho (.fieldLink RX12 252 "NearEnoughModel" "changes" "I") (List.mem_of_getElem? (i := 0) rfl)) (fun _ h9 => h9) rfl dX12_nextPair_10 ?_
      refine zi (v := (σ.1 40)) ((hxτ 40 rg_596).1) ?_
      have bb2_ : 0 ≤ (σ.1 40).toInt ∧ (σ.1 40).toInt ≤ 12 := by have h9 := hIτ.1 40; rw [show (τ.1 40) = (σ.1 40) from ((hxτ 40 rg_596).1)] at h9; exact h9
      refine lv_ishl hx hb dX12_nextPair_13 ?_
      refine lv_topi (fun z3_ ez3_ => ?_)
      have o1 : 0 ≤ (σ.1 40).toInt := by omega
      have o2 : (σ.1 40).toInt ≤ 12 := by omega
      have bz3_ := shl_bd ez3_ o1 o2
      refine lv_icmp_ge (tgt := 106) hx hb dX12_nextPair_14 rfl (fun c4_ => ?_) (fun c4_ => ?_)
      · have tc4_ := (show z3_.toInt ≤ kv.toInt from ti_le rfl rfl c4_)
        refine lv_aload_n hx hb dX12_nextPair_106 rfl (lv_at hl 0 rfl) ?_
        refine va_get (D := (dC, dI)) (ci := 12) (v := .int (τ.1 49)) (C := RX12) (T := TX12) (N := 59) hx hb hts hin12 hown hK hP 0 rfl rfl 49 (Nat.le_of_ble_eq_true rfl) (ho (.fieldLink RX12 456 "NearEnoughModel" "pairSaved" "I") (List.mem_of_getElem? (i := 1) rfl)) (fun _ h9 => h9) rfl dX12_nextPair_107 ?_
        refine lv_if_lt (tgt := 117) hx hb dX12_nextPair_110 rfl (fun c5_ => ?_) (fun c5_ => ?_)
        · have tc5_ := (show (τ.1 49).toInt < 0 from ti_lt rfl rg_11 c5_)
          refine lv_iconst (v := 0) hx hb dX12_nextPair_117 rg_0 ?_
          rw [hQ]
          exact W.zret (v := 0) hx hb hr rfl (fun t ht hW => ⟨⟨0, τ, rfl, ⟨hIτ, hxτ, Or.inl rg_11⟩, wEn_of hP (hK.sub [] rfl) hD ht hW⟩, hS.F ht⟩) hS.2.2 dX12_nextPair_118
        · have tc5_ := (show 0 ≤ (τ.1 49).toInt from ti_nlt rfl rg_11 c5_)
          refine lv_iconst (v := 1) hx hb dX12_nextPair_113 rg_6 ?_
          refine lv_goto (tgt := 118) hx hb dX12_nextPair_114 rfl ?_
          rw [hQ]
          have o3 : 0 ≤ (τ.1 49).toInt := by omega
          have o4 : x.toInt < (τ.1 49).toInt := by omega
          exact W.zret (v := 1) hx hb hr rfl (fun t ht hW => ⟨⟨1, τ, rfl, ⟨hIτ, hxτ, (Or.inr o4)⟩, wEn_of hP (hK.sub [] rfl) hD ht hW⟩, hS.F ht⟩) hS.2.2 dX12_nextPair_118
      · have tc4_ := (show kv.toInt < z3_.toInt from ti_nle rfl rfl c4_)
        refine lv_aload_n hx hb dX12_nextPair_17 rfl (lv_at hl 0 rfl) ?_
        refine lv_iload_n hx hb dX12_nextPair_18 rfl (lv_at hl 2 rfl) ?_
        refine zy_i (va_runV (As := [.int kv]) (rest := []) ⟨hx, hb, hml, hown, hts⟩ (n_savedBy l dC dI h ad cl H.size τ kv hIτ) (cwV 1 hts gd_n_nextPair_447_n_savedBy rfl rfl rfl dd_n_savedBy ⟨Nat.le_of_ble_eq_true rfl, Nat.le_of_ble_eq_true rfl⟩) (preV hP hK hD hE (ci := 12) (q0 := 0) rfl rfl) rfl rfl hl.1 rfl (lv_room (Nat.le_of_ble_eq_true rfl)) dX12_nextPair_19 ⟨Nat.le_of_ble_eq_true rfl, Nat.le_of_ble_eq_true rfl⟩) hD hS hA (fun z7_ τ6_ H locs hq hP hD hS => ?_)
        obtain rfl := hq
        refine W.widen (k := 0) (n := 0) (Nat.le_of_ble_eq_true rfl) (Nat.le_of_ble_eq_true rfl) ?_
        refine lv_istore_n (lv' := [(3, .int z7_), (0, .ref h), (1, .int x), (2, .int kv)]) hx hb dX12_nextPair_22 rfl hl (Nat.le_of_ble_eq_true rfl) rfl (fun ls hl => ?_)
        refine lv_aload_n hx hb dX12_nextPair_23 rfl (lv_at hl 1 rfl) ?_
        refine va_get (D := (dC, dI)) (ci := 12) (v := .ref (ad 47)) (C := RX12) (T := TX12) (N := 59) hx hb hts hin12 hown hK hP 0 rfl rfl 47 (Nat.le_of_ble_eq_true rfl) (ho (.fieldLink RX12 113 "NearEnoughModel" "offs" "[J") (List.mem_of_getElem? (i := 2) rfl)) (fun _ h9 => h9) rfl dX12_nextPair_24 ?_
        refine lv_iload_n hx hb dX12_nextPair_27 rfl (lv_at hl 3 rfl) ?_
        have o5 : 0 ≤ kv.toInt := by omega
        have o6 : kv.toInt < ((4096 : Nat) : Int) := by omega
        refine va_lald hx hb hK hP 33 32 rfl rfl (ti_inx o5 o6) dX12_nextPair_28 ?_
        refine lv_topl (fun y8_ ey8_ => ?_)
        refine lv_lconst (v := 0) hx hb dX12_nextPair_29 (by decide) ?_
        refine W.lcmp hx hb dX12_nextPair_30 ?_
        refine lv_topi (fun z9_ ez9_ => ?_)
        refine lv_if_lt (tgt := 100) hx hb dX12_nextPair_31 rfl (fun c10_ => ?_) (fun c10_ => ?_)
        · have tc10_ := (show z9_.toInt < 0 from ti_lt rfl rg_11 c10_)
          have lc10_ : y8_ < 0 := (lg_cmp_lt y8_ 0).mp (by rw [← ez9_]; exact c10_)
          obtain ⟨z11_, ez11_⟩ : ∃ y : Int32, y = kv + 1 := ⟨_, rfl⟩
          have o7 : -2147483648 ≤ kv.toInt + 1 := by omega
          have o8 : kv.toInt + 1 ≤ 2147483647 := by omega
          have tz11_ := ti_add ez11_ rfl rg_18 o7 o8
          refine lv_iinc (v := z11_) (lv' := [(2, .int z11_), (3, .int z7_), (0, .ref h), (1, .int x)]) hx hb dX12_nextPair_100 hl (k := 3) rfl (iincp ez11_ rg_6) (Nat.le_of_ble_eq_true rfl) rfl (fun ls hl => ?_)
          refine lv_goto (tgt := 7) hx hb dX12_nextPair_103 rfl ?_
          have o9 : (4096 - z11_.toInt).toNat < n7 := by omega
          have o10 : 0 ≤ z11_.toInt := by omega
          exact ih7 τ z11_ _ _ _ (show (4096 - z11_.toInt).toNat < n7 from o9) hIτ hxτ (show 0 ≤ z11_.toInt from o10) hps hP hD hS (lv_sub hl [2, 3, 0] rfl)
        · have tc10_ := (show 0 ≤ z9_.toInt from ti_nlt rfl rg_11 c10_)
          have lc10_ : ¬ y8_ < 0 := fun h => c10_ (by rw [ez9_]; exact (lg_cmp_lt y8_ 0).mpr h)
          refine lv_iload_n hx hb dX12_nextPair_34 rfl (lv_at hl 0 rfl) ?_
          refine lv_iload_n hx hb dX12_nextPair_35 rfl (lv_at hl 2 rfl) ?_
          refine lv_icmp_le (tgt := 100) hx hb dX12_nextPair_36 rfl (fun c12_ => ?_) (fun c12_ => ?_)
          · have tc12_ := (show z7_.toInt ≤ x.toInt from ti_le rfl rfl c12_)
            obtain ⟨z13_, ez13_⟩ : ∃ y : Int32, y = kv + 1 := ⟨_, rfl⟩
            have o11 : -2147483648 ≤ kv.toInt + 1 := by omega
            have o12 : kv.toInt + 1 ≤ 2147483647 := by omega
            have tz13_ := ti_add ez13_ rfl rg_18 o11 o12
            refine lv_iinc (v := z13_) (lv' := [(2, .int z13_), (3, .int z7_), (0, .ref h), (1, .int x)]) hx hb dX12_nextPair_100 hl (k := 3) rfl (iincp ez13_ rg_6) (Nat.le_of_ble_eq_true rfl) rfl (fun ls hl => ?_)
            refine lv_goto (tgt := 7) hx hb dX12_nextPair_103 rfl ?_
            have o13 : (4096 - z13_.toInt).toNat < n7 := by omega
            have o14 : 0 ≤ z13_.toInt := by omega
            exact ih7 τ z13_ _ _ _ (show (4096 - z13_.toInt).toNat < n7 from o13) hIτ hxτ (show 0 ≤ z13_.toInt from o14) hps hP hD hS (lv_sub hl [2, 3, 0] rfl)
          · have tc12_ := (show x.toInt < z7_.toInt from ti_nle rfl rfl c12_)
            refine lv_aload_n hx hb dX12_nextPair_39 rfl (lv_at hl 1 rfl) ?_
            refine va_get (D := (dC, dI)) (ci := 12) (v := .int (τ.1 49)) (C := RX12) (T := TX12) (N := 59) hx hb hts hin12 hown hK hP 0 rfl rfl 49 (Nat.le_of_ble_eq_true rfl) (ho (.fieldLink RX12 456 "NearEnoughModel" "pairSaved" "I") (List.mem_of_getElem? (i := 1) rfl)) (fun _ h9 => h9) rfl dX12_nextPair_40 ?_
            refine lv_if_lt (tgt := 85) hx hb dX12_nextPair_43 rfl (fun c14_ => ?_) (fun c14_ => ?_)
            · have tc14_ := (show (τ.1 49).toInt < 0 from ti_lt rfl rg_11 c14_)
              refine lv_aload_n hx hb dX12_nextPair_85 rfl (lv_at hl 1 rfl) ?_
              refine lv_aload_n hx hb dX12_nextPair_86 rfl (lv_at hl 1 rfl) ?_
              refine va_get (D := (dC, dI)) (ci := 12) (v := .ref (ad 47)) (C := RX12) (T := TX12) (N := 59) hx hb hts hin12 hown hK hP 0 rfl rfl 47 (Nat.le_of_ble_eq_true rfl) (ho (.fieldLink RX12 113 "NearEnoughModel" "offs" "[J") (List.mem_of_getElem? (i := 2) rfl)) (fun _ h9 => h9) rfl dX12_nextPair_87 ?_
              refine lv_iload_n hx hb dX12_nextPair_90 rfl (lv_at hl 3 rfl) ?_
              refine va_lald hx hb hK hP 33 32 rfl rfl (ti_inx o5 o6) dX12_nextPair_91 ?_
              refine lv_topl (fun y15_ ey15_ => ?_)
              refine va_put (D := (dC, dI)) (ci := 12) (v := .long y15_) (ty := tyX12 48) (C := RX12) (T := TX12) (N := 59) hx hb hts hin12 tyX12 tyX12_ok nmX12 hown hK hP hD hS 0 rfl rfl 48 (Nat.le_of_ble_eq_true rfl) (ho (.fieldLink RX12 459 "NearEnoughModel" "pairOff" "J") (List.mem_of_getElem? (i := 3) rfl)) (fun _ h9 => h9) rfl (tyX12_ok 48 (Nat.le_of_ble_eq_true rfl)) rfl rfl (Nat.le_of_ble_eq_true rfl) dX12_nextPair_92 (fun H locs hP hD hS => ?_)
              have hP : va_P (dC, dI) vwCl (mW h ad cl (sL τ 48 y15_)) H := hP
              have hD : va_D A (mW h ad cl (sL τ 48 y15_)) := hD
              refine lv_aload_n hx hb dX12_nextPair_95 rfl (lv_at hl 1 rfl) ?_
              refine lv_iload_n hx hb dX12_nextPair_96 rfl (lv_at hl 0 rfl) ?_
              refine va_put (D := (dC, dI)) (ci := 12) (v := .int z7_) (ty := tyX12 49) (C := RX12) (T := TX12) (N := 59) hx hb hts hin12 tyX12 tyX12_ok nmX12 hown hK hP hD hS 0 rfl rfl 49 (Nat.le_of_ble_eq_true rfl) (ho (.fieldLink RX12 456 "NearEnoughModel" "pairSaved" "I") (List.mem_of_getElem? (i := 1) rfl)) (fun _ h9 => h9) rfl (tyX12_ok 49 (Nat.le_of_ble_eq_true rfl)) rfl rfl (Nat.le_of_ble_eq_true rfl) dX12_nextPair_97 (fun H locs hP hD hS => ?_)
              have hP : va_P (dC, dI) vwCl (mW h ad cl (sL (sI τ 49 z7_) 48 y15_)) H := hP
              have hD : va_D A (mW h ad cl (sL (sI τ 49 z7_) 48 y15_)) := hD
              obtain ⟨z16_, ez16_⟩ : ∃ y : Int32, y = kv + 1 := ⟨_, rfl⟩
              have o15 : -2147483648 ≤ kv.toInt + 1 := by omega
              have o16 : kv.toInt + 1 ≤ 2147483647 := by omega
              have tz16_ := ti_add ez16_ rfl rg_18 o15 o16
              refine lv_iinc (v := z16_) (lv' := [(2, .int z16_), (3, .int z7_), (0, .ref h), (1, .int x)]) hx hb dX12_nextPair_100 hl (k := 3) rfl (iincp ez16_ rg_6) (Nat.le_of_ble_eq_true rfl) rfl (fun ls hl => ?_)
              refine lv_goto (tgt := 7) hx hb dX12_nextPair_103 rfl ?_
              have o17 : x.toInt < z7_.toInt := by omega
              have o18 : (4096 - z16_.toInt).toNat < n7 := by omega
              have o19 : 0 ≤ z16_.toInt := by omega
              exact ih7 (sL (sI τ 49 z7_) 48 y15_) z16_ _ _ _ (show (4096 - z16_.toInt).toNat < n7 from o18) (Inv.sL (Inv.sI (k := 49) (v := z7_) hIτ (Inv.any z7_))) (eqx.sL (eqx.sI hxτ rg_597) rg_598) (show 0 ≤ z16_.toInt from o19) (Or.inr o17) hP hD hS (lv_sub hl [2, 3, 0] rfl)
            · have tc14_ := (show 0 ≤ (τ.1 49).toInt from ti_nlt rfl rg_11 c14_)
              refine lv_aload_n hx hb dX12_nextPair_46 rfl (lv_at hl 1 rfl) ?_
              refine va_get (D := (dC, dI)) (ci := 12) (v := .ref (ad 47)) (C := RX12) (T := TX12) (N := 59) hx hb hts hin12 hown hK hP 0 rfl rfl 47 (Nat.le_of_ble_eq_true rfl) (ho (.fieldLink RX12 113 "NearEnoughModel" "offs" "[J") (List.mem_of_getElem? (i := 2) rfl)) (fun _ h9 => h9) rfl dX12_nextPair_47 ?_
              refine lv_iload_n hx hb dX12_nextPair_50 rfl (lv_at hl 3 rfl) ?_
              refine va_lald hx hb hK hP 33 32 rfl rfl (ti_inx o5 o6) dX12_nextPair_51 ?_
              refine lv_topl (fun y17_ ey17_ => ?_)
              refine lv_aload_n hx hb dX12_nextPair_52 rfl (lv_at hl 1 rfl) ?_
              refine va_get (D := (dC, dI)) (ci := 12) (v := .long (τ.2.2.2 48)) (C := RX12) (T := TX12) (N := 59) hx hb hts hin12 hown hK hP 0 rfl rfl 48 (Nat.le_of_ble_eq_true rfl) (ho (.fieldLink RX12 459 "NearEnoughModel" "pairOff" "J") (List.mem_of_getElem? (i := 3) rfl)) (fun _ h9 => h9) rfl dX12_nextPair_53 ?_
              refine W.lcmp hx hb dX12_nextPair_56 ?_
              refine lv_topi (fun z18_ ez18_ => ?_)
              refine lv_if_gt (tgt := 100) hx hb dX12_nextPair_57 rfl (fun c19_ => ?_) (fun c19_ => ?_)
              · have tc19_ := (show 0 < z18_.toInt from ti_lt rg_11 rfl c19_)
                have lc19_ : (τ.2.2.2 48) < y17_ := (lg_cmp_gt y17_ (τ.2.2.2 48)).mp (by rw [← ez18_]; exact c19_)
                obtain ⟨z20_, ez20_⟩ : ∃ y : Int32, y = kv + 1 := ⟨_, rfl⟩
                have o20 : -2147483648 ≤ kv.toInt + 1 := by omega
                have o21 : kv.toInt + 1 ≤ 2147483647 := by omega
                have tz20_ := ti_add ez20_ rfl rg_18 o20 o21
                refine lv_iinc (v := z20_) (lv' := [(2, .int z20_), (3, .int z7_), (0, .ref h), (1, .int x)]) hx hb dX12_nextPair_100 hl (k := 3) rfl (iincp ez20_ rg_6) (Nat.le_of_ble_eq_true rfl) rfl (fun ls hl => ?_)
                refine lv_goto (tgt := 7) hx hb dX12_nextPair_103 rfl ?_
                have o22 : (4096 - z20_.toInt).toNat < n7 := by omega
                have o23 : 0 ≤ z20_.toInt := by omega
                exact ih7 τ z20_ _ _ _ (show (4096 - z20_.toInt).toNat < n7 from o22) hIτ hxτ (show 0 ≤ z20_.toInt from o23) hps hP hD hS (lv_sub hl [2, 3, 0] rfl)
              · have tc19_ := (show z18_.toInt ≤ 0 from ti_nlt rg_11 rfl c19_)
                have lc19_ : ¬ (τ.2.2.2 48) < y17_ := fun h => c19_ (by rw [ez18_]; exact (lg_cmp_gt y17_ (τ.2.2.2 48)).mpr h)
                refine lv_aload_n hx hb dX12_nextPair_60 rfl (lv_at hl 1 rfl) ?_
                refine va_get (D := (dC, dI)) (ci := 12) (v := .ref (ad 47)) (C := RX12) (T := TX12) (N := 59) hx hb hts hin12 hown hK hP 0 rfl rfl 47 (Nat.le_of_ble_eq_true rfl) (ho (.fieldLink RX12 113 "NearEnoughModel" "offs" "[J") (List.mem_of_getElem? (i := 2) rfl)) (fun _ h9 => h9) rfl dX12_nextPair_61 ?_
                refine lv_iload_n hx hb dX12_nextPair_64 rfl (lv_at hl 3 rfl) ?_
                refine va_lald hx hb hK hP 33 32 rfl rfl (ti_inx o5 o6) dX12_nextPair_65 ?_
                refine lv_topl (fun y21_ ey21_ => ?_)
                refine lv_aload_n hx hb dX12_nextPair_66 rfl (lv_at hl 1 rfl) ?_
                refine va_get (D := (dC, dI)) (ci := 12) (v := .long (τ.2.2.2 48)) (C := RX12) (T := TX12) (N := 59) hx hb hts hin12 hown hK hP 0 rfl rfl 48 (Nat.le_of_ble_eq_true rfl) (ho (.fieldLink RX12 459 "NearEnoughModel" "pairOff" "J") (List.mem_of_getElem? (i := 3) rfl)) (fun _ h9 => h9) rfl dX12_nextPair_67 ?_
                refine W.lcmp hx hb dX12_nextPair_70 ?_
                refine lv_topi (fun z22_ ez22_ => ?_)
                refine lv_if_ne (tgt := 85) hx hb dX12_nextPair_71 rfl (fun c23_ => ?_) (fun c23_ => ?_)
                · have tc23_ := (show z22_.toInt ≠ 0 from ti_ne rfl rg_11 c23_)
                  have lc23_ : ¬ y21_ = (τ.2.2.2 48) := fun h => c23_ (by rw [ez22_]; exact (lg_cmp_eq y21_ (τ.2.2.2 48)).mpr h)
                  refine lv_aload_n hx hb dX12_nextPair_85 rfl (lv_at hl 1 rfl) ?_
                  refine lv_aload_n hx hb dX12_nextPair_86 rfl (lv_at hl 1 rfl) ?_
                  refine va_get (D := (dC, dI)) (ci := 12) (v := .ref (ad 47)) (C := RX12) (T := TX12) (N := 59) hx hb hts hin12 hown hK hP 0 rfl rfl 47 (Nat.le_of_ble_eq_true rfl) (ho (.fieldLink RX12 113 "NearEnoughModel" "offs" "[J") (List.mem_of_getElem? (i := 2) rfl)) (fun _ h9 => h9) rfl dX12_nextPair_87 ?_
                  refine lv_iload_n hx hb dX12_nextPair_90 rfl (lv_at hl 3 rfl) ?_
                  refine va_lald hx hb hK hP 33 32 rfl rfl (ti_inx o5 o6) dX12_nextPair_91 ?_
                  refine lv_topl (fun y24_ ey24_ => ?_)
                  refine va_put (D := (dC, dI)) (ci := 12) (v := .long y24_) (ty := tyX12 48) (C := RX12) (T := TX12) (N := 59) hx hb hts hin12 tyX12 tyX12_ok nmX12 hown hK hP hD hS 0 rfl rfl 48 (Nat.le_of_ble_eq_true rfl) (ho (.fieldLink RX12 459 "NearEnoughModel" "pairOff" "J") (List.mem_of_getElem? (i := 3) rfl)) (fun _ h9 => h9) rfl (tyX12_ok 48 (Nat.le_of_ble_eq_true rfl)) rfl rfl (Nat.le_of_ble_eq_true rfl) dX12_nextPair_92 (fun H locs hP hD hS => ?_)
                  have hP : va_P (dC, dI) vwCl (mW h ad cl (sL τ 48 y24_)) H := hP
                  have hD : va_D A (mW h ad cl (sL τ 48 y24_)) := hD
                  refine lv_aload_n hx hb dX12_nextPair_95 rfl (lv_at hl 1 rfl) ?_
                  refine lv_iload_n hx hb dX12_nextPair_96 rfl (lv_at hl 0 rfl) ?_
                  refine va_put (D := (dC, dI)) (ci := 12) (v := .int z7_) (ty := tyX12 49) (C := RX12) (T := TX12) (N := 59) hx hb hts hin12 tyX12 tyX12_ok nmX12 hown hK hP hD hS 0 rfl rfl 49 (Nat.le_of_ble_eq_true rfl) (ho (.fieldLink RX12 456 "NearEnoughModel" "pairSaved" "I") (List.mem_of_getElem? (i := 1) rfl)) (fun _ h9 => h9) rfl (tyX12_ok 49 (Nat.le_of_ble_eq_true rfl)) rfl rfl (Nat.le_of_ble_eq_true rfl) dX12_nextPair_97 (fun H locs hP hD hS => ?_)
                  have hP : va_P (dC, dI) vwCl (mW h ad cl (sL (sI τ 49 z7_) 48 y24_)) H := hP
                  have hD : va_D A (mW h ad cl (sL (sI τ 49 z7_) 48 y24_)) := hD
                  obtain ⟨z25_, ez25_⟩ : ∃ y : Int32, y = kv + 1 := ⟨_, rfl⟩
                  have o24 : -2147483648 ≤ kv.toInt + 1 := by omega
                  have o25 : kv.toInt + 1 ≤ 2147483647 := by omega
                  have tz25_ := ti_add ez25_ rfl rg_18 o24 o25
                  refine lv_iinc (v := z25_) (lv' := [(2, .int z25_), (3, .int z7_), (0, .ref h), (1, .int x)]) hx hb dX12_nextPair_100 hl (k := 3) rfl (iincp ez25_ rg_6) (Nat.le_of_ble_eq_true rfl) rfl (fun ls hl => ?_)
                  refine lv_goto (tgt := 7) hx hb dX12_nextPair_103 rfl ?_
                  have o26 : x.toInt < z7_.toInt := by omega
                  have o27 : (4096 - z25_.toInt).toNat < n7 := by omega
                  have o28 : 0 ≤ z25_.toInt := by omega
                  exact ih7 (sL (sI τ 49 z7_) 48 y24_) z25_ _ _ _ (show (4096 - z25_.toInt).toNat < n7 from o27) (Inv.sL (Inv.sI (k := 49) (v := z7_) hIτ (Inv.any z7_))) (eqx.sL (eqx.sI hxτ rg_597) rg_598) (show 0 ≤ z25_.toInt from o28) (Or.inr o26) hP hD hS (lv_sub hl [2, 3, 0] rfl)
                · have tc23_ := (show z22_.toInt = 0 from ti_eq rfl rg_11 c23_)
                  have lc23_ : y21_ = (τ.2.2.2 48) := (lg_cmp_eq y21_ (τ.2.2.2 48)).mp (by rw [← ez22_]; exact c23_)
                  refine lv_iload_n hx hb dX12_nextPair_74 rfl (lv_at hl 0 rfl) ?_
                  refine lv_aload_n hx hb dX12_nextPair_75 rfl (lv_at hl 1 rfl) ?_
                  refine va_get (D := (dC, dI)) (ci := 12) (v := .int (τ.1 49)) (C := RX12) (T := TX12) (N := 59) hx hb hts hin12 hown hK hP 0 rfl rfl 49 (Nat.le_of_ble_eq_true rfl) (ho (.fieldLink RX12 456 "NearEnoughModel" "pairSaved" "I") (List.mem_of_getElem? (i := 1) rfl)) (fun _ h9 => h9) rfl dX12_nextPair_76 ?_
                  refine lv_icmp_gt (tgt := 85) hx hb dX12_nextPair_79 rfl (fun c26_ => ?_) (fun c26_ => ?_)
                  · have tc26_ := (show (τ.1 49).toInt < z7_.toInt from ti_lt rfl rfl c26_)
                    refine lv_aload_n hx hb dX12_nextPair_85 rfl (lv_at hl 1 rfl) ?_
                    refine lv_aload_n hx hb dX12_nextPair_86 rfl (lv_at hl 1 rfl) ?_
                    refine va_get (D := (dC, dI)) (ci := 12) (v := .ref (ad 47)) (C := RX12) (T := TX12) (N := 59) hx hb hts hin12 hown hK hP 0 rfl rfl 47 (Nat.le_of_ble_eq_true rfl) (ho (.fieldLink RX12 113 "NearEnoughModel" "offs" "[J") (List.mem_of_getElem? (i := 2) rfl)) (fun _ h9 => h9) rfl dX12_nextPair_87 ?_
                    refine lv_iload_n hx hb dX12_nextPair_90 rfl (lv_at hl 3 rfl) ?_
                    refine va_lald hx hb hK hP 33 32 rfl rfl (ti_inx o5 o6) dX12_nextPair_91 ?_
                    refine lv_topl (fun y27_ ey27_ => ?_)
                    refine va_put (D := (dC, dI)) (ci := 12) (v := .long y27_) (ty := tyX12 48) (C := RX12) (T := TX12) (N := 59) hx hb hts hin12 tyX12 tyX12_ok nmX12 hown hK hP hD hS 0 rfl rfl 48 (Nat.le_of_ble_eq_true rfl) (ho (.fieldLink RX12 459 "NearEnoughModel" "pairOff" "J") (List.mem_of_getElem? (i := 3) rfl)) (fun _ h9 => h9) rfl (tyX12_ok 48 (Nat.le_of_ble_eq_true rfl)) rfl rfl (Nat.le_of_ble_eq_true rfl) dX12_nextPair_92 (fun H locs hP hD hS => ?_)
                    have hP : va_P (dC, dI) vwCl (mW h ad cl (sL τ 48 y27_)) H := hP
                    have hD : va_D A (mW h ad cl (sL τ 48 y27_)) := hD
                    refine lv_aload_n hx hb dX12_nextPair_95 rfl (lv_at hl 1 rfl) ?_
                    refine lv_iload_n hx hb dX12_nextPair_96 rfl (lv_at hl 0 rfl) ?_
                    refine va_put (D := (dC, dI)) (ci := 12) (v := .int z7_) (ty := tyX12 49) (C := RX12) (T := TX12) (N := 59) hx hb hts hin12 tyX12 tyX12_ok nmX12 hown hK hP hD hS 0 rfl rfl 49 (Nat.le_of_ble_eq_true rfl) (ho (.fieldLink RX12 456 "NearEnoughModel" "pairSaved" "I") (List.mem_of_getElem? (i := 1) rfl)) (fun _ h9 => h9) rfl (tyX12_ok 49 (Nat.le_of_ble_eq_true rfl)) rfl rfl (Nat.le_of_ble_eq_true rfl) dX12_nextPair_97 (fun H locs hP hD hS => ?_)
                    have hP : va_P (dC, dI) vwCl (mW h ad cl (sL (sI τ 49 z7_) 48 y27_)) H := hP
                    have hD : va_D A (mW h ad cl (sL (sI τ 49 z7_) 48 y27_)) := hD
                    obtain ⟨z28_, ez28_⟩ : ∃ y : Int32, y = kv + 1 := ⟨_, rfl⟩
                    have o29 : -2147483648 ≤ kv.toInt + 1 := by omega
                    have o30 : kv.toInt + 1 ≤ 2147483647 := by omega
                    have tz28_ := ti_add ez28_ rfl rg_18 o29 o30
                    refine lv_iinc (v := z28_) (lv' := [(2, .int z28_), (3, .int z7_), (0, .ref h), (1, .int x)]) hx hb dX12_nextPair_100 hl (k := 3) rfl (iincp ez28_ rg_6) (Nat.le_of_ble_eq_true rfl) rfl (fun ls hl => ?_)
                    refine lv_goto (tgt := 7) hx hb dX12_nextPair_103 rfl ?_
                    have o31 : x.toInt < z7_.toInt := by omega
                    have o32 : (4096 - z28_.toInt).toNat < n7 := by omega
                    have o33 : 0 ≤ z28_.toInt := by omega
                    exact ih7 (sL (sI τ 49 z7_) 48 y27_) z28_ _ _ _ (show (4096 - z28_.toInt).toNat < n7 from o32) (Inv.sL (Inv.sI (k := 49) (v := z7_) hIτ (Inv.any z7_))) (eqx.sL (eqx.sI hxτ rg_597) rg_598) (show 0 ≤ z28_.toInt from o33) (Or.inr o31) hP hD hS (lv_sub hl [2, 3, 0] rfl)
                  · have tc26_ := (show z7_.toInt ≤ (τ.1 49).toInt from ti_nlt rfl rfl c26_)
                    refine lv_goto (tgt := 100) hx hb dX12_nextPair_82 rfl ?_
                    obtain ⟨z29_, ez29_⟩ : ∃ y : Int32, y = kv + 1 := ⟨_, rfl⟩
                    have o34 : -2147483648 ≤ kv.toInt + 1 := by omega
                    have o35 : kv.toInt + 1 ≤ 2147483647 := by omega
                    have tz29_ := ti_add ez29_ rfl rg_18 o34 o35
                    refine lv_iinc (v := z29_) (lv' := [(2, .int z29_), (3, .int z7_), (0, .ref h), (1, .int x)]) hx hb dX12_nextPair_100 hl (k := 3) rfl (iincp ez29_ rg_6) (Nat.le_of_ble_eq_true rfl) rfl (fun ls hl => ?_)
                    refine lv_goto (tgt := 7) hx hb dX12_nextPair_103 rfl ?_
                    have o36 : (4096 - z29_.toInt).toNat < n7 := by omega
                    have o37 : 0 ≤ z29_.toInt := by omega
                    exact ih7 τ z29_ _ _ _ (show (4096 - z29_.toInt).toNat < n7 from o36) hIτ hxτ (show 0 ≤ z29_.toInt from o37) hps hP hD hS (lv_sub hl [2, 3, 0] rfl)
  refine zH (A := A) (ws := mW h ad cl σ) (fun H hP hS => ?_) hP
  have bσ_40 : 0 ≤ (σ.1 40).toInt ∧ (σ.1 40).toInt ≤ 12 := hI.1 40
  refine lv_aload_n hx hb dX12_nextPair_0 rfl (lv_at hl 0 rfl) ?_
  refine lv_iconst (v := (-1)) hx hb dX12_nextPair_1 rg_53 ?_
  refine va_put (D := (dC, dI)) (ci := 12) (v := .int (-1)) (ty := tyX12 49) (C := RX12) (T := TX12) (N := 59) hx hb hts hin12 tyX12 tyX12_ok nmX12 hown hK hP hD hS 0 rfl rfl 49 (Nat.le_of_ble_eq_true rfl) (ho (.fieldLink RX12 456 "NearEnoughModel" "pairSaved" "I") (List.mem_of_getElem? (i := 1) rfl)) (fun _ h9 => h9) rfl (tyX12_ok 49 (Nat.le_of_ble_eq_true rfl)) rfl rfl (Nat.le_of_ble_eq_true rfl) dX12_nextPair_2 (fun H locs hP hD hS => ?_)
  have hP : va_P (dC, dI) vwCl (mW h ad cl (sI σ 49 (-1))) H := hP
  have hD : va_D A (mW h ad cl (sI σ 49 (-1))) := hD
  refine lv_iconst (v := 0) hx hb dX12_nextPair_5 rg_0 ?_
  refine lv_istore_n (lv' := [(2, .int 0), (0, .ref h), (1, .int x)]) hx hb dX12_nextPair_6 rfl hl (Nat.le_of_ble_eq_true rfl) rfl (fun ls hl => ?_)
  exact pt_7 _ (sI σ 49 (-1)) 0 _ _ _ (Nat.lt_succ_self _) (Inv.sI (k := 49) (v := (-1)) hI (Inv.any (-1))) (eqx.sI eqx.rf rg_597) rg_56 (Or.inl rg_546) hP hD hS (lv_sub hl [1, 2, 0] rfl)
def ow_n_front : List Cond := [.fieldLink RX12 456 "NearEnoughModel" "pairSaved" "I"]
def vs_n_front : List Cond := .code yX12_front cX12_front 4 (some .int) :: (ow_n_front ++ (([.methodLink RX12 465 yX12_nextPair, .instanceMethod yX12_nextPair, .selects RX12 yX12_nextPair yX12_nextPair, .initialized RX12] : List Cond) ++ (vs_n_nextPair ++ (([.methodLink RX12 431 yX12_isEnd, .instanceMethod yX12_isEnd, .selects RX12 yX12_isEnd yX12_isEnd, .initialized RX12] : List Cond) ++ (vs_n_isEnd ++ (([.methodLink RX12 462 yX12_layOffs, .instanceMethod yX12_layOffs, .selects RX12 yX12_layOffs yX12_layOffs, .initialized RX12] : List Cond) ++ (vs_n_layOffs ++ (wsX120))))))))
theorem vg_n_front : vs_n_front.all goodWord = true := by decide +kernel
theorem dd_n_front : yX12_front.cls = RX12 ∧ yX12_front.cls ≠ "java/lang/invoke/MethodHandle" ∧ yX12_front.cls ≠ "java/lang/invoke/VarHandle" ∧ (parseMethodDescriptor yX12_front.desc).map (fun d => d.parameters.length) = some 1 := by decide +kernel
def rm_n_front : Room := { frames := 8, cells := 0, slots := 0, locals := 202 }
theorem gd_n_front_465_n_nextPair : GoodIn vs_n_front (wsV RX12 465 RX12 yX12_nextPair vs_n_nextPair) := goodIn_app (goodIn_sub (fun w h => (List.mem_cons_of_mem _ (List.mem_append_right _ (List.mem_append_left _ h)))) (by decide +kernel)) (goodIn_sub (fun w h => (List.mem_cons_of_mem _ (List.mem_append_right _ (List.mem_append_right _ (List.mem_append_left _ h))))) vg_n_nextPair)
theorem gd_n_front_431_n_isEnd : GoodIn vs_n_front (wsV RX12 431 RX12 yX12_isEnd vs_n_isEnd) := goodIn_app (goodIn_sub (fun w h => (List.mem_cons_of_mem _ (List.mem_append_right _ (List.mem_append_right _ (List.mem_append_right _ (List.mem_append_left _ h)))))) (by decide +kernel)) (goodIn_sub (fun w h => (List.mem_cons_of_mem _ (List.mem_append_right _ (List.mem_append_right _ (List.mem_append_right _ (List.mem_append_right _ (List.mem_append_left _ h))))))) vg_n_isEnd)
theorem gd_n_front_462_n_layOffs : GoodIn vs_n_front (wsV RX12 462 RX12 yX12_layOffs vs_n_layOffs) := goodIn_app (goodIn_sub (fun w h => (List.mem_cons_of_mem _ (List.mem_append_right _ (List.mem_append_right _ (List.mem_append_right _ (List.mem_append_right _ (List.mem_append_right _ (List.mem_append_left _ h)))))))) (by decide +kernel)) (goodIn_sub (fun w h => (List.mem_cons_of_mem _ (List.mem_append_right _ (List.mem_append_right _ (List.mem_append_right _ (List.mem_append_right _ (List.mem_append_right _ (List.mem_append_right _ (List.mem_append_left _ h))))))))) vg_n_layOffs)
set_option maxHeartbeats 4000000 in
set_option maxRecDepth 100000 in
theorem n_front (l : Launch) (dC : Nat → ClassId) (dI : Nat → Nat → Nat) (h : Nat) (ad : Nat → Nat) (cl : Nat → ClassId) (sz : Nat) (σ : MS) (x : Int32) (hI : Inv σ) (hR : RelP σ (σ.1 29).toNatClampNeg) (hC : ChR σ) : Met l yX12_front vs_n_front rm_n_front (va_Pc [.ref h, .int x] (wSt dC dI (mW h ad cl σ) (mT cl) sz)) (va_Qi (fun (r : Int32) (τ : MS) => Inv τ ∧ eqx [37, 41, 42, 43, 44, 45, 46, 32, 47, 48, 49, 54, 55, 56, 57] τ σ) (fun (τ : MS) => wEn dC dI (va_A (mW h ad cl σ) sz) (mW h ad cl τ) []) (va_A (mW h ad cl σ) sz)) 0 0 (va_A (mW h ad cl σ) sz) := by
  refine Met.ofW (cc := cX12_front) (maxL := 4) (ret := (some .int)) (by decide) rfl ?_
  intro p e s m args below meth c s₁ B hml hv
  obtain ⟨rfl, hsz, hP, hK, hD0, hE⟩ := hv
  have hx := B.exec
  have hb := B.bytes
  have hr := B.returns
  have hts := atoms_spec (ws := vs_n_front) B.pre
  have hown : s.vm.findClass RX12 = some m.cls := findClass_of_methodNamed B.named
  have hlocks := B.notSynchronized
  subst hsz
  have hD := hD0.self (sz := s.heap.size)
  generalize hAe : va_A (mW h ad cl σ) s.heap.size = A at hD ⊢
  have hA : ∀ q : Nat, s.heap.size ≤ q → A q := fun q h => by rw [← hAe]; exact Or.inr h
  have hl := lv_entry ([.ref h, .int x]) (n := 4) (Nat.le_of_ble_eq_true rfl)
  rw [lg_entry_eq]
  generalize (lg_sl ([.ref h, .int x]) ++ List.replicate (4 - (lg_sl ([.ref h, .int x])).length) Slot.unset).toArray = ls at hl ⊢
  have hl : lv_has ls 4 [(0, .ref h), (1, .int x)] := hl
  have ho := fun w (h : w ∈ ow_n_front) => hts w (List.mem_cons_of_mem _ (List.mem_append_left _ h))
  have hin12 : ∀ w ∈ u_ws RX12 TX12 59, w ∈ vs_n_front := fun w h => (List.mem_cons_of_mem _ (List.mem_append_right _ (List.mem_append_right _ (List.mem_append_right _ (List.mem_append_right _ (List.mem_append_right _ (List.mem_append_right _ (List.mem_append_right _ h))))))))
  refine zQ (fun Q hQ => ?_)
  have pt_19 : ∀ (n19 : Nat) (τ : MS) (nv : Int32) (lv9 : Int32) (H : Heap) (locs : List Loc) (ls : Array Slot), (2147483647 - lv9.toInt).toNat < n19 → (Inv τ) → (eqx [37, 41, 42, 43, 44, 45, 46, 32, 47, 48, 49, 54, 55, 56, 57] τ σ) → va_P (dC, dI) vwCl (mW h ad cl τ) H → va_D A (mW h ad cl τ) → va_S A s.heap H locs → lv_has ls 4 [(0, .ref h), (1, .int x), (2, .int nv), (3, .int lv9)] → W p l e (headSpec vs_n_front rm_n_front).room s m #[Value.ref h, Value.int x] below meth c H locs 0 0 Q (F0 m 19 ls []) := by
    intro n19
    induction n19 with
    | zero => intro τ nv lv9 H locs ls hn19 hIτ hxτ hP hD hS hl; exact absurd hn19 (Nat.not_lt_zero _)
    | succ n19 ih19 =>
      intro τ nv lv9 H locs ls hn19 hIτ hxτ hP hD hS hl
      have bτ_29 : 0 ≤ (τ.1 29).toInt ∧ (τ.1 29).toInt ≤ 1 := hIτ.1 29
      have qq1_ : (τ.1 29).toInt = ((σ.1 29) : Int32).toInt := congrArg Int32.toInt (((hxτ 29 rg_571).1))
      have ul9 := Inv.any lv9
      refine lv_aload_n hx hb dX12_front_19 rfl (lv_at hl 0 rfl) ?_
      refine lv_iload_n hx hb dX12_front_20 rfl (lv_at hl 3 rfl) ?_
      refine zy_i (va_runV (As := [.int lv9]) (rest := []) ⟨hx, hb, hml, hown, hts⟩ (n_nextPair l dC dI h ad cl H.size τ lv9 hIτ) (cwV 1 hts gd_n_front_465_n_nextPair rfl rfl rfl dd_n_nextPair ⟨Nat.le_of_ble_eq_true rfl, Nat.le_of_ble_eq_true rfl⟩) (preV hP hK hD hE (ci := 12) (q0 := 0) rfl rfl) rfl rfl hl.1 rfl (lv_room (Nat.le_of_ble_eq_true rfl)) dX12_front_21 ⟨Nat.le_of_ble_eq_true rfl, Nat.le_of_ble_eq_true rfl⟩) hD hS hA (fun z3_ τ2_ H locs hq hP hD hS => ?_)
      obtain ⟨hI4_, hx5_, f6_⟩ := hq
      have Xτ2_ : eqx [37, 41, 42, 43, 44, 45, 46, 32, 47, 48, 49, 54, 55, 56, 57] τ2_ σ := eqx.tr hx5_ hxτ rg_599
      have qq7_ : (τ2_.1 29).toInt = ((σ.1 29) : Int32).toInt := congrArg Int32.toInt ((show τ2_.1 29 = (σ.1 29) from ((hx5_ 29 rg_600).1).trans ((hxτ 29 rg_571).1)))
      refine W.widen (k := 0) (n := 0) (Nat.le_of_ble_eq_true rfl) (Nat.le_of_ble_eq_true rfl) ?_
      refine lv_if_eq (tgt := 38) hx hb dX12_front_24 rfl (fun c8_ => ?_) (fun c8_ => ?_)
      · have tc8_ := (show z3_.toInt = 0 from ti_eq rfl rg_11 c8_)
        refine lv_iload_n hx hb dX12_front_38 rfl (lv_at hl 2 rfl) ?_
        rw [hQ]
        exact W.iret (v := nv) hx hb hr (fun t ht hW => ⟨⟨nv, τ2_, rfl, ⟨hI4_, Xτ2_⟩, wEn_of hP (hK.sub [] rfl) hD ht hW⟩, hS.F ht⟩) hS.2.2 dX12_front_39
      · have tc8_ := (show z3_.toInt ≠ 0 from ti_ne rfl rg_11 c8_)
        refine lv_aload_n hx hb dX12_front_27 rfl (lv_at hl 0 rfl) ?_
        refine va_get (D := (dC, dI)) (ci := 12) (v := .int (τ2_.1 49)) (C := RX12) (T := TX12) (N := 59) hx hb hts hin12 hown hK hP 0 rfl rfl 49 (Nat.le_of_ble_eq_true rfl) (ho (.fieldLink RX12 456 "NearEnoughModel" "pairSaved" "I") (List.mem_of_getElem? (i := 0) rfl)) (fun _ h9 => h9) rfl dX12_front_28 ?_
        refine lv_istore_n (lv' := [(3, .int (τ2_.1 49)), (0, .ref h), (1, .int x), (2, .int nv)]) hx hb dX12_front_31 rfl hl (Nat.le_of_ble_eq_true rfl) rfl (fun ls hl => ?_)
        obtain ⟨z9_, ez9_⟩ : ∃ y : Int32, y = nv + 1 := ⟨_, rfl⟩
        refine lv_iinc (v := z9_) (lv' := [(2, .int z9_), (3, .int (τ2_.1 49)), (0, .ref h), (1, .int x)]) hx hb dX12_front_32 hl (k := 3) rfl (iincp ez9_ rg_6) (Nat.le_of_ble_eq_true rfl) rfl (fun ls hl => ?_)
        refine lv_goto (tgt := 19) hx hb dX12_front_35 rfl ?_
        have uu10_ := Inv.any (τ2_.1 49)
        have o1 : (2147483647 - (τ2_.1 49).toInt).toNat < n19 := by omega
        exact ih19 τ2_ z9_ (τ2_.1 49) _ _ _ (show (2147483647 - (τ2_.1 49).toInt).toNat < n19 from o1) hI4_ Xτ2_ hP hD hS (lv_sub hl [2, 3, 0, 1] rfl)
  refine zH (A := A) (ws := mW h ad cl σ) (fun H hP hS => ?_) hP
  have bσ_29 : 0 ≤ (σ.1 29).toInt ∧ (σ.1 29).toInt ≤ 1 := hI.1 29
  refine lv_aload_n hx hb dX12_front_0 rfl (lv_at hl 0 rfl) ?_
  refine lv_iload_n hx hb dX12_front_1 rfl (lv_at hl 1 rfl) ?_
  refine zy_i (va_runV (As := [.int x]) (rest := []) ⟨hx, hb, hml, hown, hts⟩ (n_isEnd l dC dI h ad cl H.size σ x hI) (cwV 1 hts gd_n_front_431_n_isEnd rfl rfl rfl dd_n_isEnd ⟨Nat.le_of_ble_eq_true rfl, Nat.le_of_ble_eq_true rfl⟩) (preV hP hK hD hE (ci := 12) (q0 := 0) rfl rfl) rfl rfl hl.1 rfl (lv_room (Nat.le_of_ble_eq_true rfl)) dX12_front_2 ⟨Nat.le_of_ble_eq_true rfl, Nat.le_of_ble_eq_true rfl⟩) hD hS hA (fun z12_ τ11_ H locs hq hP hD hS => ?_)
  obtain ⟨rfl, f13_⟩ := hq
  refine W.widen (k := 0) (n := 0) (Nat.le_of_ble_eq_true rfl) (Nat.le_of_ble_eq_true rfl) ?_
  refine lv_if_ne (tgt := 10) hx hb dX12_front_5 rfl (fun c14_ => ?_) (fun c14_ => ?_)
  · have tc14_ := (show z12_.toInt ≠ 0 from ti_ne rfl rg_11 c14_)
    refine lv_aload_n hx hb dX12_front_10 rfl (lv_at hl 0 rfl) ?_
    refine lv_iload_n hx hb dX12_front_11 rfl (lv_at hl 1 rfl) ?_
    have o2 : 0 ≤ x.toInt := by omega
    have o3 : x.toInt ≤ 3 := by omega
    have o4 : x.toInt < (σ.2.1 13 (σ.1 29).toNatClampNeg).toInt := by omega
    have HE15_ : EndOk σ x := ⟨o2, o3, o4⟩
    refine zy_v (va_runV (As := [.int x]) (rest := []) ⟨hx, hb, hml, hown, hts⟩ (n_layOffs l dC dI h ad cl H.size σ x hI hR hC HE15_) (cwV 1 hts gd_n_front_462_n_layOffs rfl rfl rfl dd_n_layOffs ⟨Nat.le_of_ble_eq_true rfl, Nat.le_of_ble_eq_true rfl⟩) (preV hP hK hD hE (ci := 12) (q0 := 0) rfl rfl) rfl rfl hl.1 rfl (lv_room (Nat.le_of_ble_eq_true rfl)) dX12_front_12 ⟨Nat.le_of_ble_eq_true rfl, Nat.le_of_ble_eq_true rfl⟩) hD hS hA (fun τ16_ H locs hq hP hD hS => ?_)
    obtain ⟨hI18_, hx19_⟩ := hq
    have Xτ16_ : eqx [37, 41, 42, 43, 44, 45, 46, 32, 47, 48, 49, 54, 55, 56, 57] τ16_ σ := eqx.tr hx19_ eqx.rf rg_592
    have qq20_ : (τ16_.1 29).toInt = ((σ.1 29) : Int32).toInt := congrArg Int32.toInt ((show τ16_.1 29 = (σ.1 29) from ((hx19_ 29 rg_571).1).trans rfl))
    refine W.widen (k := 0) (n := 0) (Nat.le_of_ble_eq_true rfl) (Nat.le_of_ble_eq_true rfl) ?_
    refine lv_iconst (v := 0) hx hb dX12_front_15 rg_0 ?_
    refine lv_istore_n (lv' := [(2, .int 0), (0, .ref h), (1, .int x)]) hx hb dX12_front_16 rfl hl (Nat.le_of_ble_eq_true rfl) rfl (fun ls hl => ?_)
    refine lv_iconst (v := (-1)) hx hb dX12_front_17 rg_53 ?_
    refine lv_istore_n (lv' := [(3, .int (-1)), (2, .int 0), (0, .ref h), (1, .int x)]) hx hb dX12_front_18 rfl hl (Nat.le_of_ble_eq_true rfl) rfl (fun ls hl => ?_)
    exact pt_19 _ τ16_ 0 (-1) _ _ _ (Nat.lt_succ_self _) hI18_ Xτ16_ hP hD hS (lv_sub hl [2, 3, 1, 0] rfl)
  · have tc14_ := (show z12_.toInt = 0 from ti_eq rfl rg_11 c14_)
    refine lv_iconst (v := (-1)) hx hb dX12_front_8 rg_53 ?_
    rw [hQ]
    exact W.iret (v := (-1)) hx hb hr (fun t ht hW => ⟨⟨(-1), σ, rfl, ⟨hI, eqx.rf⟩, wEn_of hP (hK.sub [] rfl) hD ht hW⟩, hS.F ht⟩) hS.2.2 dX12_front_9
def ow_n_pair : List Cond := [.fieldLink RX12 456 "NearEnoughModel" "pairSaved" "I", .fieldLink RX12 459 "NearEnoughModel" "pairOff" "J", .constantLong RX12 373 (-1)]
def vs_n_pair : List Cond := .code yX12_pair cX12_pair 6 (some .long) :: (ow_n_pair ++ (([.methodLink RX12 465 yX12_nextPair, .instanceMethod yX12_nextPair, .selects RX12 yX12_nextPair yX12_nextPair, .initialized RX12] : List Cond) ++ (vs_n_nextPair ++ (([.methodLink RX12 431 yX12_isEnd, .instanceMethod yX12_isEnd, .selects RX12 yX12_isEnd yX12_isEnd, .initialized RX12] : List Cond) ++ (vs_n_isEnd ++ (([.methodLink RX12 324 yX12_isIn, .static yX12_isIn, .initialized yX12_isIn.cls] : List Cond) ++ (vs_n_isIn ++ (([.methodLink RX12 462 yX12_layOffs, .instanceMethod yX12_layOffs, .selects RX12 yX12_layOffs yX12_layOffs, .initialized RX12] : List Cond) ++ (vs_n_layOffs ++ (wsX120))))))))))
theorem vg_n_pair : vs_n_pair.all goodWord = true := by decide +kernel
theorem dd_n_pair : yX12_pair.cls = RX12 ∧ yX12_pair.cls ≠ "java/lang/invoke/MethodHandle" ∧ yX12_pair.cls ≠ "java/lang/invoke/VarHandle" ∧ (parseMethodDescriptor yX12_pair.desc).map (fun d => d.parameters.length) = some 3 := by decide +kernel
def rm_n_pair : Room := { frames := 8, cells := 0, slots := 0, locals := 202 }
theorem gd_n_pair_465_n_nextPair : GoodIn vs_n_pair (wsV RX12 465 RX12 yX12_nextPair vs_n_nextPair) := goodIn_app (goodIn_sub (fun w h => (List.mem_cons_of_mem _ (List.mem_append_right _ (List.mem_append_left _ h)))) (by decide +kernel)) (goodIn_sub (fun w h => (List.mem_cons_of_mem _ (List.mem_append_right _ (List.mem_append_right _ (List.mem_append_left _ h))))) vg_n_nextPair)
theorem gd_n_pair_431_n_isEnd : GoodIn vs_n_pair (wsV RX12 431 RX12 yX12_isEnd vs_n_isEnd) := goodIn_app (goodIn_sub (fun w h => (List.mem_cons_of_mem _ (List.mem_append_right _ (List.mem_append_right _ (List.mem_append_right _ (List.mem_append_left _ h)))))) (by decide +kernel)) (goodIn_sub (fun w h => (List.mem_cons_of_mem _ (List.mem_append_right _ (List.mem_append_right _ (List.mem_append_right _ (List.mem_append_right _ (List.mem_append_left _ h))))))) vg_n_isEnd)
theorem gd_n_pair_324_n_isIn : GoodIn vs_n_pair (va_wsS RX12 324 yX12_isIn vs_n_isIn) := goodIn_app (goodIn_sub (fun w h => (List.mem_cons_of_mem _ (List.mem_append_right _ (List.mem_append_right _ (List.mem_append_right _ (List.mem_append_right _ (List.mem_append_right _ (List.mem_append_left _ h)))))))) (by decide +kernel)) (goodIn_sub (fun w h => (List.mem_cons_of_mem _ (List.mem_append_right _ (List.mem_append_right _ (List.mem_append_right _ (List.mem_append_right _ (List.mem_append_right _ (List.mem_append_right _ (List.mem_append_left _ h))))))))) vg_n_isIn)
theorem gd_n_pair_462_n_layOffs : GoodIn vs_n_pair (wsV RX12 462 RX12 yX12_layOffs vs_n_layOffs) := goodIn_app (goodIn_sub (fun w h => (List.mem_cons_of_mem _ (List.mem_append_right _ (List.mem_append_right _ (List.mem_append_right _ (List.mem_append_right _ (List.mem_append_right _ (List.mem_append_right _ (List.mem_append_right _ (List.mem_append_left _ h)))))))))) (by decide +kernel)) (goodIn_sub (fun w h => (List.mem_cons_of_mem _ (List.mem_append_right _ (List.mem_append_right _ (List.mem_append_right _ (List.mem_append_right _ (List.mem_append_right _ (List.mem_append_right _ (List.mem_append_right _ (List.mem_append_right _ (List.mem_append_left _ h))))))))))) vg_n_layOffs)
set_option maxHeartbeats 4000000 in
set_option maxRecDepth 100000 in
theorem n_pair (l : Launch) (dC : Nat → ClassId) (dI : Nat → Nat → Nat) (h : Nat) (ad : Nat → Nat) (cl : Nat → ClassId) (sz : Nat) (σ : MS) (x : Int32) (y : Int32) (z : Int32) (hI : Inv σ) (hR : RelP σ (σ.1 29).toNatClampNeg) (hC : ChR σ) : Met l yX12_pair vs_n_pair rm_n_pair (va_Pc [.ref h, .int x, .int y, .int z] (wSt dC dI (mW h ad cl σ) (mT cl) sz)) (va_Ql (fun (r : Int64) (τ : MS) => Inv τ ∧ eqx [37, 41, 42, 43, 44, 45, 46, 32, 47, 48, 49, 54, 55, 56, 57] τ σ) (fun (τ : MS) => wEn dC dI (va_A (mW h ad cl σ) sz) (mW h ad cl τ) []) (va_A (mW h ad cl σ) sz)) 0 0 (va_A (mW h ad cl σ) sz) := by
  refine Met.ofW (cc := cX12_pair) (maxL := 6) (ret := (some .long)) (by decide) rfl ?_
  intro p e s m args below meth c s₁ B hml hv
  obtain ⟨rfl, hsz, hP, hK, hD0, hE⟩ := hv
  have hx := B.exec
  have hb := B.bytes
  have hr := B.returns
  have hts := atoms_spec (ws := vs_n_pair) B.pre
  have hown : s.vm.findClass RX12 = some m.cls := findClass_of_methodNamed B.named
  have hlocks := B.notSynchronized
  subst hsz
  have hD := hD0.self (sz := s.heap.size)
  generalize hAe : va_A (mW h ad cl σ) s.heap.size = A at hD ⊢
  have hA : ∀ q : Nat, s.heap.size ≤ q → A q := fun q h => by rw [← hAe]; exact Or.inr h
  have hl := lv_entry ([.ref h, .int x, .int y, .int z]) (n := 6) (Nat.le_of_ble_eq_true rfl)
  rw [lg_entry_eq]
  generalize (lg_sl ([.ref h, .int x, .int y, .int z]) ++ List.replicate (6 - (lg_sl ([.ref h, .int x, .int y, .int z])).length) Slot.unset).toArray = ls at hl ⊢
  have hl : lv_has ls 6 [(0, .ref h), (1, .int x), (2, .int y), (3, .int z)] := hl
  have ho := fun w (h : w ∈ ow_n_pair) => hts w (List.mem_cons_of_mem _ (List.mem_append_left _ h))
  have hin12 : ∀ w ∈ u_ws RX12 TX12 59, w ∈ vs_n_pair := fun w h => (List.mem_cons_of_mem _ (List.mem_append_right _ (List.mem_append_right _ (List.mem_append_right _ (List.mem_append_right _ (List.mem_append_right _ (List.mem_append_right _ (List.mem_append_right _ (List.mem_append_right _ (List.mem_append_right _ h))))))))))
  refine zQ (fun Q hQ => ?_)
  have pt_36 : ∀ (n36 : Nat) (τ : MS) (lv9 : Int32) (nv : Int32) (H : Heap) (locs : List Loc) (ls : Array Slot), (2147483647 - lv9.toInt).toNat < n36 → (Inv τ) → (eqx [37, 41, 42, 43, 44, 45, 46, 32, 47, 48, 49, 54, 55, 56, 57] τ σ) → va_P (dC, dI) vwCl (mW h ad cl τ) H → va_D A (mW h ad cl τ) → va_S A s.heap H locs → lv_has ls 6 [(0, .ref h), (1, .int x), (2, .int y), (3, .int z), (4, .int lv9), (5, .int nv)] → W p l e (headSpec vs_n_pair rm_n_pair).room s m #[Value.ref h, Value.int x, Value.int y, Value.int z] below meth c H locs 0 0 Q (F0 m 36 ls []) := by
    intro n36
    induction n36 with
    | zero => intro τ lv9 nv H locs ls hn36 hIτ hxτ hP hD hS hl; exact absurd hn36 (Nat.not_lt_zero _)
    | succ n36 ih36 =>
      intro τ lv9 nv H locs ls hn36 hIτ hxτ hP hD hS hl
      have bτ_29 : 0 ≤ (τ.1 29).toInt ∧ (τ.1 29).toInt ≤ 1 := hIτ.1 29
      have qq1_ : (τ.1 29).toInt = ((σ.1 29) : Int32).toInt := congrArg Int32.toInt (((hxτ 29 rg_571).1))
      have ul9 := Inv.any lv9
      refine lv_iload hx hb dX12_pair_36 (lv_at hl 5 rfl) ?_
      refine lv_iload_n hx hb dX12_pair_38 rfl (lv_at hl 2 rfl) ?_
      refine lv_icmp_gt (tgt := 67) hx hb dX12_pair_39 rfl (fun c2_ => ?_) (fun c2_ => ?_)
      · have tc2_ := (show y.toInt < nv.toInt from ti_lt rfl rfl c2_)
        refine lv_iload_n hx hb dX12_pair_67 rfl (lv_at hl 3 rfl) ?_
        refine lv_if_ne (tgt := 78) hx hb dX12_pair_68 rfl (fun c3_ => ?_) (fun c3_ => ?_)
        · have tc3_ := (show z.toInt ≠ 0 from ti_ne rfl rg_11 c3_)
          refine lv_aload_n hx hb dX12_pair_78 rfl (lv_at hl 0 rfl) ?_
          refine va_get (D := (dC, dI)) (ci := 12) (v := .int (τ.1 49)) (C := RX12) (T := TX12) (N := 59) hx hb hts hin12 hown hK hP 0 rfl rfl 49 (Nat.le_of_ble_eq_true rfl) (ho (.fieldLink RX12 456 "NearEnoughModel" "pairSaved" "I") (List.mem_of_getElem? (i := 0) rfl)) (fun _ h9 => h9) rfl dX12_pair_79 ?_
          refine lv_i2l hx hb dX12_pair_82 rfl ?_
          refine lv_topl (fun y4_ ey4_ => ?_)
          rw [hQ]
          exact W.lret (v := y4_) hx hb hr (fun t ht hW => ⟨⟨y4_, τ, rfl, ⟨hIτ, hxτ⟩, wEn_of hP (hK.sub [] rfl) hD ht hW⟩, hS.F ht⟩) hS.2.2 dX12_pair_83
        · have tc3_ := (show z.toInt = 0 from ti_eq rfl rg_11 c3_)
          refine lv_aload_n hx hb dX12_pair_71 rfl (lv_at hl 0 rfl) ?_
          refine va_get (D := (dC, dI)) (ci := 12) (v := .long (τ.2.2.2 48)) (C := RX12) (T := TX12) (N := 59) hx hb hts hin12 hown hK hP 0 rfl rfl 48 (Nat.le_of_ble_eq_true rfl) (ho (.fieldLink RX12 459 "NearEnoughModel" "pairOff" "J") (List.mem_of_getElem? (i := 1) rfl)) (fun _ h9 => h9) rfl dX12_pair_72 ?_
          refine lv_goto (tgt := 83) hx hb dX12_pair_75 rfl ?_
          rw [hQ]
          exact W.lret (v := (τ.2.2.2 48)) hx hb hr (fun t ht hW => ⟨⟨(τ.2.2.2 48), τ, rfl, ⟨hIτ, hxτ⟩, wEn_of hP (hK.sub [] rfl) hD ht hW⟩, hS.F ht⟩) hS.2.2 dX12_pair_83
      · have tc2_ := (show nv.toInt ≤ y.toInt from ti_nlt rfl rfl c2_)
        refine lv_aload_n hx hb dX12_pair_42 rfl (lv_at hl 0 rfl) ?_
        refine lv_iload hx hb dX12_pair_43 (lv_at hl 4 rfl) ?_
        refine zy_i (va_runV (As := [.int lv9]) (rest := []) ⟨hx, hb, hml, hown, hts⟩ (n_nextPair l dC dI h ad cl H.size τ lv9 hIτ) (cwV 1 hts gd_n_pair_465_n_nextPair rfl rfl rfl dd_n_nextPair ⟨Nat.le_of_ble_eq_true rfl, Nat.le_of_ble_eq_true rfl⟩) (preV hP hK hD hE (ci := 12) (q0 := 0) rfl rfl) rfl rfl hl.1 rfl (lv_room (Nat.le_of_ble_eq_true rfl)) dX12_pair_45 ⟨Nat.le_of_ble_eq_true rfl, Nat.le_of_ble_eq_true rfl⟩) hD hS hA (fun z6_ τ5_ H locs hq hP hD hS => ?_)
        obtain ⟨hI7_, hx8_, f9_⟩ := hq
        have Xτ5_ : eqx [37, 41, 42, 43, 44, 45, 46, 32, 47, 48, 49, 54, 55, 56, 57] τ5_ σ := eqx.tr hx8_ hxτ rg_599
        have qq10_ : (τ5_.1 29).toInt = ((σ.1 29) : Int32).toInt := congrArg Int32.toInt ((show τ5_.1 29 = (σ.1 29) from ((hx8_ 29 rg_600).1).trans ((hxτ 29 rg_571).1)))
        refine W.widen (k := 0) (n := 0) (Nat.le_of_ble_eq_true rfl) (Nat.le_of_ble_eq_true rfl) ?_
        refine lv_if_ne (tgt := 55) hx hb dX12_pair_48 rfl (fun c11_ => ?_) (fun c11_ => ?_)
        · have tc11_ := (show z6_.toInt ≠ 0 from ti_ne rfl rg_11 c11_)
          refine lv_aload_n hx hb dX12_pair_55 rfl (lv_at hl 0 rfl) ?_
          refine va_get (D := (dC, dI)) (ci := 12) (v := .int (τ5_.1 49)) (C := RX12) (T := TX12) (N := 59) hx hb hts hin12 hown hK hP 0 rfl rfl 49 (Nat.le_of_ble_eq_true rfl) (ho (.fieldLink RX12 456 "NearEnoughModel" "pairSaved" "I") (List.mem_of_getElem? (i := 0) rfl)) (fun _ h9 => h9) rfl dX12_pair_56 ?_
          refine lv_istore (lv' := [(4, .int (τ5_.1 49)), (0, .ref h), (1, .int x), (2, .int y), (3, .int z), (5, .int nv)]) hx hb dX12_pair_59 hl (Nat.le_of_ble_eq_true rfl) rfl (fun ls hl => ?_)
          obtain ⟨z12_, ez12_⟩ : ∃ y : Int32, y = nv + 1 := ⟨_, rfl⟩
          refine lv_iinc (v := z12_) (lv' := [(5, .int z12_), (4, .int (τ5_.1 49)), (0, .ref h), (1, .int x), (2, .int y), (3, .int z)]) hx hb dX12_pair_61 hl (k := 5) rfl (iincp ez12_ rg_6) (Nat.le_of_ble_eq_true rfl) rfl (fun ls hl => ?_)
          refine lv_goto (tgt := 36) hx hb dX12_pair_64 rfl ?_
          have uu13_ := Inv.any (τ5_.1 49)
          have o1 : (2147483647 - (τ5_.1 49).toInt).toNat < n36 := by omega
          exact ih36 τ5_ (τ5_.1 49) z12_ _ _ _ (show (2147483647 - (τ5_.1 49).toInt).toNat < n36 from o1) hI7_ Xτ5_ hP hD hS (lv_sub hl [2, 3, 4, 5, 1, 0] rfl)
        · have tc11_ := (show z6_.toInt = 0 from ti_eq rfl rg_11 c11_)
          refine lv_ldc2 (v := (-1)) hx hb hown (ho (.constantLong RX12 373 (-1)) (List.mem_of_getElem? (i := 2) rfl)) dX12_pair_51 ?_
          rw [hQ]
          exact W.lret (v := (-1)) hx hb hr (fun t ht hW => ⟨⟨(-1), τ5_, rfl, ⟨hI7_, Xτ5_⟩, wEn_of hP (hK.sub [] rfl) hD ht hW⟩, hS.F ht⟩) hS.2.2 dX12_pair_54
  refine zH (A := A) (ws := mW h ad cl σ) (fun H hP hS => ?_) hP
  have bσ_29 : 0 ≤ (σ.1 29).toInt ∧ (σ.1 29).toInt ≤ 1 := hI.1 29
  refine lv_aload_n hx hb dX12_pair_0 rfl (lv_at hl 0 rfl) ?_
  refine lv_iload_n hx hb dX12_pair_1 rfl (lv_at hl 1 rfl) ?_
  refine zy_i (va_runV (As := [.int x]) (rest := []) ⟨hx, hb, hml, hown, hts⟩ (n_isEnd l dC dI h ad cl H.size σ x hI) (cwV 1 hts gd_n_pair_431_n_isEnd rfl rfl rfl dd_n_isEnd ⟨Nat.le_of_ble_eq_true rfl, Nat.le_of_ble_eq_true rfl⟩) (preV hP hK hD hE (ci := 12) (q0 := 0) rfl rfl) rfl rfl hl.1 rfl (lv_room (Nat.le_of_ble_eq_true rfl)) dX12_pair_2 ⟨Nat.le_of_ble_eq_true rfl, Nat.le_of_ble_eq_true rfl⟩) hD hS hA (fun z15_ τ14_ H locs hq hP hD hS => ?_)
  obtain ⟨rfl, f16_⟩ := hq
  refine W.widen (k := 0) (n := 0) (Nat.le_of_ble_eq_true rfl) (Nat.le_of_ble_eq_true rfl) ?_
  refine lv_if_eq (tgt := 21) hx hb dX12_pair_5 rfl (fun c17_ => ?_) (fun c17_ => ?_)
  · have tc17_ := (show z15_.toInt = 0 from ti_eq rfl rg_11 c17_)
    refine lv_ldc2 (v := (-1)) hx hb hown (ho (.constantLong RX12 373 (-1)) (List.mem_of_getElem? (i := 2) rfl)) dX12_pair_21 ?_
    rw [hQ]
    exact W.lret (v := (-1)) hx hb hr (fun t ht hW => ⟨⟨(-1), σ, rfl, ⟨hI, eqx.rf⟩, wEn_of hP (hK.sub [] rfl) hD ht hW⟩, hS.F ht⟩) hS.2.2 dX12_pair_24
  · have tc17_ := (show z15_.toInt ≠ 0 from ti_ne rfl rg_11 c17_)
    refine lv_iload_n hx hb dX12_pair_8 rfl (lv_at hl 2 rfl) ?_
    refine lv_if_lt (tgt := 21) hx hb dX12_pair_9 rfl (fun c18_ => ?_) (fun c18_ => ?_)
    · have tc18_ := (show y.toInt < 0 from ti_lt rfl rg_11 c18_)
      refine lv_ldc2 (v := (-1)) hx hb hown (ho (.constantLong RX12 373 (-1)) (List.mem_of_getElem? (i := 2) rfl)) dX12_pair_21 ?_
      rw [hQ]
      exact W.lret (v := (-1)) hx hb hr (fun t ht hW => ⟨⟨(-1), σ, rfl, ⟨hI, eqx.rf⟩, wEn_of hP (hK.sub [] rfl) hD ht hW⟩, hS.F ht⟩) hS.2.2 dX12_pair_24
    · have tc18_ := (show 0 ≤ y.toInt from ti_nlt rfl rg_11 c18_)
      refine lv_iload_n hx hb dX12_pair_12 rfl (lv_at hl 3 rfl) ?_
      refine lv_iconst (v := 0) hx hb dX12_pair_13 rg_0 ?_
      refine lv_iconst (v := 1) hx hb dX12_pair_14 rg_6 ?_
      have kk19_ : (0 : Int32).toInt = 0 := rg_11
      have kk20_ : (1 : Int32).toInt = 1 := rg_18
      refine zs_i (va_runS (As := [.int z, .int 0, .int 1]) (rest := []) ⟨hx, hb, hml, hown, hts⟩ (n_isIn l dC dI z 0 1  H.size) (va_cwS 3 hts gd_n_pair_324_n_isIn rfl rfl rfl dd_n_isIn ⟨Nat.le_of_ble_eq_true rfl, Nat.le_of_ble_eq_true rfl⟩) (preS (A := A) empP (hK.sub (tys' := []) [] rfl) empD hE) rfl rfl hl.1 rfl (lv_room (Nat.le_of_ble_eq_true rfl)) dX12_pair_15 ⟨Nat.le_of_ble_eq_true rfl, Nat.le_of_ble_eq_true rfl⟩) hP hD hS hA (fun z21_ H locs hq hP hD hS => ?_)
      have f22_ := hq
      refine W.widen (k := 0) (n := 0) (Nat.le_of_ble_eq_true rfl) (Nat.le_of_ble_eq_true rfl) ?_
      refine lv_if_ne (tgt := 25) hx hb dX12_pair_18 rfl (fun c23_ => ?_) (fun c23_ => ?_)
      · have tc23_ := (show z21_.toInt ≠ 0 from ti_ne rfl rg_11 c23_)
        refine lv_aload_n hx hb dX12_pair_25 rfl (lv_at hl 0 rfl) ?_
        refine lv_iload_n hx hb dX12_pair_26 rfl (lv_at hl 1 rfl) ?_
        have o2 : 0 ≤ x.toInt := by omega
        have o3 : x.toInt ≤ 3 := by omega
        have o4 : x.toInt < (σ.2.1 13 (σ.1 29).toNatClampNeg).toInt := by omega
        have HE24_ : EndOk σ x := ⟨o2, o3, o4⟩
        refine zy_v (va_runV (As := [.int x]) (rest := []) ⟨hx, hb, hml, hown, hts⟩ (n_layOffs l dC dI h ad cl H.size σ x hI hR hC HE24_) (cwV 1 hts gd_n_pair_462_n_layOffs rfl rfl rfl dd_n_layOffs ⟨Nat.le_of_ble_eq_true rfl, Nat.le_of_ble_eq_true rfl⟩) (preV hP hK hD hE (ci := 12) (q0 := 0) rfl rfl) rfl rfl hl.1 rfl (lv_room (Nat.le_of_ble_eq_true rfl)) dX12_pair_27 ⟨Nat.le_of_ble_eq_true rfl, Nat.le_of_ble_eq_true rfl⟩) hD hS hA (fun τ25_ H locs hq hP hD hS => ?_)
        obtain ⟨hI27_, hx28_⟩ := hq
        have Xτ25_ : eqx [37, 41, 42, 43, 44, 45, 46, 32, 47, 48, 49, 54, 55, 56, 57] τ25_ σ := eqx.tr hx28_ eqx.rf rg_592
        have qq29_ : (τ25_.1 29).toInt = ((σ.1 29) : Int32).toInt := congrArg Int32.toInt ((show τ25_.1 29 = (σ.1 29) from ((hx28_ 29 rg_571).1).trans rfl))
        refine W.widen (k := 0) (n := 0) (Nat.le_of_ble_eq_true rfl) (Nat.le_of_ble_eq_true rfl) ?_
        refine lv_iconst (v := (-1)) hx hb dX12_pair_30 rg_53 ?_
        refine lv_istore (lv' := [(4, .int (-1)), (0, .ref h), (1, .int x), (2, .int y), (3, .int z)]) hx hb dX12_pair_31 hl (Nat.le_of_ble_eq_true rfl) rfl (fun ls hl => ?_)
        refine lv_iconst (v := 0) hx hb dX12_pair_33 rg_0 ?_
        refine lv_istore (lv' := [(5, .int 0), (4, .int (-1)), (0, .ref h), (1, .int x), (2, .int y), (3, .int z)]) hx hb dX12_pair_34 hl (Nat.le_of_ble_eq_true rfl) rfl (fun ls hl => ?_)
        exact pt_36 _ τ25_ (-1) 0 _ _ _ (Nat.lt_succ_self _) hI27_ Xτ25_ hP hD hS (lv_sub hl [2, 3, 4, 5, 1, 0] rfl)
      · have tc23_ := (show z21_.toInt = 0 from ti_eq rfl rg_11 c23_)
        refine lv_ldc2 (v := (-1)) hx hb hown (ho (.constantLong RX12 373 (-1)) (List.mem_of_getElem? (i := 2) rfl)) dX12_pair_21 ?_
        rw [hQ]
        exact W.lret (v := (-1)) hx hb hr (fun t ht hW => ⟨⟨(-1), σ, rfl, ⟨hI, eqx.rf⟩, wEn_of hP (hK.sub [] rfl) hD ht hW⟩, hS.F ht⟩) hS.2.2 dX12_pair_24
