theorem dX11_forgetFront_0 : decode cX11_forgetFront 0 = .ok (.aload_n 0, 1) := by decide +kernel
theorem dX11_forgetFront_1 : decode cX11_forgetFront 1 = .ok (.getfield 82, 3) := by decide +kernel
theorem dX11_forgetFront_4 : decode cX11_forgetFront 4 = .ok (.ifnull 10, 3) := by decide +kernel
theorem dX11_forgetFront_14 : decode cX11_forgetFront 14 = .ok (.return_, 1) := by decide +kernel
theorem dX11_forgetFront_7 : decode cX11_forgetFront 7 = .ok (.aload_n 0, 1) := by decide +kernel
theorem dX11_forgetFront_8 : decode cX11_forgetFront 8 = .ok (.getfield 82, 3) := by decide +kernel
theorem dX11_forgetFront_11 : decode cX11_forgetFront 11 = .ok (.invokevirtual 126, 3) := by decide +kernel
theorem dX11_forgetPlan_0 : decode cX11_forgetPlan 0 = .ok (.aload_n 0, 1) := by decide +kernel
theorem dX11_forgetPlan_1 : decode cX11_forgetPlan 1 = .ok (.getfield 86, 3) := by decide +kernel
theorem dX11_forgetPlan_4 : decode cX11_forgetPlan 4 = .ok (.ifnull 10, 3) := by decide +kernel
theorem dX11_forgetPlan_14 : decode cX11_forgetPlan 14 = .ok (.return_, 1) := by decide +kernel
theorem dX11_forgetPlan_7 : decode cX11_forgetPlan 7 = .ok (.aload_n 0, 1) := by decide +kernel
theorem dX11_forgetPlan_8 : decode cX11_forgetPlan 8 = .ok (.getfield 86, 3) := by decide +kernel
theorem dX11_forgetPlan_11 : decode cX11_forgetPlan 11 = .ok (.invokevirtual 131, 3) := by decide +kernel
theorem dX11_sheet_0 : decode cX11_sheet 0 = .ok (.aload_n 0, 1) := by decide +kernel
theorem dX11_sheet_1 : decode cX11_sheet 1 = .ok (.getfield 33, 3) := by decide +kernel
theorem dX11_sheet_4 : decode cX11_sheet 4 = .ok (.getfield 111, 3) := by decide +kernel
theorem dX11_sheet_7 : decode cX11_sheet 7 = .ok (.bipush 40, 2) := by decide +kernel
theorem dX11_sheet_9 : decode cX11_sheet 9 = .ok (.if_icmp .lt 5, 3) := by decide +kernel
theorem dX11_sheet_14 : decode cX11_sheet 14 = .ok (.aload_n 0, 1) := by decide +kernel
theorem dX11_sheet_15 : decode cX11_sheet 15 = .ok (.getfield 33, 3) := by decide +kernel
theorem dX11_sheet_18 : decode cX11_sheet 18 = .ok (.getfield 111, 3) := by decide +kernel
theorem dX11_sheet_21 : decode cX11_sheet 21 = .ok (.istore_n 2, 1) := by decide +kernel
theorem dX11_sheet_22 : decode cX11_sheet 22 = .ok (.aload_n 0, 1) := by decide +kernel
theorem dX11_sheet_23 : decode cX11_sheet 23 = .ok (.getfield 33, 3) := by decide +kernel
theorem dX11_sheet_26 : decode cX11_sheet 26 = .ok (.getfield 151, 3) := by decide +kernel
theorem dX11_sheet_29 : decode cX11_sheet 29 = .ok (.iload_n 2, 1) := by decide +kernel
theorem dX11_sheet_30 : decode cX11_sheet 30 = .ok (.iload_n 1, 1) := by decide +kernel
theorem dX11_sheet_31 : decode cX11_sheet 31 = .ok (.bastore, 1) := by decide +kernel
theorem dX11_sheet_32 : decode cX11_sheet 32 = .ok (.aload_n 0, 1) := by decide +kernel
theorem dX11_sheet_33 : decode cX11_sheet 33 = .ok (.getfield 33, 3) := by decide +kernel
theorem dX11_sheet_36 : decode cX11_sheet 36 = .ok (.iload_n 2, 1) := by decide +kernel
theorem dX11_sheet_37 : decode cX11_sheet 37 = .ok (.iconst 0, 1) := by decide +kernel
theorem dX11_sheet_38 : decode cX11_sheet 38 = .ok (.aload_n 0, 1) := by decide +kernel
theorem dX11_sheet_39 : decode cX11_sheet 39 = .ok (.getfield 26, 3) := by decide +kernel
theorem dX11_sheet_42 : decode cX11_sheet 42 = .ok (.invokevirtual 155, 3) := by decide +kernel
theorem dX11_sheet_45 : decode cX11_sheet 45 = .ok (.aload_n 0, 1) := by decide +kernel
theorem dX11_sheet_46 : decode cX11_sheet 46 = .ok (.getfield 33, 3) := by decide +kernel
theorem dX11_sheet_49 : decode cX11_sheet 49 = .ok (.iload_n 2, 1) := by decide +kernel
theorem dX11_sheet_50 : decode cX11_sheet 50 = .ok (.iconst 1, 1) := by decide +kernel
theorem dX11_sheet_51 : decode cX11_sheet 51 = .ok (.iadd, 1) := by decide +kernel
theorem dX11_sheet_52 : decode cX11_sheet 52 = .ok (.putfield 111, 3) := by decide +kernel
theorem dX11_sheet_55 : decode cX11_sheet 55 = .ok (.aload_n 0, 1) := by decide +kernel
theorem dX11_sheet_56 : decode cX11_sheet 56 = .ok (.getfield 58, 3) := by decide +kernel
theorem dX11_sheet_59 : decode cX11_sheet 59 = .ok (.iload_n 2, 1) := by decide +kernel
theorem dX11_sheet_60 : decode cX11_sheet 60 = .ok (.aload_n 0, 1) := by decide +kernel
theorem dX11_sheet_61 : decode cX11_sheet 61 = .ok (.invokevirtual 159, 3) := by decide +kernel
theorem dX11_sheet_64 : decode cX11_sheet 64 = .ok (.invokevirtual 163, 3) := by decide +kernel
theorem dX11_sheet_67 : decode cX11_sheet 67 = .ok (.aload_n 0, 1) := by decide +kernel
theorem dX11_sheet_68 : decode cX11_sheet 68 = .ok (.invokevirtual 120, 3) := by decide +kernel
theorem dX11_sheet_71 : decode cX11_sheet 71 = .ok (.iload_n 2, 1) := by decide +kernel
theorem dX11_sheet_72 : decode cX11_sheet 72 = .ok (.ireturn, 1) := by decide +kernel
theorem dX11_sheet_12 : decode cX11_sheet 12 = .ok (.iconst (-1), 1) := by decide +kernel
theorem dX11_sheet_13 : decode cX11_sheet 13 = .ok (.ireturn, 1) := by decide +kernel
theorem dX11_put_0 : decode cX11_put 0 = .ok (.aload_n 0, 1) := by decide +kernel
theorem dX11_put_1 : decode cX11_put 1 = .ok (.getfield 33, 3) := by decide +kernel
theorem dX11_put_4 : decode cX11_put 4 = .ok (.iload_n 1, 1) := by decide +kernel
theorem dX11_put_5 : decode cX11_put 5 = .ok (.invokevirtual 167, 3) := by decide +kernel
theorem dX11_put_8 : decode cX11_put 8 = .ok (.ifCond .eq 18, 3) := by decide +kernel
theorem dX11_put_26 : decode cX11_put 26 = .ok (.iconst 0, 1) := by decide +kernel
theorem dX11_put_27 : decode cX11_put 27 = .ok (.ireturn, 1) := by decide +kernel
theorem dX11_put_11 : decode cX11_put 11 = .ok (.iload_n 2, 1) := by decide +kernel
theorem dX11_put_12 : decode cX11_put 12 = .ok (.ifCond .lt 14, 3) := by decide +kernel
theorem dX11_put_15 : decode cX11_put 15 = .ok (.iload_n 2, 1) := by decide +kernel
theorem dX11_put_16 : decode cX11_put 16 = .ok (.aload_n 0, 1) := by decide +kernel
theorem dX11_put_17 : decode cX11_put 17 = .ok (.getfield 26, 3) := by decide +kernel
theorem dX11_put_20 : decode cX11_put 20 = .ok (.getfield 170, 3) := by decide +kernel
theorem dX11_put_23 : decode cX11_put 23 = .ok (.if_icmp .lt 5, 3) := by decide +kernel
theorem dX11_put_28 : decode cX11_put 28 = .ok (.aload_n 0, 1) := by decide +kernel
theorem dX11_put_29 : decode cX11_put 29 = .ok (.getfield 26, 3) := by decide +kernel
theorem dX11_put_32 : decode cX11_put 32 = .ok (.getfield 173, 3) := by decide +kernel
theorem dX11_put_35 : decode cX11_put 35 = .ok (.iload_n 2, 1) := by decide +kernel
theorem dX11_put_36 : decode cX11_put 36 = .ok (.aaload, 1) := by decide +kernel
theorem dX11_put_37 : decode cX11_put 37 = .ok (.astore 5, 2) := by decide +kernel
theorem dX11_put_39 : decode cX11_put 39 = .ok (.iload_n 3, 1) := by decide +kernel
theorem dX11_put_40 : decode cX11_put 40 = .ok (.ifCond .lt 32, 3) := by decide +kernel
theorem dX11_put_72 : decode cX11_put 72 = .ok (.iconst 0, 1) := by decide +kernel
theorem dX11_put_73 : decode cX11_put 73 = .ok (.ireturn, 1) := by decide +kernel
theorem dX11_put_43 : decode cX11_put 43 = .ok (.iload_n 3, 1) := by decide +kernel
theorem dX11_put_44 : decode cX11_put 44 = .ok (.aload 5, 2) := by decide +kernel
theorem dX11_put_46 : decode cX11_put 46 = .ok (.getfield 177, 3) := by decide +kernel
theorem dX11_put_49 : decode cX11_put 49 = .ok (.if_icmp .ge 23, 3) := by decide +kernel
theorem dX11_put_52 : decode cX11_put 52 = .ok (.iload 4, 2) := by decide +kernel
theorem dX11_put_54 : decode cX11_put 54 = .ok (.aload 5, 2) := by decide +kernel
theorem dX11_put_56 : decode cX11_put 56 = .ok (.getfield 180, 3) := by decide +kernel
theorem dX11_put_59 : decode cX11_put 59 = .ok (.if_icmp .lt 13, 3) := by decide +kernel
theorem dX11_put_62 : decode cX11_put 62 = .ok (.iload 4, 2) := by decide +kernel
theorem dX11_put_64 : decode cX11_put 64 = .ok (.aload 5, 2) := by decide +kernel
theorem dX11_put_66 : decode cX11_put 66 = .ok (.getfield 182, 3) := by decide +kernel
theorem dX11_put_69 : decode cX11_put 69 = .ok (.if_icmp .le 5, 3) := by decide +kernel
theorem dX11_put_74 : decode cX11_put 74 = .ok (.aload_n 0, 1) := by decide +kernel
theorem dX11_put_75 : decode cX11_put 75 = .ok (.getfield 33, 3) := by decide +kernel
theorem dX11_put_78 : decode cX11_put 78 = .ok (.getfield 184, 3) := by decide +kernel
theorem dX11_put_81 : decode cX11_put 81 = .ok (.iload_n 1, 1) := by decide +kernel
theorem dX11_put_82 : decode cX11_put 82 = .ok (.bipush 12, 2) := by decide +kernel
theorem dX11_put_84 : decode cX11_put 84 = .ok (.imul, 1) := by decide +kernel
theorem dX11_put_85 : decode cX11_put 85 = .ok (.aload 5, 2) := by decide +kernel
theorem dX11_put_87 : decode cX11_put 87 = .ok (.getfield 187, 3) := by decide +kernel
theorem dX11_put_90 : decode cX11_put 90 = .ok (.iadd, 1) := by decide +kernel
theorem dX11_put_91 : decode cX11_put 91 = .ok (.iload_n 3, 1) := by decide +kernel
theorem dX11_put_92 : decode cX11_put 92 = .ok (.iadd, 1) := by decide +kernel
theorem dX11_put_93 : decode cX11_put 93 = .ok (.iload 4, 2) := by decide +kernel
theorem dX11_put_95 : decode cX11_put 95 = .ok (.iastore, 1) := by decide +kernel
theorem dX11_put_96 : decode cX11_put 96 = .ok (.aload_n 0, 1) := by decide +kernel
theorem dX11_put_97 : decode cX11_put 97 = .ok (.getfield 58, 3) := by decide +kernel
theorem dX11_put_100 : decode cX11_put 100 = .ok (.iload_n 1, 1) := by decide +kernel
theorem dX11_put_101 : decode cX11_put 101 = .ok (.aload_n 0, 1) := by decide +kernel
theorem dX11_put_102 : decode cX11_put 102 = .ok (.invokevirtual 159, 3) := by decide +kernel
theorem dX11_put_105 : decode cX11_put 105 = .ok (.invokevirtual 163, 3) := by decide +kernel
theorem dX11_put_108 : decode cX11_put 108 = .ok (.aload_n 0, 1) := by decide +kernel
theorem dX11_put_109 : decode cX11_put 109 = .ok (.invokevirtual 120, 3) := by decide +kernel
theorem dX11_put_112 : decode cX11_put 112 = .ok (.iconst 1, 1) := by decide +kernel
theorem dX11_put_113 : decode cX11_put 113 = .ok (.ireturn, 1) := by decide +kernel
theorem dX11_change_0 : decode cX11_change 0 = .ok (.aload_n 0, 1) := by decide +kernel
theorem dX11_change_1 : decode cX11_change 1 = .ok (.getfield 26, 3) := by decide +kernel
theorem dX11_change_4 : decode cX11_change 4 = .ok (.iload_n 1, 1) := by decide +kernel
theorem dX11_change_5 : decode cX11_change 5 = .ok (.invokevirtual 134, 3) := by decide +kernel
theorem dX11_change_8 : decode cX11_change 8 = .ok (.ifCond .eq 16, 3) := by decide +kernel
theorem dX11_change_24 : decode cX11_change 24 = .ok (.iconst (-1), 1) := by decide +kernel
theorem dX11_change_25 : decode cX11_change 25 = .ok (.ireturn, 1) := by decide +kernel
theorem dX11_change_11 : decode cX11_change 11 = .ok (.iload 4, 2) := by decide +kernel
theorem dX11_change_13 : decode cX11_change 13 = .ok (.ifCond .lt 11, 3) := by decide +kernel
theorem dX11_change_16 : decode cX11_change 16 = .ok (.iload 4, 2) := by decide +kernel
theorem dX11_change_18 : decode cX11_change 18 = .ok (.sipush 999, 3) := by decide +kernel
theorem dX11_change_21 : decode cX11_change 21 = .ok (.if_icmp .le 5, 3) := by decide +kernel
theorem dX11_change_26 : decode cX11_change 26 = .ok (.aload_n 0, 1) := by decide +kernel
theorem dX11_change_27 : decode cX11_change 27 = .ok (.getfield 40, 3) := by decide +kernel
theorem dX11_change_30 : decode cX11_change 30 = .ok (.getfield 190, 3) := by decide +kernel
theorem dX11_change_33 : decode cX11_change 33 = .ok (.bipush 12, 2) := by decide +kernel
theorem dX11_change_35 : decode cX11_change 35 = .ok (.if_icmp .ge 23, 3) := by decide +kernel
theorem dX11_change_58 : decode cX11_change 58 = .ok (.iconst (-1), 1) := by decide +kernel
theorem dX11_change_59 : decode cX11_change 59 = .ok (.ireturn, 1) := by decide +kernel
theorem dX11_change_38 : decode cX11_change 38 = .ok (.aload_n 0, 1) := by decide +kernel
theorem dX11_change_39 : decode cX11_change 39 = .ok (.getfield 26, 3) := by decide +kernel
theorem dX11_change_42 : decode cX11_change 42 = .ok (.getfield 138, 3) := by decide +kernel
theorem dX11_change_45 : decode cX11_change 45 = .ok (.iload_n 1, 1) := by decide +kernel
theorem dX11_change_46 : decode cX11_change 46 = .ok (.aaload, 1) := by decide +kernel
theorem dX11_change_47 : decode cX11_change 47 = .ok (.getfield 191, 3) := by decide +kernel
theorem dX11_change_50 : decode cX11_change 50 = .ok (.iload_n 2, 1) := by decide +kernel
theorem dX11_change_51 : decode cX11_change 51 = .ok (.iload_n 3, 1) := by decide +kernel
theorem dX11_change_52 : decode cX11_change 52 = .ok (.invokestatic 194, 3) := by decide +kernel
theorem dX11_change_55 : decode cX11_change 55 = .ok (.ifCond .ne 5, 3) := by decide +kernel
theorem dX11_change_60 : decode cX11_change 60 = .ok (.aload_n 0, 1) := by decide +kernel
theorem dX11_change_61 : decode cX11_change 61 = .ok (.invokevirtual 117, 3) := by decide +kernel
theorem dX11_change_64 : decode cX11_change 64 = .ok (.aload_n 0, 1) := by decide +kernel
theorem dX11_change_65 : decode cX11_change 65 = .ok (.invokevirtual 120, 3) := by decide +kernel
theorem dX11_change_68 : decode cX11_change 68 = .ok (.aload_n 0, 1) := by decide +kernel
theorem dX11_change_69 : decode cX11_change 69 = .ok (.getfield 40, 3) := by decide +kernel
theorem dX11_change_72 : decode cX11_change 72 = .ok (.iload_n 1, 1) := by decide +kernel
theorem dX11_change_73 : decode cX11_change 73 = .ok (.iload_n 2, 1) := by decide +kernel
theorem dX11_change_74 : decode cX11_change 74 = .ok (.iload_n 3, 1) := by decide +kernel
theorem dX11_change_75 : decode cX11_change 75 = .ok (.iload 4, 2) := by decide +kernel
theorem dX11_change_77 : decode cX11_change 77 = .ok (.invokevirtual 198, 3) := by decide +kernel
theorem dX11_change_80 : decode cX11_change 80 = .ok (.ireturn, 1) := by decide +kernel
theorem dX11_madeFront_0 : decode cX11_madeFront 0 = .ok (.aload_n 0, 1) := by decide +kernel
theorem dX11_madeFront_1 : decode cX11_madeFront 1 = .ok (.getfield 82, 3) := by decide +kernel
theorem dX11_madeFront_4 : decode cX11_madeFront 4 = .ok (.ifnonnull 26, 3) := by decide +kernel
theorem dX11_madeFront_30 : decode cX11_madeFront 30 = .ok (.aload_n 0, 1) := by decide +kernel
theorem dX11_madeFront_31 : decode cX11_madeFront 31 = .ok (.getfield 82, 3) := by decide +kernel
theorem dX11_madeFront_34 : decode cX11_madeFront 34 = .ok (.areturn, 1) := by decide +kernel
theorem dX11_madePlan_0 : decode cX11_madePlan 0 = .ok (.aload_n 0, 1) := by decide +kernel
theorem dX11_madePlan_1 : decode cX11_madePlan 1 = .ok (.getfield 86, 3) := by decide +kernel
theorem dX11_madePlan_4 : decode cX11_madePlan 4 = .ok (.ifnonnull 34, 3) := by decide +kernel
theorem dX11_madePlan_38 : decode cX11_madePlan 38 = .ok (.aload_n 0, 1) := by decide +kernel
theorem dX11_madePlan_39 : decode cX11_madePlan 39 = .ok (.getfield 86, 3) := by decide +kernel
theorem dX11_madePlan_42 : decode cX11_madePlan 42 = .ok (.areturn, 1) := by decide +kernel
theorem dX11_front_0 : decode cX11_front 0 = .ok (.aload_n 0, 1) := by decide +kernel
theorem dX11_front_1 : decode cX11_front 1 = .ok (.getfield 26, 3) := by decide +kernel
theorem dX11_front_4 : decode cX11_front 4 = .ok (.iload_n 1, 1) := by decide +kernel
theorem dX11_front_5 : decode cX11_front 5 = .ok (.invokevirtual 227, 3) := by decide +kernel
theorem dX11_front_8 : decode cX11_front 8 = .ok (.ifCond .ne 5, 3) := by decide +kernel
theorem dX11_front_13 : decode cX11_front 13 = .ok (.aload_n 0, 1) := by decide +kernel
theorem dX11_front_14 : decode cX11_front 14 = .ok (.invokevirtual 329, 3) := by decide +kernel
theorem dX11_front_17 : decode cX11_front 17 = .ok (.astore_n 2, 1) := by decide +kernel
theorem dX11_front_18 : decode cX11_front 18 = .ok (.aload_n 2, 1) := by decide +kernel
theorem dX11_front_19 : decode cX11_front 19 = .ok (.iload_n 1, 1) := by decide +kernel
theorem dX11_front_20 : decode cX11_front 20 = .ok (.invokevirtual 333, 3) := by decide +kernel
theorem dX11_front_23 : decode cX11_front 23 = .ok (.aload_n 2, 1) := by decide +kernel
theorem dX11_front_24 : decode cX11_front 24 = .ok (.getfield 336, 3) := by decide +kernel
theorem dX11_front_27 : decode cX11_front 27 = .ok (.ireturn, 1) := by decide +kernel
theorem dX11_front_11 : decode cX11_front 11 = .ok (.iconst (-1), 1) := by decide +kernel
theorem dX11_front_12 : decode cX11_front 12 = .ok (.ireturn, 1) := by decide +kernel
theorem dX11_pair_0 : decode cX11_pair 0 = .ok (.aload_n 0, 1) := by decide +kernel
theorem dX11_pair_1 : decode cX11_pair 1 = .ok (.getfield 26, 3) := by decide +kernel
theorem dX11_pair_4 : decode cX11_pair 4 = .ok (.iload_n 1, 1) := by decide +kernel
theorem dX11_pair_5 : decode cX11_pair 5 = .ok (.invokevirtual 227, 3) := by decide +kernel
theorem dX11_pair_8 : decode cX11_pair 8 = .ok (.ifCond .eq 16, 3) := by decide +kernel
theorem dX11_pair_24 : decode cX11_pair 24 = .ok (.ldc2_w 212, 3) := by decide +kernel
theorem dX11_pair_27 : decode cX11_pair 27 = .ok (.lreturn, 1) := by decide +kernel
theorem dX11_pair_11 : decode cX11_pair 11 = .ok (.iload_n 2, 1) := by decide +kernel
theorem dX11_pair_12 : decode cX11_pair 12 = .ok (.ifCond .lt 12, 3) := by decide +kernel
theorem dX11_pair_15 : decode cX11_pair 15 = .ok (.iload_n 3, 1) := by decide +kernel
theorem dX11_pair_16 : decode cX11_pair 16 = .ok (.ifCond .lt 8, 3) := by decide +kernel
theorem dX11_pair_19 : decode cX11_pair 19 = .ok (.iload_n 3, 1) := by decide +kernel
theorem dX11_pair_20 : decode cX11_pair 20 = .ok (.iconst 1, 1) := by decide +kernel
theorem dX11_pair_21 : decode cX11_pair 21 = .ok (.if_icmp .le 7, 3) := by decide +kernel
theorem dX11_pair_28 : decode cX11_pair 28 = .ok (.aload_n 0, 1) := by decide +kernel
theorem dX11_pair_29 : decode cX11_pair 29 = .ok (.invokevirtual 329, 3) := by decide +kernel
theorem dX11_pair_32 : decode cX11_pair 32 = .ok (.astore 4, 2) := by decide +kernel
theorem dX11_pair_34 : decode cX11_pair 34 = .ok (.aload 4, 2) := by decide +kernel
theorem dX11_pair_36 : decode cX11_pair 36 = .ok (.iload_n 1, 1) := by decide +kernel
theorem dX11_pair_37 : decode cX11_pair 37 = .ok (.invokevirtual 333, 3) := by decide +kernel
theorem dX11_pair_40 : decode cX11_pair 40 = .ok (.iload_n 2, 1) := by decide +kernel
theorem dX11_pair_41 : decode cX11_pair 41 = .ok (.aload 4, 2) := by decide +kernel
theorem dX11_pair_43 : decode cX11_pair 43 = .ok (.getfield 336, 3) := by decide +kernel
theorem dX11_pair_46 : decode cX11_pair 46 = .ok (.if_icmp .lt 7, 3) := by decide +kernel
theorem dX11_pair_53 : decode cX11_pair 53 = .ok (.iload_n 3, 1) := by decide +kernel
theorem dX11_pair_54 : decode cX11_pair 54 = .ok (.ifCond .ne 13, 3) := by decide +kernel
theorem dX11_pair_67 : decode cX11_pair 67 = .ok (.aload 4, 2) := by decide +kernel
theorem dX11_pair_69 : decode cX11_pair 69 = .ok (.getfield 340, 3) := by decide +kernel
theorem dX11_pair_72 : decode cX11_pair 72 = .ok (.iload_n 2, 1) := by decide +kernel
theorem dX11_pair_73 : decode cX11_pair 73 = .ok (.iaload, 1) := by decide +kernel
theorem dX11_pair_74 : decode cX11_pair 74 = .ok (.i2l, 1) := by decide +kernel
theorem dX11_pair_75 : decode cX11_pair 75 = .ok (.lreturn, 1) := by decide +kernel
theorem dX11_pair_57 : decode cX11_pair 57 = .ok (.aload 4, 2) := by decide +kernel
theorem dX11_pair_59 : decode cX11_pair 59 = .ok (.getfield 337, 3) := by decide +kernel
theorem dX11_pair_62 : decode cX11_pair 62 = .ok (.iload_n 2, 1) := by decide +kernel
theorem dX11_pair_63 : decode cX11_pair 63 = .ok (.laload, 1) := by decide +kernel
theorem dX11_pair_64 : decode cX11_pair 64 = .ok (.goto 11, 3) := by decide +kernel
theorem dX11_pair_49 : decode cX11_pair 49 = .ok (.ldc2_w 212, 3) := by decide +kernel
theorem dX11_pair_52 : decode cX11_pair 52 = .ok (.lreturn, 1) := by decide +kernel
theorem dX11_plan_0 : decode cX11_plan 0 = .ok (.aload_n 0, 1) := by decide +kernel
theorem dX11_plan_1 : decode cX11_plan 1 = .ok (.iload_n 1, 1) := by decide +kernel
theorem dX11_plan_2 : decode cX11_plan 2 = .ok (.iload_n 2, 1) := by decide +kernel
theorem dX11_plan_3 : decode cX11_plan 3 = .ok (.invokevirtual 357, 3) := by decide +kernel
theorem dX11_plan_6 : decode cX11_plan 6 = .ok (.ifCond .ne 5, 3) := by decide +kernel
theorem dX11_plan_11 : decode cX11_plan 11 = .ok (.aload_n 0, 1) := by decide +kernel
theorem dX11_plan_12 : decode cX11_plan 12 = .ok (.invokevirtual 360, 3) := by decide +kernel
theorem dX11_plan_15 : decode cX11_plan 15 = .ok (.astore_n 3, 1) := by decide +kernel
theorem dX11_plan_16 : decode cX11_plan 16 = .ok (.aload_n 3, 1) := by decide +kernel
theorem dX11_plan_17 : decode cX11_plan 17 = .ok (.iload_n 1, 1) := by decide +kernel
theorem dX11_plan_18 : decode cX11_plan 18 = .ok (.invokevirtual 364, 3) := by decide +kernel
theorem dX11_plan_21 : decode cX11_plan 21 = .ok (.aload_n 3, 1) := by decide +kernel
theorem dX11_plan_22 : decode cX11_plan 22 = .ok (.iload_n 2, 1) := by decide +kernel
theorem dX11_plan_23 : decode cX11_plan 23 = .ok (.invokevirtual 367, 3) := by decide +kernel
theorem dX11_plan_26 : decode cX11_plan 26 = .ok (.ireturn, 1) := by decide +kernel
theorem dX11_plan_9 : decode cX11_plan 9 = .ok (.iconst (-1), 1) := by decide +kernel
theorem dX11_plan_10 : decode cX11_plan 10 = .ok (.ireturn, 1) := by decide +kernel
theorem dX11_planned_0 : decode cX11_planned 0 = .ok (.aload_n 0, 1) := by decide +kernel
theorem dX11_planned_1 : decode cX11_planned 1 = .ok (.iload_n 1, 1) := by decide +kernel
theorem dX11_planned_2 : decode cX11_planned 2 = .ok (.iload_n 2, 1) := by decide +kernel
theorem dX11_planned_3 : decode cX11_planned 3 = .ok (.invokevirtual 357, 3) := by decide +kernel
theorem dX11_planned_6 : decode cX11_planned 6 = .ok (.ifCond .eq 14, 3) := by decide +kernel
theorem dX11_planned_20 : decode cX11_planned 20 = .ok (.iconst (-1), 1) := by decide +kernel
theorem dX11_planned_21 : decode cX11_planned 21 = .ok (.ireturn, 1) := by decide +kernel
theorem dX11_planned_9 : decode cX11_planned 9 = .ok (.aload_n 0, 1) := by decide +kernel
theorem dX11_planned_10 : decode cX11_planned 10 = .ok (.getfield 33, 3) := by decide +kernel
theorem dX11_planned_13 : decode cX11_planned 13 = .ok (.iload_n 3, 1) := by decide +kernel
theorem dX11_planned_14 : decode cX11_planned 14 = .ok (.invokevirtual 167, 3) := by decide +kernel
theorem dX11_planned_17 : decode cX11_planned 17 = .ok (.ifCond .ne 5, 3) := by decide +kernel
theorem dX11_planned_22 : decode cX11_planned 22 = .ok (.aload_n 0, 1) := by decide +kernel
theorem dX11_planned_23 : decode cX11_planned 23 = .ok (.invokevirtual 360, 3) := by decide +kernel
theorem dX11_planned_26 : decode cX11_planned 26 = .ok (.astore 4, 2) := by decide +kernel
theorem dX11_planned_28 : decode cX11_planned 28 = .ok (.aload 4, 2) := by decide +kernel
theorem dX11_planned_30 : decode cX11_planned 30 = .ok (.iload_n 1, 1) := by decide +kernel
theorem dX11_planned_31 : decode cX11_planned 31 = .ok (.invokevirtual 364, 3) := by decide +kernel
theorem dX11_planned_34 : decode cX11_planned 34 = .ok (.aload 4, 2) := by decide +kernel
theorem dX11_planned_36 : decode cX11_planned 36 = .ok (.iload_n 2, 1) := by decide +kernel
theorem dX11_planned_37 : decode cX11_planned 37 = .ok (.iload_n 3, 1) := by decide +kernel
theorem dX11_planned_38 : decode cX11_planned 38 = .ok (.invokevirtual 370, 3) := by decide +kernel
theorem dX11_planned_41 : decode cX11_planned 41 = .ok (.ireturn, 1) := by decide +kernel

def ow_v_forgetFront : List Cond := [.fieldLink RX11 82 "NearEnough" "edge" "LNearEnough$Front;"]
def vs_v_forgetFront : List Cond := .code yX11_forgetFront cX11_forgetFront 1 none :: (ow_v_forgetFront ++ (([.methodLink RX11 126 yX1_forget, .instanceMethod yX1_forget, .selects RX1 yX1_forget yX1_forget, .initialized RX1] : List Cond) ++ (vs_f_forget ++ (wsX110))))
theorem vg_v_forgetFront : vs_v_forgetFront.all goodWord = true := by decide +kernel
theorem dd_v_forgetFront : yX11_forgetFront.cls = RX11 ∧ yX11_forgetFront.cls ≠ "java/lang/invoke/MethodHandle" ∧ yX11_forgetFront.cls ≠ "java/lang/invoke/VarHandle" ∧ (parseMethodDescriptor yX11_forgetFront.desc).map (fun d => d.parameters.length) = some 0 := by decide +kernel
def rm_v_forgetFront : Room := { frames := 1, cells := 0, slots := 0, locals := 20 }
theorem gd_v_forgetFront_126_f_forget : GoodIn vs_v_forgetFront (wsV RX11 126 RX1 yX1_forget vs_f_forget) := goodIn_app (goodIn_sub (fun w h => (List.mem_cons_of_mem _ (List.mem_append_right _ (List.mem_append_left _ h)))) (by decide +kernel)) (goodIn_sub (fun w h => (List.mem_cons_of_mem _ (List.mem_append_right _ (List.mem_append_right _ (List.mem_append_left _ h))))) vg_f_forget)
set_option maxHeartbeats 4000000 in
set_option maxRecDepth 100000 in
theorem v_forgetFront (l : Launch) (dC : Nat → ClassId) (dI : Nat → Nat → Nat) (κ : CE) (sz : Nat) (φ ψ σ : MS) (hk : PInv κ) (hI : CInv σ) (hF : FInv φ)  : Met l yX11_forgetFront vs_v_forgetFront rm_v_forgetFront (va_Pc [.ref (kA κ 0)] (wSy dC dI (xW κ (xX κ φ ψ) σ) (tT κ) sz)) (va_Qv (fun (u : MS × MS × MS) => CInv u.2.2 ∧ FInv u.1 ∧ (u.2.2 = σ)) (fun (u : MS × MS × MS) => wEn dC dI (va_A (xW κ (xX κ φ ψ) σ) sz) (xW κ (xX κ u.1 u.2.1) u.2.2) []) (va_A (xW κ (xX κ φ ψ) σ) sz)) 0 0 (va_A (xW κ (xX κ φ ψ) σ) sz) := by
  refine Met.ofW (cc := cX11_forgetFront) (maxL := 1) (ret := none) (by decide +kernel) rfl ?_
  intro p e s m args below meth c s₁ B hml hv
  obtain ⟨rfl, hsz, hP, hK, hD0, hE⟩ := hv
  have hx := B.exec
  have hb := B.bytes
  have hr := B.returns
  have hts := atoms_spec (ws := vs_v_forgetFront) B.pre
  have hown : s.vm.findClass RX11 = some m.cls := findClass_of_methodNamed B.named
  have hlocks := B.notSynchronized
  subst hsz
  have hD := hD0.self (sz := s.heap.size)
  generalize hAe : va_A (xW κ (xX κ φ ψ) σ) s.heap.size = A at hD ⊢
  have hA : ∀ q : Nat, s.heap.size ≤ q → A q := fun q h => by rw [← hAe]; exact Or.inr h
  have hl := lv_entry ([.ref (kA κ 0)]) (n := 1) (Nat.le_of_ble_eq_true rfl)
  rw [lg_entry_eq]
  generalize (lg_sl ([.ref (kA κ 0)]) ++ List.replicate (1 - (lg_sl ([.ref (kA κ 0)])).length) Slot.unset).toArray = ls at hl ⊢
  have hl : lv_has ls 1 [(0, .ref (kA κ 0))] := hl
  have ho := fun w (h : w ∈ ow_v_forgetFront) => hts w (List.mem_cons_of_mem _ (List.mem_append_left _ h))
  have hin11 : ∀ w ∈ u_ws RX11 TX11 17, w ∈ vs_v_forgetFront := fun w h => (List.mem_cons_of_mem _ (List.mem_append_right _ (List.mem_append_right _ (List.mem_append_right _ h))))
  refine zQ (fun Q hQ => ?_)
  refine zH (A := A) (ws := (xW κ (xX κ φ ψ) σ)) (fun H hP hS => ?_) hP
  have hk0 := hk.1
  have hk1 := hk.2.1
  have hk2 := hk.2.2.1
  have hKc : va_K (dC, dI) vwCl (cT κ) s := hK.sub [0, 1, 2, 3, 4, 5, 6, 7, 8, 9, 10, 11, 12, 13, 14, 15, 16, 17, 18, 19, 20] rfl
  refine lv_aload_n hx hb dX11_forgetFront_0 rfl (lv_at hl 0 rfl) ?_
  refine va_get (D := (dC, dI)) (ci := 11) (v := va_rf (kE κ)) (C := RX11) (T := TX11) (N := 17) hx hb hts hin11 hown hK hP 0 rfl rfl 15 (Nat.le_of_ble_eq_true rfl) (ho (.fieldLink RX11 82 "NearEnough" "edge" "LNearEnough$Front;") (List.mem_of_getElem? (i := 0) rfl)) (fun _ h9 => h9) rfl dX11_forgetFront_1 ?_
  rcases eb2_ : kE κ with _ | b1_
  · refine zv (v := .null) rfl ?_
    refine lv_ifnullN (tgt := 14) hx hb dX11_forgetFront_4 rfl ?_
    rw [hQ]
    exact W.vret hx hb hr (fun t ht hW => ⟨⟨(φ, ψ, σ), rfl, ⟨hI, hF, rfl⟩, wEn_of hP (hK.sub [] rfl) hD ht hW⟩, hS.F ht⟩) hS.2.2 dX11_forgetFront_14
  · refine zv (v := .ref b1_) rfl ?_
    refine lv_ifnull hx hb dX11_forgetFront_4 ?_
    refine lv_aload_n hx hb dX11_forgetFront_7 rfl (lv_at hl 0 rfl) ?_
    refine va_get (D := (dC, dI)) (ci := 11) (v := va_rf (kE κ)) (C := RX11) (T := TX11) (N := 17) hx hb hts hin11 hown hK hP 0 rfl rfl 15 (Nat.le_of_ble_eq_true rfl) (ho (.fieldLink RX11 82 "NearEnough" "edge" "LNearEnough$Front;") (List.mem_of_getElem? (i := 0) rfl)) (fun _ h9 => h9) rfl dX11_forgetFront_8 ?_
    refine zv (v := .ref b1_) (by rw [eb2_]; rfl) ?_
    refine zy_v (va_runV (As := []) (rest := []) ⟨hx, hb, hml, hown, hts⟩ (f_forget l dC dI κ b1_ (pX κ (kP κ) ψ) H.size φ σ  hk hI hF ) (cwV 0 hts gd_v_forgetFront_126_f_forget rfl rfl rfl dd_f_forget ⟨Nat.le_of_ble_eq_true rfl, Nat.le_of_ble_eq_true rfl⟩) (preVy ((vfP eb2_).mp hP) hK ((vfD eb2_).mp hD) hE (ci := 1) (q0 := 27) rfl rfl) rfl rfl hl.1 rfl (lv_room (Nat.le_of_ble_eq_true rfl)) dX11_forgetFront_11 ⟨Nat.le_of_ble_eq_true rfl, Nat.le_of_ble_eq_true rfl⟩) ((vfD eb2_).mp hD) hS hA (fun τ4_ H locs hq hP hD hS => ?_)
    obtain ⟨φ6_, τ7_⟩ := τ4_
    obtain ⟨hτ7_, hφ6_, q5_⟩ := hq
    have hP : va_P (dC, dI) vwCl (xW κ (xX κ φ6_ ψ) τ7_) H := (vfP eb2_).mpr hP
    have hD : va_D A (xW κ (xX κ φ6_ ψ) τ7_) := (vfD eb2_).mpr hD
    have q5_ : τ7_ = σ := q5_
    refine W.widen (k := 0) (n := 0) (Nat.le_of_ble_eq_true rfl) (Nat.le_of_ble_eq_true rfl) ?_
    rw [hQ]
    exact W.vret hx hb hr (fun t ht hW => ⟨⟨(φ6_, ψ, τ7_), rfl, ⟨hτ7_, hφ6_, q5_⟩, wEn_of hP (hK.sub [] rfl) hD ht hW⟩, hS.F ht⟩) hS.2.2 dX11_forgetFront_14
def ow_v_forgetPlan : List Cond := [.fieldLink RX11 86 "NearEnough" "planner" "LNearEnough$Plan;"]
def vs_v_forgetPlan : List Cond := .code yX11_forgetPlan cX11_forgetPlan 1 none :: (ow_v_forgetPlan ++ (([.methodLink RX11 131 yX2_forget, .instanceMethod yX2_forget, .selects RX2 yX2_forget yX2_forget, .initialized RX2] : List Cond) ++ (vs_p_forget ++ (wsX110))))
theorem vg_v_forgetPlan : vs_v_forgetPlan.all goodWord = true := by decide +kernel
theorem dd_v_forgetPlan : yX11_forgetPlan.cls = RX11 ∧ yX11_forgetPlan.cls ≠ "java/lang/invoke/MethodHandle" ∧ yX11_forgetPlan.cls ≠ "java/lang/invoke/VarHandle" ∧ (parseMethodDescriptor yX11_forgetPlan.desc).map (fun d => d.parameters.length) = some 0 := by decide +kernel
def rm_v_forgetPlan : Room := { frames := 1, cells := 0, slots := 0, locals := 20 }
theorem gd_v_forgetPlan_131_p_forget : GoodIn vs_v_forgetPlan (wsV RX11 131 RX2 yX2_forget vs_p_forget) := goodIn_app (goodIn_sub (fun w h => (List.mem_cons_of_mem _ (List.mem_append_right _ (List.mem_append_left _ h)))) (by decide +kernel)) (goodIn_sub (fun w h => (List.mem_cons_of_mem _ (List.mem_append_right _ (List.mem_append_right _ (List.mem_append_left _ h))))) vg_p_forget)
set_option maxHeartbeats 4000000 in
set_option maxRecDepth 100000 in
theorem v_forgetPlan (l : Launch) (dC : Nat → ClassId) (dI : Nat → Nat → Nat) (κ : CE) (sz : Nat) (φ ψ σ : MS) (hk : PInv κ) (hI : CInv σ) (hF : FInv φ)  : Met l yX11_forgetPlan vs_v_forgetPlan rm_v_forgetPlan (va_Pc [.ref (kA κ 0)] (wSy dC dI (xW κ (xX κ φ ψ) σ) (tT κ) sz)) (va_Qv (fun (u : MS × MS × MS) => CInv u.2.2 ∧ FInv u.1 ∧ (u.2.2 = σ)) (fun (u : MS × MS × MS) => wEn dC dI (va_A (xW κ (xX κ φ ψ) σ) sz) (xW κ (xX κ u.1 u.2.1) u.2.2) []) (va_A (xW κ (xX κ φ ψ) σ) sz)) 0 0 (va_A (xW κ (xX κ φ ψ) σ) sz) := by
  refine Met.ofW (cc := cX11_forgetPlan) (maxL := 1) (ret := none) (by decide +kernel) rfl ?_
  intro p e s m args below meth c s₁ B hml hv
  obtain ⟨rfl, hsz, hP, hK, hD0, hE⟩ := hv
  have hx := B.exec
  have hb := B.bytes
  have hr := B.returns
  have hts := atoms_spec (ws := vs_v_forgetPlan) B.pre
  have hown : s.vm.findClass RX11 = some m.cls := findClass_of_methodNamed B.named
  have hlocks := B.notSynchronized
  subst hsz
  have hD := hD0.self (sz := s.heap.size)
  generalize hAe : va_A (xW κ (xX κ φ ψ) σ) s.heap.size = A at hD ⊢
  have hA : ∀ q : Nat, s.heap.size ≤ q → A q := fun q h => by rw [← hAe]; exact Or.inr h
  have hl := lv_entry ([.ref (kA κ 0)]) (n := 1) (Nat.le_of_ble_eq_true rfl)
  rw [lg_entry_eq]
  generalize (lg_sl ([.ref (kA κ 0)]) ++ List.replicate (1 - (lg_sl ([.ref (kA κ 0)])).length) Slot.unset).toArray = ls at hl ⊢
  have hl : lv_has ls 1 [(0, .ref (kA κ 0))] := hl
  have ho := fun w (h : w ∈ ow_v_forgetPlan) => hts w (List.mem_cons_of_mem _ (List.mem_append_left _ h))
  have hin11 : ∀ w ∈ u_ws RX11 TX11 17, w ∈ vs_v_forgetPlan := fun w h => (List.mem_cons_of_mem _ (List.mem_append_right _ (List.mem_append_right _ (List.mem_append_right _ h))))
  refine zQ (fun Q hQ => ?_)
  refine zH (A := A) (ws := (xW κ (xX κ φ ψ) σ)) (fun H hP hS => ?_) hP
  have hk0 := hk.1
  have hk1 := hk.2.1
  have hk2 := hk.2.2.1
  have hKc : va_K (dC, dI) vwCl (cT κ) s := hK.sub [0, 1, 2, 3, 4, 5, 6, 7, 8, 9, 10, 11, 12, 13, 14, 15, 16, 17, 18, 19, 20] rfl
  refine lv_aload_n hx hb dX11_forgetPlan_0 rfl (lv_at hl 0 rfl) ?_
  refine va_get (D := (dC, dI)) (ci := 11) (v := va_rf (kP κ)) (C := RX11) (T := TX11) (N := 17) hx hb hts hin11 hown hK hP 0 rfl rfl 16 (Nat.le_of_ble_eq_true rfl) (ho (.fieldLink RX11 86 "NearEnough" "planner" "LNearEnough$Plan;") (List.mem_of_getElem? (i := 0) rfl)) (fun _ h9 => h9) rfl dX11_forgetPlan_1 ?_
  rcases eb2_ : kP κ with _ | b1_
  · refine zv (v := .null) rfl ?_
    refine lv_ifnullN (tgt := 14) hx hb dX11_forgetPlan_4 rfl ?_
    rw [hQ]
    exact W.vret hx hb hr (fun t ht hW => ⟨⟨(φ, ψ, σ), rfl, ⟨hI, hF, rfl⟩, wEn_of hP (hK.sub [] rfl) hD ht hW⟩, hS.F ht⟩) hS.2.2 dX11_forgetPlan_14
  · refine zv (v := .ref b1_) rfl ?_
    refine lv_ifnull hx hb dX11_forgetPlan_4 ?_
    refine lv_aload_n hx hb dX11_forgetPlan_7 rfl (lv_at hl 0 rfl) ?_
    refine va_get (D := (dC, dI)) (ci := 11) (v := va_rf (kP κ)) (C := RX11) (T := TX11) (N := 17) hx hb hts hin11 hown hK hP 0 rfl rfl 16 (Nat.le_of_ble_eq_true rfl) (ho (.fieldLink RX11 86 "NearEnough" "planner" "LNearEnough$Plan;") (List.mem_of_getElem? (i := 0) rfl)) (fun _ h9 => h9) rfl dX11_forgetPlan_8 ?_
    refine zv (v := .ref b1_) (by rw [eb2_]; rfl) ?_
    refine zy_v (va_runV (As := []) (rest := []) ⟨hx, hb, hml, hown, hts⟩ (p_forget l dC dI κ b1_ (fX κ (kE κ) φ) H.size ψ σ  hk hI trivial ) (cwV 0 hts gd_v_forgetPlan_131_p_forget rfl rfl rfl dd_p_forget ⟨Nat.le_of_ble_eq_true rfl, Nat.le_of_ble_eq_true rfl⟩) (preVy ((vpP eb2_).mp hP) hK ((vpD eb2_).mp hD) hE (ci := 2) (q0 := 27) rfl rfl) rfl rfl hl.1 rfl (lv_room (Nat.le_of_ble_eq_true rfl)) dX11_forgetPlan_11 ⟨Nat.le_of_ble_eq_true rfl, Nat.le_of_ble_eq_true rfl⟩) ((vpD eb2_).mp hD) hS hA (fun τ4_ H locs hq hP hD hS => ?_)
    obtain ⟨φ6_, τ7_⟩ := τ4_
    obtain ⟨hτ7_, hφ6_, q5_⟩ := hq
    have hP : va_P (dC, dI) vwCl (xW κ (xX κ φ φ6_) τ7_) H := (vpP eb2_).mpr hP
    have hD : va_D A (xW κ (xX κ φ φ6_) τ7_) := (vpD eb2_).mpr hD
    have q5_ : τ7_ = σ := q5_
    refine W.widen (k := 0) (n := 0) (Nat.le_of_ble_eq_true rfl) (Nat.le_of_ble_eq_true rfl) ?_
    rw [hQ]
    exact W.vret hx hb hr (fun t ht hW => ⟨⟨(φ, φ6_, τ7_), rfl, ⟨hτ7_, hF, q5_⟩, wEn_of hP (hK.sub [] rfl) hD ht hW⟩, hS.F ht⟩) hS.2.2 dX11_forgetPlan_14
def ow_v_sheet : List Cond := [.fieldLink RX11 33 "NearEnough" "sheets" "LNearEnough$Sheets;", .fieldLink RX11 111 "NearEnough$Sheets" "count" "I", .fieldLink RX11 151 "NearEnough$Sheets" "kept" "[Z", .fieldLink RX11 26 "NearEnough" "told" "LNearEnough$Program;", .fieldLink RX11 58 "NearEnough" "worker" "LNearEnough$Worker;"]
def vs_v_sheet : List Cond := .code yX11_sheet cX11_sheet 3 (some .int) :: (ow_v_sheet ++ (([.methodLink RX11 155 yX7_lay, .instanceMethod yX7_lay, .selects RX7 yX7_lay yX7_lay, .initialized RX7] : List Cond) ++ (vs_k_lay ++ (([.methodLink RX11 159 yX11_lastStep, .instanceMethod yX11_lastStep, .selects RX11 yX11_lastStep yX11_lastStep, .initialized RX11] : List Cond) ++ (vs_k_lastStep ++ (([.methodLink RX11 163 yX10_workPlain, .instanceMethod yX10_workPlain, .selects RX10 yX10_workPlain yX10_workPlain, .initialized RX10] : List Cond) ++ (vs_k_workPlain ++ (([.methodLink RX11 120 yX11_forgetPlan, .instanceMethod yX11_forgetPlan, .selects RX11 yX11_forgetPlan yX11_forgetPlan, .initialized RX11] : List Cond) ++ (vs_v_forgetPlan ++ (wsX70 ++ (wsX110)))))))))))
theorem vg_v_sheet : vs_v_sheet.all goodWord = true := by decide +kernel
theorem dd_v_sheet : yX11_sheet.cls = RX11 ∧ yX11_sheet.cls ≠ "java/lang/invoke/MethodHandle" ∧ yX11_sheet.cls ≠ "java/lang/invoke/VarHandle" ∧ (parseMethodDescriptor yX11_sheet.desc).map (fun d => d.parameters.length) = some 1 := by decide +kernel
def rm_v_sheet : Room := { frames := 5, cells := 0, slots := 0, locals := 136 }
theorem gd_v_sheet_155_k_lay : GoodIn vs_v_sheet (wsV RX11 155 RX7 yX7_lay vs_k_lay) := goodIn_app (goodIn_sub (fun w h => (List.mem_cons_of_mem _ (List.mem_append_right _ (List.mem_append_left _ h)))) (by decide +kernel)) (goodIn_sub (fun w h => (List.mem_cons_of_mem _ (List.mem_append_right _ (List.mem_append_right _ (List.mem_append_left _ h))))) vg_k_lay)
theorem gd_v_sheet_159_k_lastStep : GoodIn vs_v_sheet (wsV RX11 159 RX11 yX11_lastStep vs_k_lastStep) := goodIn_app (goodIn_sub (fun w h => (List.mem_cons_of_mem _ (List.mem_append_right _ (List.mem_append_right _ (List.mem_append_right _ (List.mem_append_left _ h)))))) (by decide +kernel)) (goodIn_sub (fun w h => (List.mem_cons_of_mem _ (List.mem_append_right _ (List.mem_append_right _ (List.mem_append_right _ (List.mem_append_right _ (List.mem_append_left _ h))))))) vg_k_lastStep)
theorem gd_v_sheet_163_k_workPlain : GoodIn vs_v_sheet (wsV RX11 163 RX10 yX10_workPlain vs_k_workPlain) := goodIn_app (goodIn_sub (fun w h => (List.mem_cons_of_mem _ (List.mem_append_right _ (List.mem_append_right _ (List.mem_append_right _ (List.mem_append_right _ (List.mem_append_right _ (List.mem_append_left _ h)))))))) (by decide +kernel)) (goodIn_sub (fun w h => (List.mem_cons_of_mem _ (List.mem_append_right _ (List.mem_append_right _ (List.mem_append_right _ (List.mem_append_right _ (List.mem_append_right _ (List.mem_append_right _ (List.mem_append_left _ h))))))))) vg_k_workPlain)
theorem gd_v_sheet_120_v_forgetPlan : GoodIn vs_v_sheet (wsV RX11 120 RX11 yX11_forgetPlan vs_v_forgetPlan) := goodIn_app (goodIn_sub (fun w h => (List.mem_cons_of_mem _ (List.mem_append_right _ (List.mem_append_right _ (List.mem_append_right _ (List.mem_append_right _ (List.mem_append_right _ (List.mem_append_right _ (List.mem_append_right _ (List.mem_append_left _ h)))))))))) (by decide +kernel)) (goodIn_sub (fun w h => (List.mem_cons_of_mem _ (List.mem_append_right _ (List.mem_append_right _ (List.mem_append_right _ (List.mem_append_right _ (List.mem_append_right _ (List.mem_append_right _ (List.mem_append_right _ (List.mem_append_right _ (List.mem_append_left _ h))))))))))) vg_v_forgetPlan)
set_option maxHeartbeats 4000000 in
set_option maxRecDepth 100000 in
theorem v_sheet (l : Launch) (dC : Nat → ClassId) (dI : Nat → Nat → Nat) (κ : CE) (sz : Nat) (φ ψ σ : MS) (x : Int32) (hk : PInv κ) (hI : CInv σ) (hF : FInv φ)  : Met l yX11_sheet vs_v_sheet rm_v_sheet (va_Pc [.ref (kA κ 0), .int x] (wSy dC dI (xW κ (xX κ φ ψ) σ) (tT κ) sz)) (va_Qi (fun (r : Int32) (u : MS × MS × MS) => CInv u.2.2 ∧ FInv u.1 ∧ True) (fun (u : MS × MS × MS) => wEn dC dI (va_A (xW κ (xX κ φ ψ) σ) sz) (xW κ (xX κ u.1 u.2.1) u.2.2) []) (va_A (xW κ (xX κ φ ψ) σ) sz)) 0 0 (va_A (xW κ (xX κ φ ψ) σ) sz) := by
  refine Met.ofW (cc := cX11_sheet) (maxL := 3) (ret := (some .int)) (by decide +kernel) rfl ?_
  intro p e s m args below meth c s₁ B hml hv
  obtain ⟨rfl, hsz, hP, hK, hD0, hE⟩ := hv
  have hx := B.exec
  have hb := B.bytes
  have hr := B.returns
  have hts := atoms_spec (ws := vs_v_sheet) B.pre
  have hown : s.vm.findClass RX11 = some m.cls := findClass_of_methodNamed B.named
  have hlocks := B.notSynchronized
  subst hsz
  have hD := hD0.self (sz := s.heap.size)
  generalize hAe : va_A (xW κ (xX κ φ ψ) σ) s.heap.size = A at hD ⊢
  have hA : ∀ q : Nat, s.heap.size ≤ q → A q := fun q h => by rw [← hAe]; exact Or.inr h
  have hl := lv_entry ([.ref (kA κ 0), .int x]) (n := 3) (Nat.le_of_ble_eq_true rfl)
  rw [lg_entry_eq]
  generalize (lg_sl ([.ref (kA κ 0), .int x]) ++ List.replicate (3 - (lg_sl ([.ref (kA κ 0), .int x])).length) Slot.unset).toArray = ls at hl ⊢
  have hl : lv_has ls 3 [(0, .ref (kA κ 0)), (1, .int x)] := hl
  have ho := fun w (h : w ∈ ow_v_sheet) => hts w (List.mem_cons_of_mem _ (List.mem_append_left _ h))
  have hin7 : ∀ w ∈ u_ws RX7 TX7 3, w ∈ vs_v_sheet := fun w h => (List.mem_cons_of_mem _ (List.mem_append_right _ (List.mem_append_right _ (List.mem_append_right _ (List.mem_append_right _ (List.mem_append_right _ (List.mem_append_right _ (List.mem_append_right _ (List.mem_append_right _ (List.mem_append_right _ (List.mem_append_left _ h)))))))))))
  have hin11 : ∀ w ∈ u_ws RX11 TX11 17, w ∈ vs_v_sheet := fun w h => (List.mem_cons_of_mem _ (List.mem_append_right _ (List.mem_append_right _ (List.mem_append_right _ (List.mem_append_right _ (List.mem_append_right _ (List.mem_append_right _ (List.mem_append_right _ (List.mem_append_right _ (List.mem_append_right _ (List.mem_append_right _ h)))))))))))
  refine zQ (fun Q hQ => ?_)
  refine zH (A := A) (ws := (xW κ (xX κ φ ψ) σ)) (fun H hP hS => ?_) hP
  have hk0 := hk.1
  have hk1 := hk.2.1
  have hk2 := hk.2.2.1
  have hKc : va_K (dC, dI) vwCl (cT κ) s := hK.sub [0, 1, 2, 3, 4, 5, 6, 7, 8, 9, 10, 11, 12, 13, 14, 15, 16, 17, 18, 19, 20] rfl
  have bσ_12 : 0 ≤ (σ.1 12).toInt ∧ (σ.1 12).toInt ≤ 40 := hI.1 12
  refine lv_aload_n hx hb dX11_sheet_0 rfl (lv_at hl 0 rfl) ?_
  refine va_get (D := (dC, dI)) (ci := 11) (v := .ref (kA κ 12)) (C := RX11) (T := TX11) (N := 17) hx hb hts hin11 hown hK hP 0 rfl rfl 5 (Nat.le_of_ble_eq_true rfl) (ho (.fieldLink RX11 33 "NearEnough" "sheets" "LNearEnough$Sheets;") (List.mem_of_getElem? (i := 0) rfl)) (fun _ h9 => h9) rfl dX11_sheet_1 ?_
  have bσ_12 : 0 ≤ (σ.1 12).toInt ∧ (σ.1 12).toInt ≤ 40 := hI.1 12
  refine va_get (D := (dC, dI)) (ci := 7) (v := .int (σ.1 12)) (C := RX7) (T := TX7) (N := 3) hx hb hts hin7 hown hK hP 12 rfl rfl 2 (Nat.le_of_ble_eq_true rfl) (ho (.fieldLink RX11 111 "NearEnough$Sheets" "count" "I") (List.mem_of_getElem? (i := 1) rfl)) (fun _ h9 => h9) rfl dX11_sheet_4 ?_
  refine lv_bipush (v := 40) hx hb dX11_sheet_7 rg_73 ?_
  refine lv_icmp_lt (tgt := 14) hx hb dX11_sheet_9 rfl (fun c1_ => ?_) (fun c1_ => ?_)
  · have tc1_ := (show (σ.1 12).toInt < 40 from ti_lt rfl rg_74 c1_)
    refine lv_aload_n hx hb dX11_sheet_14 rfl (lv_at hl 0 rfl) ?_
    refine va_get (D := (dC, dI)) (ci := 11) (v := .ref (kA κ 12)) (C := RX11) (T := TX11) (N := 17) hx hb hts hin11 hown hK hP 0 rfl rfl 5 (Nat.le_of_ble_eq_true rfl) (ho (.fieldLink RX11 33 "NearEnough" "sheets" "LNearEnough$Sheets;") (List.mem_of_getElem? (i := 0) rfl)) (fun _ h9 => h9) rfl dX11_sheet_15 ?_
    have bσ_12 : 0 ≤ (σ.1 12).toInt ∧ (σ.1 12).toInt ≤ 40 := hI.1 12
    refine va_get (D := (dC, dI)) (ci := 7) (v := .int (σ.1 12)) (C := RX7) (T := TX7) (N := 3) hx hb hts hin7 hown hK hP 12 rfl rfl 2 (Nat.le_of_ble_eq_true rfl) (ho (.fieldLink RX11 111 "NearEnough$Sheets" "count" "I") (List.mem_of_getElem? (i := 1) rfl)) (fun _ h9 => h9) rfl dX11_sheet_18 ?_
    refine lv_istore_n (lv' := [(2, .int (σ.1 12)), (0, .ref (kA κ 0)), (1, .int x)]) hx hb dX11_sheet_21 rfl hl (Nat.le_of_ble_eq_true rfl) rfl (fun ls hl => ?_)
    refine lv_aload_n hx hb dX11_sheet_22 rfl (lv_at hl 1 rfl) ?_
    refine va_get (D := (dC, dI)) (ci := 11) (v := .ref (kA κ 12)) (C := RX11) (T := TX11) (N := 17) hx hb hts hin11 hown hK hP 0 rfl rfl 5 (Nat.le_of_ble_eq_true rfl) (ho (.fieldLink RX11 33 "NearEnough" "sheets" "LNearEnough$Sheets;") (List.mem_of_getElem? (i := 0) rfl)) (fun _ h9 => h9) rfl dX11_sheet_23 ?_
    refine va_get (D := (dC, dI)) (ci := 7) (v := .ref (kA κ 14)) (C := RX7) (T := TX7) (N := 3) hx hb hts hin7 hown hK hP 12 rfl rfl 1 (Nat.le_of_ble_eq_true rfl) (ho (.fieldLink RX11 151 "NearEnough$Sheets" "kept" "[Z") (List.mem_of_getElem? (i := 2) rfl)) (fun _ h9 => h9) rfl dX11_sheet_26 ?_
    refine lv_iload_n hx hb dX11_sheet_29 rfl (lv_at hl 0 rfl) ?_
    refine lv_iload_n hx hb dX11_sheet_30 rfl (lv_at hl 2 rfl) ?_
    have o1 : 0 ≤ (σ.1 12).toInt := by omega
    have o2 : (σ.1 12).toInt < ((40 : Nat) : Int) := by omega
    refine va_zast hx hb hK hP hD hS 14 11 rfl rfl (ti_inx o1 o2) dX11_sheet_31 (fun H locs hP hD hS => ?_)
    obtain ⟨f2_, ef2_⟩ : ∃ f9 : Nat → Int32, f9 = upd (σ.2.1 11) (Int32.toNatClampNeg (σ.1 12)) (vp_nar .boolean x) := ⟨_, rfl⟩
    have hP : va_P (dC, dI) vwCl (xW κ (xX κ φ ψ) (sA σ 11 f2_)) H := by rw [ef2_]; exact hP
    have hD : va_D A (xW κ (xX κ φ ψ) (sA σ 11 f2_)) := by rw [ef2_]; exact hD
    refine lv_aload_n hx hb dX11_sheet_32 rfl (lv_at hl 1 rfl) ?_
    refine va_get (D := (dC, dI)) (ci := 11) (v := .ref (kA κ 12)) (C := RX11) (T := TX11) (N := 17) hx hb hts hin11 hown hK hP 0 rfl rfl 5 (Nat.le_of_ble_eq_true rfl) (ho (.fieldLink RX11 33 "NearEnough" "sheets" "LNearEnough$Sheets;") (List.mem_of_getElem? (i := 0) rfl)) (fun _ h9 => h9) rfl dX11_sheet_33 ?_
    refine lv_iload_n hx hb dX11_sheet_36 rfl (lv_at hl 0 rfl) ?_
    refine lv_iconst (v := 0) hx hb dX11_sheet_37 rg_0 ?_
    refine lv_aload_n hx hb dX11_sheet_38 rfl (lv_at hl 1 rfl) ?_
    refine va_get (D := (dC, dI)) (ci := 11) (v := .ref (kA κ 6)) (C := RX11) (T := TX11) (N := 17) hx hb hts hin11 hown hK hP 0 rfl rfl 4 (Nat.le_of_ble_eq_true rfl) (ho (.fieldLink RX11 26 "NearEnough" "told" "LNearEnough$Program;") (List.mem_of_getElem? (i := 3) rfl)) (fun _ h9 => h9) rfl dX11_sheet_39 ?_
    have kk3_ : (0 : Int32).toInt = 0 := rg_11
    have o3 : 0 ≤ ((σ.1 12)).toInt := by omega
    have o4 : ((σ.1 12)).toInt ≤ 40 := by omega
    refine zy_v (va_runV (As := [.int (σ.1 12), .int 0, .ref (kA κ 6)]) (rest := []) ⟨hx, hb, hml, hown, hts⟩ (k_lay l dC dI (ky κ (xX κ φ ψ)) H.size (sA σ 11 f2_) (σ.1 12) 0 hk (CInv.sA (k := 11) (f := f2_) hI (fun j _ => Inv.any _)) ⟨o3, o4⟩) (cwV 3 hts gd_v_sheet_155_k_lay rfl rfl rfl dd_k_lay ⟨Nat.le_of_ble_eq_true rfl, Nat.le_of_ble_eq_true rfl⟩) (preVy (xcP hP) hKc (xcD hD) hE (ci := 7) (q0 := 12) rfl rfl) rfl rfl hl.1 rfl (lv_room (Nat.le_of_ble_eq_true rfl)) dX11_sheet_42 ⟨Nat.le_of_ble_eq_true rfl, Nat.le_of_ble_eq_true rfl⟩) (xcD hD) hS hA (fun τ5_ H locs hq hP hD hS => ?_)
    obtain ⟨hτ5_, q6_⟩ := hq
    have bτ5__12 : 0 ≤ (τ5_.1 12).toInt ∧ (τ5_.1 12).toInt ≤ 40 := hτ5_.1 12
    have hP : va_P (dC, dI) vwCl (xW κ (xX κ φ ψ) τ5_) H := cxP hP
    have hD : va_D A (xW κ (xX κ φ ψ) τ5_) := cxD hD
    refine W.widen (k := 0) (n := 0) (Nat.le_of_ble_eq_true rfl) (Nat.le_of_ble_eq_true rfl) ?_
    refine lv_aload_n hx hb dX11_sheet_45 rfl (lv_at hl 1 rfl) ?_
    refine va_get (D := (dC, dI)) (ci := 11) (v := .ref (kA κ 12)) (C := RX11) (T := TX11) (N := 17) hx hb hts hin11 hown hK hP 0 rfl rfl 5 (Nat.le_of_ble_eq_true rfl) (ho (.fieldLink RX11 33 "NearEnough" "sheets" "LNearEnough$Sheets;") (List.mem_of_getElem? (i := 0) rfl)) (fun _ h9 => h9) rfl dX11_sheet_46 ?_
    refine lv_iload_n hx hb dX11_sheet_49 rfl (lv_at hl 0 rfl) ?_
    refine lv_iconst (v := 1) hx hb dX11_sheet_50 rg_6 ?_
    refine lv_iadd hx hb dX11_sheet_51 ?_
    refine lv_topi (fun z7_ ez7_ => ?_)
    have o5 : -2147483648 ≤ (σ.1 12).toInt + 1 := by omega
    have o6 : (σ.1 12).toInt + 1 ≤ 2147483647 := by omega
    have tz7_ : z7_.toInt = (σ.1 12).toInt + 1 := ti_add ez7_ rfl rg_18 o5 o6
    refine va_put (D := (dC, dI)) (ci := 7) (v := .int z7_) (ty := tyX7 2) (C := RX7) (T := TX7) (N := 3) hx hb hts hin7 tyX7 tyX7_ok nmX7 hown hK hP hD hS 12 rfl rfl 2 (Nat.le_of_ble_eq_true rfl) (ho (.fieldLink RX11 111 "NearEnough$Sheets" "count" "I") (List.mem_of_getElem? (i := 1) rfl)) (fun _ h9 => h9) rfl (tyX7_ok 2 (Nat.le_of_ble_eq_true rfl)) rfl rfl (Nat.le_of_ble_eq_true rfl) dX11_sheet_52 (fun H locs hP hD hS => ?_)
    have hP : va_P (dC, dI) vwCl (xW κ (xX κ φ ψ) (sI τ5_ 12 z7_)) H := hP
    have hD : va_D A (xW κ (xX κ φ ψ) (sI τ5_ 12 z7_)) := hD
    refine lv_aload_n hx hb dX11_sheet_55 rfl (lv_at hl 1 rfl) ?_
    refine va_get (D := (dC, dI)) (ci := 11) (v := .ref (kA κ 24)) (C := RX11) (T := TX11) (N := 17) hx hb hts hin11 hown hK hP 0 rfl rfl 8 (Nat.le_of_ble_eq_true rfl) (ho (.fieldLink RX11 58 "NearEnough" "worker" "LNearEnough$Worker;") (List.mem_of_getElem? (i := 4) rfl)) (fun _ h9 => h9) rfl dX11_sheet_56 ?_
    refine lv_iload_n hx hb dX11_sheet_59 rfl (lv_at hl 0 rfl) ?_
    refine lv_aload_n hx hb dX11_sheet_60 rfl (lv_at hl 1 rfl) ?_
    have o7 : 0 ≤ z7_.toInt := by omega
    have o8 : z7_.toInt ≤ 40 := by omega
    refine zy_i (va_runV (As := []) (rest := [.int (σ.1 12), .ref (kA κ 24)]) ⟨hx, hb, hml, hown, hts⟩ (k_lastStep l dC dI (ky κ (xX κ φ ψ)) H.size (sI τ5_ 12 z7_)  hk (CInv.sI (k := 12) (v := z7_) hτ5_ ⟨o7, o8⟩) ) (cwV 0 hts gd_v_sheet_159_k_lastStep rfl rfl rfl dd_k_lastStep ⟨Nat.le_of_ble_eq_true rfl, Nat.le_of_ble_eq_true rfl⟩) (preVy (xcP hP) hKc (xcD hD) hE (ci := 11) (q0 := 0) rfl rfl) rfl rfl hl.1 rfl (lv_room (Nat.le_of_ble_eq_true rfl)) dX11_sheet_61 ⟨Nat.le_of_ble_eq_true rfl, Nat.le_of_ble_eq_true rfl⟩) (xcD hD) hS hA (fun z8_ τ9_ H locs hq hP hD hS => ?_)
    obtain ⟨hτ9_, q10_⟩ := hq
    rw [hτ9_] at hP hD
    have hP : va_P (dC, dI) vwCl (xW κ (xX κ φ ψ) (sI τ5_ 12 z7_)) H := cxP hP
    have hD : va_D A (xW κ (xX κ φ ψ) (sI τ5_ 12 z7_)) := cxD hD
    have q10_ : z8_.toInt = (pI κ 1).toInt - 1 := q10_
    refine W.widen (k := 0) (n := 0) (Nat.le_of_ble_eq_true rfl) (Nat.le_of_ble_eq_true rfl) ?_
    have o9 : -1 ≤ z8_.toInt := by omega
    have o10 : z8_.toInt < (pI κ 1).toInt := by omega
    refine zy_v (va_runV (As := [.int (σ.1 12), .int z8_]) (rest := []) ⟨hx, hb, hml, hown, hts⟩ (k_workPlain l dC dI (ky κ (xX κ φ ψ)) H.size (sI τ5_ 12 z7_) (σ.1 12) z8_ hk (CInv.sI (k := 12) (v := z7_) hτ5_ ⟨o7, o8⟩) ⟨o3, o4⟩ ⟨o9, o10⟩) (cwV 2 hts gd_v_sheet_163_k_workPlain rfl rfl rfl dd_k_workPlain ⟨Nat.le_of_ble_eq_true rfl, Nat.le_of_ble_eq_true rfl⟩) (preVy (xcP hP) hKc (xcD hD) hE (ci := 10) (q0 := 24) rfl rfl) rfl rfl hl.1 rfl (lv_room (Nat.le_of_ble_eq_true rfl)) dX11_sheet_64 ⟨Nat.le_of_ble_eq_true rfl, Nat.le_of_ble_eq_true rfl⟩) (xcD hD) hS hA (fun τ12_ H locs hq hP hD hS => ?_)
    obtain ⟨hτ12_, q13_⟩ := hq
    have bτ12__12 : 0 ≤ (τ12_.1 12).toInt ∧ (τ12_.1 12).toInt ≤ 40 := hτ12_.1 12
    have hP : va_P (dC, dI) vwCl (xW κ (xX κ φ ψ) τ12_) H := cxP hP
    have hD : va_D A (xW κ (xX κ φ ψ) τ12_) := cxD hD
    refine W.widen (k := 0) (n := 0) (Nat.le_of_ble_eq_true rfl) (Nat.le_of_ble_eq_true rfl) ?_
    refine lv_aload_n hx hb dX11_sheet_67 rfl (lv_at hl 1 rfl) ?_
    refine zy_v (va_runV (As := []) (rest := []) ⟨hx, hb, hml, hown, hts⟩ (v_forgetPlan l dC dI κ H.size φ ψ τ12_  hk hτ12_ hF ) (cwV 0 hts gd_v_sheet_120_v_forgetPlan rfl rfl rfl dd_v_forgetPlan ⟨Nat.le_of_ble_eq_true rfl, Nat.le_of_ble_eq_true rfl⟩) (preVy hP hK hD hE (ci := 11) (q0 := 0) rfl rfl) rfl rfl hl.1 rfl (lv_room (Nat.le_of_ble_eq_true rfl)) dX11_sheet_68 ⟨Nat.le_of_ble_eq_true rfl, Nat.le_of_ble_eq_true rfl⟩) hD hS hA (fun τ15_ H locs hq hP hD hS => ?_)
    obtain ⟨φ17_, ψ18_, τ19_⟩ := τ15_
    obtain ⟨hτ19_, hφ17_, q16_⟩ := hq
    have hP : va_P (dC, dI) vwCl (xW κ (xX κ φ17_ ψ18_) τ19_) H := hP
    have hD : va_D A (xW κ (xX κ φ17_ ψ18_) τ19_) := hD
    have bτ19__12 : 0 ≤ (τ19_.1 12).toInt ∧ (τ19_.1 12).toInt ≤ 40 := hτ19_.1 12
    have q16_ : τ19_ = τ12_ := q16_
    refine W.widen (k := 0) (n := 0) (Nat.le_of_ble_eq_true rfl) (Nat.le_of_ble_eq_true rfl) ?_
    refine lv_iload_n hx hb dX11_sheet_71 rfl (lv_at hl 0 rfl) ?_
    rw [hQ]
    exact W.iret (v := (σ.1 12)) hx hb hr (fun t ht hW => ⟨⟨(σ.1 12), (φ17_, ψ18_, τ19_), rfl, ⟨hτ19_, hφ17_, trivial⟩, wEn_of hP (hK.sub [] rfl) hD ht hW⟩, hS.F ht⟩) hS.2.2 dX11_sheet_72
  · have tc1_ := (show 40 ≤ (σ.1 12).toInt from ti_nlt rfl rg_74 c1_)
    refine lv_iconst (v := (-1)) hx hb dX11_sheet_12 rg_53 ?_
    have kk20_ : ((-1) : Int32).toInt = (-1) := rg_489
    rw [hQ]
    exact W.iret (v := (-1)) hx hb hr (fun t ht hW => ⟨⟨(-1), (φ, ψ, σ), rfl, ⟨hI, hF, trivial⟩, wEn_of hP (hK.sub [] rfl) hD ht hW⟩, hS.F ht⟩) hS.2.2 dX11_sheet_13
def ow_v_put : List Cond := [.fieldLink RX11 33 "NearEnough" "sheets" "LNearEnough$Sheets;", .fieldLink RX11 26 "NearEnough" "told" "LNearEnough$Program;", .fieldLink RX11 170 "NearEnough$Program" "rowCount" "I", .fieldLink RX11 173 "NearEnough$Program" "rows" "[LNearEnough$Row;", .fieldLink RX11 177 "NearEnough$Row" "count" "I", .fieldLink RX11 180 "NearEnough$Row" "low" "I", .fieldLink RX11 182 "NearEnough$Row" "high" "I", .fieldLink RX11 184 "NearEnough$Sheets" "numbers" "[I", .fieldLink RX11 187 "NearEnough$Row" "first" "I", .fieldLink RX11 58 "NearEnough" "worker" "LNearEnough$Worker;"]
def vs_v_put : List Cond := .code yX11_put cX11_put 6 (some .boolean) :: (ow_v_put ++ (([.methodLink RX11 167 yX7_has, .instanceMethod yX7_has, .selects RX7 yX7_has yX7_has, .initialized RX7] : List Cond) ++ (vs_k_has ++ (([.methodLink RX11 159 yX11_lastStep, .instanceMethod yX11_lastStep, .selects RX11 yX11_lastStep yX11_lastStep, .initialized RX11] : List Cond) ++ (vs_k_lastStep ++ (([.methodLink RX11 163 yX10_workPlain, .instanceMethod yX10_workPlain, .selects RX10 yX10_workPlain yX10_workPlain, .initialized RX10] : List Cond) ++ (vs_k_workPlain ++ (([.methodLink RX11 120 yX11_forgetPlan, .instanceMethod yX11_forgetPlan, .selects RX11 yX11_forgetPlan yX11_forgetPlan, .initialized RX11] : List Cond) ++ (vs_v_forgetPlan ++ (wsX30 ++ (wsX50 ++ (wsX70 ++ (wsX110)))))))))))))
theorem vg_v_put : vs_v_put.all goodWord = true := by decide +kernel
theorem dd_v_put : yX11_put.cls = RX11 ∧ yX11_put.cls ≠ "java/lang/invoke/MethodHandle" ∧ yX11_put.cls ≠ "java/lang/invoke/VarHandle" ∧ (parseMethodDescriptor yX11_put.desc).map (fun d => d.parameters.length) = some 4 := by decide +kernel
def rm_v_put : Room := { frames := 5, cells := 0, slots := 0, locals := 136 }
theorem gd_v_put_167_k_has : GoodIn vs_v_put (wsV RX11 167 RX7 yX7_has vs_k_has) := goodIn_app (goodIn_sub (fun w h => (List.mem_cons_of_mem _ (List.mem_append_right _ (List.mem_append_left _ h)))) (by decide +kernel)) (goodIn_sub (fun w h => (List.mem_cons_of_mem _ (List.mem_append_right _ (List.mem_append_right _ (List.mem_append_left _ h))))) vg_k_has)
theorem gd_v_put_159_k_lastStep : GoodIn vs_v_put (wsV RX11 159 RX11 yX11_lastStep vs_k_lastStep) := goodIn_app (goodIn_sub (fun w h => (List.mem_cons_of_mem _ (List.mem_append_right _ (List.mem_append_right _ (List.mem_append_right _ (List.mem_append_left _ h)))))) (by decide +kernel)) (goodIn_sub (fun w h => (List.mem_cons_of_mem _ (List.mem_append_right _ (List.mem_append_right _ (List.mem_append_right _ (List.mem_append_right _ (List.mem_append_left _ h))))))) vg_k_lastStep)
theorem gd_v_put_163_k_workPlain : GoodIn vs_v_put (wsV RX11 163 RX10 yX10_workPlain vs_k_workPlain) := goodIn_app (goodIn_sub (fun w h => (List.mem_cons_of_mem _ (List.mem_append_right _ (List.mem_append_right _ (List.mem_append_right _ (List.mem_append_right _ (List.mem_append_right _ (List.mem_append_left _ h)))))))) (by decide +kernel)) (goodIn_sub (fun w h => (List.mem_cons_of_mem _ (List.mem_append_right _ (List.mem_append_right _ (List.mem_append_right _ (List.mem_append_right _ (List.mem_append_right _ (List.mem_append_right _ (List.mem_append_left _ h))))))))) vg_k_workPlain)
theorem gd_v_put_120_v_forgetPlan : GoodIn vs_v_put (wsV RX11 120 RX11 yX11_forgetPlan vs_v_forgetPlan) := goodIn_app (goodIn_sub (fun w h => (List.mem_cons_of_mem _ (List.mem_append_right _ (List.mem_append_right _ (List.mem_append_right _ (List.mem_append_right _ (List.mem_append_right _ (List.mem_append_right _ (List.mem_append_right _ (List.mem_append_left _ h)))))))))) (by decide +kernel)) (goodIn_sub (fun w h => (List.mem_cons_of_mem _ (List.mem_append_right _ (List.mem_append_right _ (List.mem_append_right _ (List.mem_append_right _ (List.mem_append_right _ (List.mem_append_right _ (List.mem_append_right _ (List.mem_append_right _ (List.mem_append_left _ h))))))))))) vg_v_forgetPlan)
set_option maxHeartbeats 4000000 in
set_option maxRecDepth 100000 in
theorem v_put (l : Launch) (dC : Nat → ClassId) (dI : Nat → Nat → Nat) (κ : CE) (sz : Nat) (φ ψ σ : MS) (x : Int32) (y : Int32) (z : Int32) (v : Int32) (hk : PInv κ) (hI : CInv σ) (hF : FInv φ)  : Met l yX11_put vs_v_put rm_v_put (va_Pc [.ref (kA κ 0), .int x, .int y, .int z, .int v] (wSy dC dI (xW κ (xX κ φ ψ) σ) (tT κ) sz)) (va_Qi (fun (r : Int32) (u : MS × MS × MS) => CInv u.2.2 ∧ FInv u.1 ∧ (r.toInt = 0 ∨ r.toInt = 1)) (fun (u : MS × MS × MS) => wEn dC dI (va_A (xW κ (xX κ φ ψ) σ) sz) (xW κ (xX κ u.1 u.2.1) u.2.2) []) (va_A (xW κ (xX κ φ ψ) σ) sz)) 0 0 (va_A (xW κ (xX κ φ ψ) σ) sz) := by
  refine Met.ofW (cc := cX11_put) (maxL := 6) (ret := (some .boolean)) (by decide +kernel) rfl ?_
  intro p e s m args below meth c s₁ B hml hv
  obtain ⟨rfl, hsz, hP, hK, hD0, hE⟩ := hv
  have hx := B.exec
  have hb := B.bytes
  have hr := B.returns
  have hts := atoms_spec (ws := vs_v_put) B.pre
  have hown : s.vm.findClass RX11 = some m.cls := findClass_of_methodNamed B.named
  have hlocks := B.notSynchronized
  subst hsz
  have hD := hD0.self (sz := s.heap.size)
  generalize hAe : va_A (xW κ (xX κ φ ψ) σ) s.heap.size = A at hD ⊢
  have hA : ∀ q : Nat, s.heap.size ≤ q → A q := fun q h => by rw [← hAe]; exact Or.inr h
  have hl := lv_entry ([.ref (kA κ 0), .int x, .int y, .int z, .int v]) (n := 6) (Nat.le_of_ble_eq_true rfl)
  rw [lg_entry_eq]
  generalize (lg_sl ([.ref (kA κ 0), .int x, .int y, .int z, .int v]) ++ List.replicate (6 - (lg_sl ([.ref (kA κ 0), .int x, .int y, .int z, .int v])).length) Slot.unset).toArray = ls at hl ⊢
  have hl : lv_has ls 6 [(0, .ref (kA κ 0)), (1, .int x), (2, .int y), (3, .int z), (4, .int v)] := hl
  have ho := fun w (h : w ∈ ow_v_put) => hts w (List.mem_cons_of_mem _ (List.mem_append_left _ h))
  have hin3 : ∀ w ∈ u_ws RX3 TX3 8, w ∈ vs_v_put := fun w h => (List.mem_cons_of_mem _ (List.mem_append_right _ (List.mem_append_right _ (List.mem_append_right _ (List.mem_append_right _ (List.mem_append_right _ (List.mem_append_right _ (List.mem_append_right _ (List.mem_append_right _ (List.mem_append_right _ (List.mem_append_left _ h)))))))))))
  have hin5 : ∀ w ∈ u_ws RX5 TX5 5, w ∈ vs_v_put := fun w h => (List.mem_cons_of_mem _ (List.mem_append_right _ (List.mem_append_right _ (List.mem_append_right _ (List.mem_append_right _ (List.mem_append_right _ (List.mem_append_right _ (List.mem_append_right _ (List.mem_append_right _ (List.mem_append_right _ (List.mem_append_right _ (List.mem_append_left _ h))))))))))))
  have hin7 : ∀ w ∈ u_ws RX7 TX7 3, w ∈ vs_v_put := fun w h => (List.mem_cons_of_mem _ (List.mem_append_right _ (List.mem_append_right _ (List.mem_append_right _ (List.mem_append_right _ (List.mem_append_right _ (List.mem_append_right _ (List.mem_append_right _ (List.mem_append_right _ (List.mem_append_right _ (List.mem_append_right _ (List.mem_append_right _ (List.mem_append_left _ h)))))))))))))
  have hin11 : ∀ w ∈ u_ws RX11 TX11 17, w ∈ vs_v_put := fun w h => (List.mem_cons_of_mem _ (List.mem_append_right _ (List.mem_append_right _ (List.mem_append_right _ (List.mem_append_right _ (List.mem_append_right _ (List.mem_append_right _ (List.mem_append_right _ (List.mem_append_right _ (List.mem_append_right _ (List.mem_append_right _ (List.mem_append_right _ (List.mem_append_right _ h)))))))))))))
  refine zQ (fun Q hQ => ?_)
  refine zH (A := A) (ws := (xW κ (xX κ φ ψ) σ)) (fun H hP hS => ?_) hP
  have hk0 := hk.1
  have hk1 := hk.2.1
  have hk2 := hk.2.2.1
  have hKc : va_K (dC, dI) vwCl (cT κ) s := hK.sub [0, 1, 2, 3, 4, 5, 6, 7, 8, 9, 10, 11, 12, 13, 14, 15, 16, 17, 18, 19, 20] rfl
  refine lv_aload_n hx hb dX11_put_0 rfl (lv_at hl 0 rfl) ?_
  refine va_get (D := (dC, dI)) (ci := 11) (v := .ref (kA κ 12)) (C := RX11) (T := TX11) (N := 17) hx hb hts hin11 hown hK hP 0 rfl rfl 5 (Nat.le_of_ble_eq_true rfl) (ho (.fieldLink RX11 33 "NearEnough" "sheets" "LNearEnough$Sheets;") (List.mem_of_getElem? (i := 0) rfl)) (fun _ h9 => h9) rfl dX11_put_1 ?_
  refine lv_iload_n hx hb dX11_put_4 rfl (lv_at hl 1 rfl) ?_
  refine zy_i (va_runV (As := [.int x]) (rest := []) ⟨hx, hb, hml, hown, hts⟩ (k_has l dC dI (ky κ (xX κ φ ψ)) H.size σ x hk hI ) (cwV 1 hts gd_v_put_167_k_has rfl rfl rfl dd_k_has ⟨Nat.le_of_ble_eq_true rfl, Nat.le_of_ble_eq_true rfl⟩) (preVy (xcP hP) hKc (xcD hD) hE (ci := 7) (q0 := 12) rfl rfl) rfl rfl hl.1 rfl (lv_room (Nat.le_of_ble_eq_true rfl)) dX11_put_5 ⟨Nat.le_of_ble_eq_true rfl, Nat.le_of_ble_eq_true rfl⟩) (xcD hD) hS hA (fun z1_ τ2_ H locs hq hP hD hS => ?_)
  obtain ⟨hτ2_, q3_⟩ := hq
  rw [hτ2_] at hP hD
  have hP : va_P (dC, dI) vwCl (xW κ (xX κ φ ψ) σ) H := cxP hP
  have hD : va_D A (xW κ (xX κ φ ψ) σ) := cxD hD
  have q3_ : (z1_.toInt = 1 ∧ 0 ≤ x.toInt ∧ x.toInt < 40) ∨ z1_.toInt = 0 := q3_
  refine W.widen (k := 0) (n := 0) (Nat.le_of_ble_eq_true rfl) (Nat.le_of_ble_eq_true rfl) ?_
  refine lv_if_eq (tgt := 26) hx hb dX11_put_8 rfl (fun c4_ => ?_) (fun c4_ => ?_)
  · have tc4_ := (show z1_.toInt = 0 from ti_eq rfl rg_11 c4_)
    refine lv_iconst (v := 0) hx hb dX11_put_26 rg_0 ?_
    have kk5_ : (0 : Int32).toInt = 0 := rg_11
    have o1 : (0 : Int32).toInt = 0 ∨ (0 : Int32).toInt = 1 := by omega
    rw [hQ]
    exact W.zret (v := 0) hx hb hr rfl (fun t ht hW => ⟨⟨0, (φ, ψ, σ), rfl, ⟨hI, hF, o1⟩, wEn_of hP (hK.sub [] rfl) hD ht hW⟩, hS.F ht⟩) hS.2.2 dX11_put_27
  · have tc4_ := (show z1_.toInt ≠ 0 from ti_ne rfl rg_11 c4_)
    refine lv_iload_n hx hb dX11_put_11 rfl (lv_at hl 2 rfl) ?_
    refine lv_if_lt (tgt := 26) hx hb dX11_put_12 rfl (fun c6_ => ?_) (fun c6_ => ?_)
    · have tc6_ := (show y.toInt < 0 from ti_lt rfl rg_11 c6_)
      refine lv_iconst (v := 0) hx hb dX11_put_26 rg_0 ?_
      have kk7_ : (0 : Int32).toInt = 0 := rg_11
      have o2 : (0 : Int32).toInt = 0 ∨ (0 : Int32).toInt = 1 := by omega
      rw [hQ]
      exact W.zret (v := 0) hx hb hr rfl (fun t ht hW => ⟨⟨0, (φ, ψ, σ), rfl, ⟨hI, hF, o2⟩, wEn_of hP (hK.sub [] rfl) hD ht hW⟩, hS.F ht⟩) hS.2.2 dX11_put_27
    · have tc6_ := (show 0 ≤ y.toInt from ti_nlt rfl rg_11 c6_)
      refine lv_iload_n hx hb dX11_put_15 rfl (lv_at hl 2 rfl) ?_
      refine lv_aload_n hx hb dX11_put_16 rfl (lv_at hl 0 rfl) ?_
      refine va_get (D := (dC, dI)) (ci := 11) (v := .ref (kA κ 6)) (C := RX11) (T := TX11) (N := 17) hx hb hts hin11 hown hK hP 0 rfl rfl 4 (Nat.le_of_ble_eq_true rfl) (ho (.fieldLink RX11 26 "NearEnough" "told" "LNearEnough$Program;") (List.mem_of_getElem? (i := 1) rfl)) (fun _ h9 => h9) rfl dX11_put_17 ?_
      refine va_get (D := (dC, dI)) (ci := 3) (v := .int (pI κ 0)) (C := RX3) (T := TX3) (N := 8) hx hb hts hin3 hown hK hP 6 rfl rfl 5 (Nat.le_of_ble_eq_true rfl) (ho (.fieldLink RX11 170 "NearEnough$Program" "rowCount" "I") (List.mem_of_getElem? (i := 2) rfl)) (fun _ h9 => h9) rfl dX11_put_20 ?_
      refine lv_icmp_lt (tgt := 28) hx hb dX11_put_23 rfl (fun c8_ => ?_) (fun c8_ => ?_)
      · have tc8_ := (show y.toInt < (pI κ 0).toInt from ti_lt rfl rfl c8_)
        refine lv_aload_n hx hb dX11_put_28 rfl (lv_at hl 0 rfl) ?_
        refine va_get (D := (dC, dI)) (ci := 11) (v := .ref (kA κ 6)) (C := RX11) (T := TX11) (N := 17) hx hb hts hin11 hown hK hP 0 rfl rfl 4 (Nat.le_of_ble_eq_true rfl) (ho (.fieldLink RX11 26 "NearEnough" "told" "LNearEnough$Program;") (List.mem_of_getElem? (i := 1) rfl)) (fun _ h9 => h9) rfl dX11_put_29 ?_
        refine va_get (D := (dC, dI)) (ci := 3) (v := .ref (kA κ 7)) (C := RX3) (T := TX3) (N := 8) hx hb hts hin3 hown hK hP 6 rfl rfl 0 (Nat.le_of_ble_eq_true rfl) (ho (.fieldLink RX11 173 "NearEnough$Program" "rows" "[LNearEnough$Row;") (List.mem_of_getElem? (i := 3) rfl)) (fun _ h9 => h9) rfl dX11_put_32 ?_
        refine lv_iload_n hx hb dX11_put_35 rfl (lv_at hl 2 rfl) ?_
        have o3 : 0 ≤ y.toInt := by omega
        have o4 : y.toInt < ((2 : Nat) : Int) := by omega
        refine va_aldq hx hb hK hP 7 5 rfl rfl (ti_inx o3 o4) dX11_put_36 ?_
        have o5 : y.toInt < (pI κ 0).toInt := by omega
        obtain ⟨a9_, t10_, ea11_, ga12_⟩ := hk.rw (x := y) o3 o5
        refine zv (v := .ref a9_) (by rw [ea11_]; rfl) ?_
        refine lv_astore (lv' := [(5, .ref a9_), (0, .ref (kA κ 0)), (1, .int x), (2, .int y), (3, .int z), (4, .int v)]) hx hb dX11_put_37 hl (Nat.le_of_ble_eq_true rfl) rfl (fun ls hl => ?_)
        refine lv_iload_n hx hb dX11_put_39 rfl (lv_at hl 4 rfl) ?_
        refine lv_if_lt (tgt := 72) hx hb dX11_put_40 rfl (fun c13_ => ?_) (fun c13_ => ?_)
        · have tc13_ := (show z.toInt < 0 from ti_lt rfl rg_11 c13_)
          refine lv_iconst (v := 0) hx hb dX11_put_72 rg_0 ?_
          have kk14_ : (0 : Int32).toInt = 0 := rg_11
          have o6 : (0 : Int32).toInt = 0 ∨ (0 : Int32).toInt = 1 := by omega
          rw [hQ]
          exact W.zret (v := 0) hx hb hr rfl (fun t ht hW => ⟨⟨0, (φ, ψ, σ), rfl, ⟨hI, hF, o6⟩, wEn_of hP (hK.sub [] rfl) hD ht hW⟩, hS.F ht⟩) hS.2.2 dX11_put_73
        · have tc13_ := (show 0 ≤ z.toInt from ti_nlt rfl rg_11 c13_)
          refine lv_iload_n hx hb dX11_put_43 rfl (lv_at hl 4 rfl) ?_
          refine lv_aload hx hb dX11_put_44 (lv_at hl 0 rfl) ?_
          have bb15_ : 1 ≤ (t10_.1 0).toInt ∧ (t10_.1 0).toInt ≤ 6 ∧ 0 ≤ (t10_.1 3).toInt ∧ (t10_.1 3).toInt + (t10_.1 0).toInt ≤ 12 := ga12_.2.2
          obtain ⟨kp16_, hkp16_⟩ := cpl (κ := (ky κ (xX κ φ ψ))) (σ := σ) ga12_.1 ga12_.2.1
          refine va_get (D := (dC, dI)) (ci := 5) (v := .int (t10_.1 0)) (C := RX5) (T := TX5) (N := 5) hx hb hts hin5 hown hK hP kp16_ hkp16_ rfl 1 (Nat.le_of_ble_eq_true rfl) (ho (.fieldLink RX11 177 "NearEnough$Row" "count" "I") (List.mem_of_getElem? (i := 4) rfl)) (fun _ h9 => h9) rfl dX11_put_46 ?_
          refine lv_icmp_ge (tgt := 72) hx hb dX11_put_49 rfl (fun c17_ => ?_) (fun c17_ => ?_)
          · have tc17_ := (show (t10_.1 0).toInt ≤ z.toInt from ti_le rfl rfl c17_)
            refine lv_iconst (v := 0) hx hb dX11_put_72 rg_0 ?_
            have kk18_ : (0 : Int32).toInt = 0 := rg_11
            have o7 : (0 : Int32).toInt = 0 ∨ (0 : Int32).toInt = 1 := by omega
            rw [hQ]
            exact W.zret (v := 0) hx hb hr rfl (fun t ht hW => ⟨⟨0, (φ, ψ, σ), rfl, ⟨hI, hF, o7⟩, wEn_of hP (hK.sub [] rfl) hD ht hW⟩, hS.F ht⟩) hS.2.2 dX11_put_73
          · have tc17_ := (show z.toInt < (t10_.1 0).toInt from ti_nle rfl rfl c17_)
            refine lv_iload hx hb dX11_put_52 (lv_at hl 5 rfl) ?_
            refine lv_aload hx hb dX11_put_54 (lv_at hl 0 rfl) ?_
            obtain ⟨kp19_, hkp19_⟩ := cpl (κ := (ky κ (xX κ φ ψ))) (σ := σ) ga12_.1 ga12_.2.1
            refine va_get (D := (dC, dI)) (ci := 5) (v := .int (t10_.1 1)) (C := RX5) (T := TX5) (N := 5) hx hb hts hin5 hown hK hP kp19_ hkp19_ rfl 2 (Nat.le_of_ble_eq_true rfl) (ho (.fieldLink RX11 180 "NearEnough$Row" "low" "I") (List.mem_of_getElem? (i := 5) rfl)) (fun _ h9 => h9) rfl dX11_put_56 ?_
            refine lv_icmp_lt (tgt := 72) hx hb dX11_put_59 rfl (fun c20_ => ?_) (fun c20_ => ?_)
            · have tc20_ := (show v.toInt < (t10_.1 1).toInt from ti_lt rfl rfl c20_)
              refine lv_iconst (v := 0) hx hb dX11_put_72 rg_0 ?_
              have kk21_ : (0 : Int32).toInt = 0 := rg_11
              have o8 : (0 : Int32).toInt = 0 ∨ (0 : Int32).toInt = 1 := by omega
              rw [hQ]
              exact W.zret (v := 0) hx hb hr rfl (fun t ht hW => ⟨⟨0, (φ, ψ, σ), rfl, ⟨hI, hF, o8⟩, wEn_of hP (hK.sub [] rfl) hD ht hW⟩, hS.F ht⟩) hS.2.2 dX11_put_73
            · have tc20_ := (show (t10_.1 1).toInt ≤ v.toInt from ti_nlt rfl rfl c20_)
              refine lv_iload hx hb dX11_put_62 (lv_at hl 5 rfl) ?_
              refine lv_aload hx hb dX11_put_64 (lv_at hl 0 rfl) ?_
              obtain ⟨kp22_, hkp22_⟩ := cpl (κ := (ky κ (xX κ φ ψ))) (σ := σ) ga12_.1 ga12_.2.1
              refine va_get (D := (dC, dI)) (ci := 5) (v := .int (t10_.1 2)) (C := RX5) (T := TX5) (N := 5) hx hb hts hin5 hown hK hP kp22_ hkp22_ rfl 3 (Nat.le_of_ble_eq_true rfl) (ho (.fieldLink RX11 182 "NearEnough$Row" "high" "I") (List.mem_of_getElem? (i := 6) rfl)) (fun _ h9 => h9) rfl dX11_put_66 ?_
              refine lv_icmp_le (tgt := 74) hx hb dX11_put_69 rfl (fun c23_ => ?_) (fun c23_ => ?_)
              · have tc23_ := (show v.toInt ≤ (t10_.1 2).toInt from ti_le rfl rfl c23_)
                refine lv_aload_n hx hb dX11_put_74 rfl (lv_at hl 1 rfl) ?_
                refine va_get (D := (dC, dI)) (ci := 11) (v := .ref (kA κ 12)) (C := RX11) (T := TX11) (N := 17) hx hb hts hin11 hown hK hP 0 rfl rfl 5 (Nat.le_of_ble_eq_true rfl) (ho (.fieldLink RX11 33 "NearEnough" "sheets" "LNearEnough$Sheets;") (List.mem_of_getElem? (i := 0) rfl)) (fun _ h9 => h9) rfl dX11_put_75 ?_
                refine va_get (D := (dC, dI)) (ci := 7) (v := .ref (kA κ 13)) (C := RX7) (T := TX7) (N := 3) hx hb hts hin7 hown hK hP 12 rfl rfl 0 (Nat.le_of_ble_eq_true rfl) (ho (.fieldLink RX11 184 "NearEnough$Sheets" "numbers" "[I") (List.mem_of_getElem? (i := 7) rfl)) (fun _ h9 => h9) rfl dX11_put_78 ?_
                refine lv_iload_n hx hb dX11_put_81 rfl (lv_at hl 2 rfl) ?_
                refine lv_bipush (v := 12) hx hb dX11_put_82 rg_57 ?_
                refine lv_imul hx hb dX11_put_84 ?_
                refine lv_topi (fun z24_ ez24_ => ?_)
                have o9 : -2147483648 ≤ x.toInt * 12 := by omega
                have o10 : x.toInt * 12 ≤ 2147483647 := by omega
                have tz24_ : z24_.toInt = x.toInt * 12 := ti_mul ez24_ rfl rg_58 o9 o10
                refine lv_aload hx hb dX11_put_85 (lv_at hl 0 rfl) ?_
                have bb25_ : 1 ≤ (t10_.1 0).toInt ∧ (t10_.1 0).toInt ≤ 6 ∧ 0 ≤ (t10_.1 3).toInt ∧ (t10_.1 3).toInt + (t10_.1 0).toInt ≤ 12 := ga12_.2.2
                obtain ⟨kp26_, hkp26_⟩ := cpl (κ := (ky κ (xX κ φ ψ))) (σ := σ) ga12_.1 ga12_.2.1
                refine va_get (D := (dC, dI)) (ci := 5) (v := .int (t10_.1 3)) (C := RX5) (T := TX5) (N := 5) hx hb hts hin5 hown hK hP kp26_ hkp26_ rfl 4 (Nat.le_of_ble_eq_true rfl) (ho (.fieldLink RX11 187 "NearEnough$Row" "first" "I") (List.mem_of_getElem? (i := 8) rfl)) (fun _ h9 => h9) rfl dX11_put_87 ?_
                refine lv_iadd hx hb dX11_put_90 ?_
                refine lv_topi (fun z27_ ez27_ => ?_)
                have o11 : -2147483648 ≤ z24_.toInt + (t10_.1 3).toInt := by omega
                have o12 : z24_.toInt + (t10_.1 3).toInt ≤ 2147483647 := by omega
                have tz27_ : z27_.toInt = z24_.toInt + (t10_.1 3).toInt := ti_add ez27_ rfl rfl o11 o12
                refine lv_iload_n hx hb dX11_put_91 rfl (lv_at hl 4 rfl) ?_
                refine lv_iadd hx hb dX11_put_92 ?_
                refine lv_topi (fun z28_ ez28_ => ?_)
                have o13 : -2147483648 ≤ z27_.toInt + z.toInt := by omega
                have o14 : z27_.toInt + z.toInt ≤ 2147483647 := by omega
                have tz28_ : z28_.toInt = z27_.toInt + z.toInt := ti_add ez28_ rfl rfl o13 o14
                refine lv_iload hx hb dX11_put_93 (lv_at hl 5 rfl) ?_
                have o15 : 0 ≤ z28_.toInt := by omega
                have o16 : z28_.toInt < ((492 : Nat) : Int) := by omega
                refine va_iast hx hb hK hP hD hS 13 10 rfl rfl (ti_inx o15 o16) dX11_put_95 (fun H locs hP hD hS => ?_)
                obtain ⟨f29_, ef29_⟩ : ∃ f9 : Nat → Int32, f9 = upd (σ.2.1 10) (Int32.toNatClampNeg z28_) v := ⟨_, rfl⟩
                have hP : va_P (dC, dI) vwCl (xW κ (xX κ φ ψ) (sA σ 10 f29_)) H := by rw [ef29_]; exact hP
                have hD : va_D A (xW κ (xX κ φ ψ) (sA σ 10 f29_)) := by rw [ef29_]; exact hD
                refine lv_aload_n hx hb dX11_put_96 rfl (lv_at hl 1 rfl) ?_
                refine va_get (D := (dC, dI)) (ci := 11) (v := .ref (kA κ 24)) (C := RX11) (T := TX11) (N := 17) hx hb hts hin11 hown hK hP 0 rfl rfl 8 (Nat.le_of_ble_eq_true rfl) (ho (.fieldLink RX11 58 "NearEnough" "worker" "LNearEnough$Worker;") (List.mem_of_getElem? (i := 9) rfl)) (fun _ h9 => h9) rfl dX11_put_97 ?_
                refine lv_iload_n hx hb dX11_put_100 rfl (lv_at hl 2 rfl) ?_
                refine lv_aload_n hx hb dX11_put_101 rfl (lv_at hl 1 rfl) ?_
                refine zy_i (va_runV (As := []) (rest := [.int x, .ref (kA κ 24)]) ⟨hx, hb, hml, hown, hts⟩ (k_lastStep l dC dI (ky κ (xX κ φ ψ)) H.size (sA σ 10 f29_)  hk (CInv.sA (k := 10) (f := f29_) hI (fun j _ => Inv.any _)) ) (cwV 0 hts gd_v_put_159_k_lastStep rfl rfl rfl dd_k_lastStep ⟨Nat.le_of_ble_eq_true rfl, Nat.le_of_ble_eq_true rfl⟩) (preVy (xcP hP) hKc (xcD hD) hE (ci := 11) (q0 := 0) rfl rfl) rfl rfl hl.1 rfl (lv_room (Nat.le_of_ble_eq_true rfl)) dX11_put_102 ⟨Nat.le_of_ble_eq_true rfl, Nat.le_of_ble_eq_true rfl⟩) (xcD hD) hS hA (fun z30_ τ31_ H locs hq hP hD hS => ?_)
                obtain ⟨hτ31_, q32_⟩ := hq
                rw [hτ31_] at hP hD
                have hP : va_P (dC, dI) vwCl (xW κ (xX κ φ ψ) (sA σ 10 f29_)) H := cxP hP
                have hD : va_D A (xW κ (xX κ φ ψ) (sA σ 10 f29_)) := cxD hD
                have q32_ : z30_.toInt = (pI κ 1).toInt - 1 := q32_
                refine W.widen (k := 0) (n := 0) (Nat.le_of_ble_eq_true rfl) (Nat.le_of_ble_eq_true rfl) ?_
                have o17 : 0 ≤ x.toInt := by omega
                have o18 : x.toInt ≤ 40 := by omega
                have o19 : -1 ≤ z30_.toInt := by omega
                have o20 : z30_.toInt < (pI κ 1).toInt := by omega
                refine zy_v (va_runV (As := [.int x, .int z30_]) (rest := []) ⟨hx, hb, hml, hown, hts⟩ (k_workPlain l dC dI (ky κ (xX κ φ ψ)) H.size (sA σ 10 f29_) x z30_ hk (CInv.sA (k := 10) (f := f29_) hI (fun j _ => Inv.any _)) ⟨o17, o18⟩ ⟨o19, o20⟩) (cwV 2 hts gd_v_put_163_k_workPlain rfl rfl rfl dd_k_workPlain ⟨Nat.le_of_ble_eq_true rfl, Nat.le_of_ble_eq_true rfl⟩) (preVy (xcP hP) hKc (xcD hD) hE (ci := 10) (q0 := 24) rfl rfl) rfl rfl hl.1 rfl (lv_room (Nat.le_of_ble_eq_true rfl)) dX11_put_105 ⟨Nat.le_of_ble_eq_true rfl, Nat.le_of_ble_eq_true rfl⟩) (xcD hD) hS hA (fun τ34_ H locs hq hP hD hS => ?_)
                obtain ⟨hτ34_, q35_⟩ := hq
                have hP : va_P (dC, dI) vwCl (xW κ (xX κ φ ψ) τ34_) H := cxP hP
                have hD : va_D A (xW κ (xX κ φ ψ) τ34_) := cxD hD
                refine W.widen (k := 0) (n := 0) (Nat.le_of_ble_eq_true rfl) (Nat.le_of_ble_eq_true rfl) ?_
                refine lv_aload_n hx hb dX11_put_108 rfl (lv_at hl 1 rfl) ?_
                refine zy_v (va_runV (As := []) (rest := []) ⟨hx, hb, hml, hown, hts⟩ (v_forgetPlan l dC dI κ H.size φ ψ τ34_  hk hτ34_ hF ) (cwV 0 hts gd_v_put_120_v_forgetPlan rfl rfl rfl dd_v_forgetPlan ⟨Nat.le_of_ble_eq_true rfl, Nat.le_of_ble_eq_true rfl⟩) (preVy hP hK hD hE (ci := 11) (q0 := 0) rfl rfl) rfl rfl hl.1 rfl (lv_room (Nat.le_of_ble_eq_true rfl)) dX11_put_109 ⟨Nat.le_of_ble_eq_true rfl, Nat.le_of_ble_eq_true rfl⟩) hD hS hA (fun τ37_ H locs hq hP hD hS => ?_)
                obtain ⟨φ39_, ψ40_, τ41_⟩ := τ37_
                obtain ⟨hτ41_, hφ39_, q38_⟩ := hq
                have hP : va_P (dC, dI) vwCl (xW κ (xX κ φ39_ ψ40_) τ41_) H := hP
                have hD : va_D A (xW κ (xX κ φ39_ ψ40_) τ41_) := hD
                have q38_ : τ41_ = τ34_ := q38_
                refine W.widen (k := 0) (n := 0) (Nat.le_of_ble_eq_true rfl) (Nat.le_of_ble_eq_true rfl) ?_
                refine lv_iconst (v := 1) hx hb dX11_put_112 rg_6 ?_
                have kk42_ : (1 : Int32).toInt = 1 := rg_18
                have o21 : (1 : Int32).toInt = 0 ∨ (1 : Int32).toInt = 1 := by omega
                rw [hQ]
                exact W.zret (v := 1) hx hb hr rfl (fun t ht hW => ⟨⟨1, (φ39_, ψ40_, τ41_), rfl, ⟨hτ41_, hφ39_, o21⟩, wEn_of hP (hK.sub [] rfl) hD ht hW⟩, hS.F ht⟩) hS.2.2 dX11_put_113
              · have tc23_ := (show (t10_.1 2).toInt < v.toInt from ti_nle rfl rfl c23_)
                refine lv_iconst (v := 0) hx hb dX11_put_72 rg_0 ?_
                have kk43_ : (0 : Int32).toInt = 0 := rg_11
                have o22 : (0 : Int32).toInt = 0 ∨ (0 : Int32).toInt = 1 := by omega
                rw [hQ]
                exact W.zret (v := 0) hx hb hr rfl (fun t ht hW => ⟨⟨0, (φ, ψ, σ), rfl, ⟨hI, hF, o22⟩, wEn_of hP (hK.sub [] rfl) hD ht hW⟩, hS.F ht⟩) hS.2.2 dX11_put_73
      · have tc8_ := (show (pI κ 0).toInt ≤ y.toInt from ti_nlt rfl rfl c8_)
        refine lv_iconst (v := 0) hx hb dX11_put_26 rg_0 ?_
        have kk44_ : (0 : Int32).toInt = 0 := rg_11
        have o23 : (0 : Int32).toInt = 0 ∨ (0 : Int32).toInt = 1 := by omega
        rw [hQ]
        exact W.zret (v := 0) hx hb hr rfl (fun t ht hW => ⟨⟨0, (φ, ψ, σ), rfl, ⟨hI, hF, o23⟩, wEn_of hP (hK.sub [] rfl) hD ht hW⟩, hS.F ht⟩) hS.2.2 dX11_put_27
def ow_v_change : List Cond := [.fieldLink RX11 26 "NearEnough" "told" "LNearEnough$Program;", .fieldLink RX11 40 "NearEnough" "changes" "LNearEnough$Changes;", .fieldLink RX11 190 "NearEnough$Changes" "count" "I", .fieldLink RX11 138 "NearEnough$Program" "steps" "[LNearEnough$Step;", .fieldLink RX11 191 "NearEnough$Step" "kind" "I"]
def vs_v_change : List Cond := .code yX11_change cX11_change 5 (some .int) :: (ow_v_change ++ (([.methodLink RX11 134 yX3_hasStep, .instanceMethod yX3_hasStep, .selects RX3 yX3_hasStep yX3_hasStep, .initialized RX3] : List Cond) ++ (vs_k_hasStep ++ (([.methodLink RX11 194 yX0_fits, .static yX0_fits, .initialized yX0_fits.cls] : List Cond) ++ (vs_k_fits ++ (([.methodLink RX11 117 yX11_forgetFront, .instanceMethod yX11_forgetFront, .selects RX11 yX11_forgetFront yX11_forgetFront, .initialized RX11] : List Cond) ++ (vs_v_forgetFront ++ (([.methodLink RX11 120 yX11_forgetPlan, .instanceMethod yX11_forgetPlan, .selects RX11 yX11_forgetPlan yX11_forgetPlan, .initialized RX11] : List Cond) ++ (vs_v_forgetPlan ++ (([.methodLink RX11 198 yX0_add, .instanceMethod yX0_add, .selects RX0 yX0_add yX0_add, .initialized RX0] : List Cond) ++ (vs_k_add ++ (wsX00 ++ (wsX30 ++ (wsX90 ++ (wsX110)))))))))))))))
theorem vg_v_change : vs_v_change.all goodWord = true := by decide +kernel
theorem dd_v_change : yX11_change.cls = RX11 ∧ yX11_change.cls ≠ "java/lang/invoke/MethodHandle" ∧ yX11_change.cls ≠ "java/lang/invoke/VarHandle" ∧ (parseMethodDescriptor yX11_change.desc).map (fun d => d.parameters.length) = some 4 := by decide +kernel
def rm_v_change : Room := { frames := 2, cells := 0, slots := 0, locals := 40 }
theorem gd_v_change_134_k_hasStep : GoodIn vs_v_change (wsV RX11 134 RX3 yX3_hasStep vs_k_hasStep) := goodIn_app (goodIn_sub (fun w h => (List.mem_cons_of_mem _ (List.mem_append_right _ (List.mem_append_left _ h)))) (by decide +kernel)) (goodIn_sub (fun w h => (List.mem_cons_of_mem _ (List.mem_append_right _ (List.mem_append_right _ (List.mem_append_left _ h))))) vg_k_hasStep)
theorem gd_v_change_194_k_fits : GoodIn vs_v_change (va_wsS RX11 194 yX0_fits vs_k_fits) := goodIn_app (goodIn_sub (fun w h => (List.mem_cons_of_mem _ (List.mem_append_right _ (List.mem_append_right _ (List.mem_append_right _ (List.mem_append_left _ h)))))) (by decide +kernel)) (goodIn_sub (fun w h => (List.mem_cons_of_mem _ (List.mem_append_right _ (List.mem_append_right _ (List.mem_append_right _ (List.mem_append_right _ (List.mem_append_left _ h))))))) vg_k_fits)
theorem gd_v_change_117_v_forgetFront : GoodIn vs_v_change (wsV RX11 117 RX11 yX11_forgetFront vs_v_forgetFront) := goodIn_app (goodIn_sub (fun w h => (List.mem_cons_of_mem _ (List.mem_append_right _ (List.mem_append_right _ (List.mem_append_right _ (List.mem_append_right _ (List.mem_append_right _ (List.mem_append_left _ h)))))))) (by decide +kernel)) (goodIn_sub (fun w h => (List.mem_cons_of_mem _ (List.mem_append_right _ (List.mem_append_right _ (List.mem_append_right _ (List.mem_append_right _ (List.mem_append_right _ (List.mem_append_right _ (List.mem_append_left _ h))))))))) vg_v_forgetFront)
theorem gd_v_change_120_v_forgetPlan : GoodIn vs_v_change (wsV RX11 120 RX11 yX11_forgetPlan vs_v_forgetPlan) := goodIn_app (goodIn_sub (fun w h => (List.mem_cons_of_mem _ (List.mem_append_right _ (List.mem_append_right _ (List.mem_append_right _ (List.mem_append_right _ (List.mem_append_right _ (List.mem_append_right _ (List.mem_append_right _ (List.mem_append_left _ h)))))))))) (by decide +kernel)) (goodIn_sub (fun w h => (List.mem_cons_of_mem _ (List.mem_append_right _ (List.mem_append_right _ (List.mem_append_right _ (List.mem_append_right _ (List.mem_append_right _ (List.mem_append_right _ (List.mem_append_right _ (List.mem_append_right _ (List.mem_append_left _ h))))))))))) vg_v_forgetPlan)
theorem gd_v_change_198_k_add : GoodIn vs_v_change (wsV RX11 198 RX0 yX0_add vs_k_add) := goodIn_app (goodIn_sub (fun w h => (List.mem_cons_of_mem _ (List.mem_append_right _ (List.mem_append_right _ (List.mem_append_right _ (List.mem_append_right _ (List.mem_append_right _ (List.mem_append_right _ (List.mem_append_right _ (List.mem_append_right _ (List.mem_append_right _ (List.mem_append_left _ h)))))))))))) (by decide +kernel)) (goodIn_sub (fun w h => (List.mem_cons_of_mem _ (List.mem_append_right _ (List.mem_append_right _ (List.mem_append_right _ (List.mem_append_right _ (List.mem_append_right _ (List.mem_append_right _ (List.mem_append_right _ (List.mem_append_right _ (List.mem_append_right _ (List.mem_append_right _ (List.mem_append_left _ h))))))))))))) vg_k_add)
set_option maxHeartbeats 4000000 in
set_option maxRecDepth 100000 in
theorem v_change (l : Launch) (dC : Nat → ClassId) (dI : Nat → Nat → Nat) (κ : CE) (sz : Nat) (φ ψ σ : MS) (x : Int32) (y : Int32) (z : Int32) (v : Int32) (hk : PInv κ) (hI : CInv σ) (hF : FInv φ)  : Met l yX11_change vs_v_change rm_v_change (va_Pc [.ref (kA κ 0), .int x, .int y, .int z, .int v] (wSy dC dI (xW κ (xX κ φ ψ) σ) (tT κ) sz)) (va_Qi (fun (r : Int32) (u : MS × MS × MS) => CInv u.2.2 ∧ FInv u.1 ∧ True) (fun (u : MS × MS × MS) => wEn dC dI (va_A (xW κ (xX κ φ ψ) σ) sz) (xW κ (xX κ u.1 u.2.1) u.2.2) []) (va_A (xW κ (xX κ φ ψ) σ) sz)) 0 0 (va_A (xW κ (xX κ φ ψ) σ) sz) := by
  refine Met.ofW (cc := cX11_change) (maxL := 5) (ret := (some .int)) (by decide +kernel) rfl ?_
  intro p e s m args below meth c s₁ B hml hv
  obtain ⟨rfl, hsz, hP, hK, hD0, hE⟩ := hv
  have hx := B.exec
  have hb := B.bytes
  have hr := B.returns
  have hts := atoms_spec (ws := vs_v_change) B.pre
  have hown : s.vm.findClass RX11 = some m.cls := findClass_of_methodNamed B.named
  have hlocks := B.notSynchronized
  subst hsz
  have hD := hD0.self (sz := s.heap.size)
  generalize hAe : va_A (xW κ (xX κ φ ψ) σ) s.heap.size = A at hD ⊢
  have hA : ∀ q : Nat, s.heap.size ≤ q → A q := fun q h => by rw [← hAe]; exact Or.inr h
  have hl := lv_entry ([.ref (kA κ 0), .int x, .int y, .int z, .int v]) (n := 5) (Nat.le_of_ble_eq_true rfl)
  rw [lg_entry_eq]
  generalize (lg_sl ([.ref (kA κ 0), .int x, .int y, .int z, .int v]) ++ List.replicate (5 - (lg_sl ([.ref (kA κ 0), .int x, .int y, .int z, .int v])).length) Slot.unset).toArray = ls at hl ⊢
  have hl : lv_has ls 5 [(0, .ref (kA κ 0)), (1, .int x), (2, .int y), (3, .int z), (4, .int v)] := hl
  have ho := fun w (h : w ∈ ow_v_change) => hts w (List.mem_cons_of_mem _ (List.mem_append_left _ h))
  have hin0 : ∀ w ∈ u_ws RX0 TX0 7, w ∈ vs_v_change := fun w h => (List.mem_cons_of_mem _ (List.mem_append_right _ (List.mem_append_right _ (List.mem_append_right _ (List.mem_append_right _ (List.mem_append_right _ (List.mem_append_right _ (List.mem_append_right _ (List.mem_append_right _ (List.mem_append_right _ (List.mem_append_right _ (List.mem_append_right _ (List.mem_append_left _ h)))))))))))))
  have hin3 : ∀ w ∈ u_ws RX3 TX3 8, w ∈ vs_v_change := fun w h => (List.mem_cons_of_mem _ (List.mem_append_right _ (List.mem_append_right _ (List.mem_append_right _ (List.mem_append_right _ (List.mem_append_right _ (List.mem_append_right _ (List.mem_append_right _ (List.mem_append_right _ (List.mem_append_right _ (List.mem_append_right _ (List.mem_append_right _ (List.mem_append_right _ (List.mem_append_left _ h))))))))))))))
  have hin9 : ∀ w ∈ u_ws RX9 TX9 11, w ∈ vs_v_change := fun w h => (List.mem_cons_of_mem _ (List.mem_append_right _ (List.mem_append_right _ (List.mem_append_right _ (List.mem_append_right _ (List.mem_append_right _ (List.mem_append_right _ (List.mem_append_right _ (List.mem_append_right _ (List.mem_append_right _ (List.mem_append_right _ (List.mem_append_right _ (List.mem_append_right _ (List.mem_append_right _ (List.mem_append_left _ h)))))))))))))))
  have hin11 : ∀ w ∈ u_ws RX11 TX11 17, w ∈ vs_v_change := fun w h => (List.mem_cons_of_mem _ (List.mem_append_right _ (List.mem_append_right _ (List.mem_append_right _ (List.mem_append_right _ (List.mem_append_right _ (List.mem_append_right _ (List.mem_append_right _ (List.mem_append_right _ (List.mem_append_right _ (List.mem_append_right _ (List.mem_append_right _ (List.mem_append_right _ (List.mem_append_right _ (List.mem_append_right _ h)))))))))))))))
  refine zQ (fun Q hQ => ?_)
  refine zH (A := A) (ws := (xW κ (xX κ φ ψ) σ)) (fun H hP hS => ?_) hP
  have hk0 := hk.1
  have hk1 := hk.2.1
  have hk2 := hk.2.2.1
  have hKc : va_K (dC, dI) vwCl (cT κ) s := hK.sub [0, 1, 2, 3, 4, 5, 6, 7, 8, 9, 10, 11, 12, 13, 14, 15, 16, 17, 18, 19, 20] rfl
  have bσ_18 : 0 ≤ (σ.1 18).toInt ∧ (σ.1 18).toInt ≤ 12 := hI.1 18
  refine lv_aload_n hx hb dX11_change_0 rfl (lv_at hl 0 rfl) ?_
  refine va_get (D := (dC, dI)) (ci := 11) (v := .ref (kA κ 6)) (C := RX11) (T := TX11) (N := 17) hx hb hts hin11 hown hK hP 0 rfl rfl 4 (Nat.le_of_ble_eq_true rfl) (ho (.fieldLink RX11 26 "NearEnough" "told" "LNearEnough$Program;") (List.mem_of_getElem? (i := 0) rfl)) (fun _ h9 => h9) rfl dX11_change_1 ?_
  refine lv_iload_n hx hb dX11_change_4 rfl (lv_at hl 1 rfl) ?_
  refine zy_i (va_runV (As := [.int x]) (rest := []) ⟨hx, hb, hml, hown, hts⟩ (k_hasStep l dC dI (ky κ (xX κ φ ψ)) H.size σ x hk hI ) (cwV 1 hts gd_v_change_134_k_hasStep rfl rfl rfl dd_k_hasStep ⟨Nat.le_of_ble_eq_true rfl, Nat.le_of_ble_eq_true rfl⟩) (preVy (xcP hP) hKc (xcD hD) hE (ci := 3) (q0 := 6) rfl rfl) rfl rfl hl.1 rfl (lv_room (Nat.le_of_ble_eq_true rfl)) dX11_change_5 ⟨Nat.le_of_ble_eq_true rfl, Nat.le_of_ble_eq_true rfl⟩) (xcD hD) hS hA (fun z1_ τ2_ H locs hq hP hD hS => ?_)
  obtain ⟨hτ2_, q3_⟩ := hq
  rw [hτ2_] at hP hD
  have hP : va_P (dC, dI) vwCl (xW κ (xX κ φ ψ) σ) H := cxP hP
  have hD : va_D A (xW κ (xX κ φ ψ) σ) := cxD hD
  have q3_ : (z1_.toInt = 1 ∧ 0 ≤ x.toInt ∧ x.toInt < (pI κ 1).toInt) ∨ z1_.toInt = 0 := q3_
  refine W.widen (k := 0) (n := 0) (Nat.le_of_ble_eq_true rfl) (Nat.le_of_ble_eq_true rfl) ?_
  refine lv_if_eq (tgt := 24) hx hb dX11_change_8 rfl (fun c4_ => ?_) (fun c4_ => ?_)
  · have tc4_ := (show z1_.toInt = 0 from ti_eq rfl rg_11 c4_)
    refine lv_iconst (v := (-1)) hx hb dX11_change_24 rg_53 ?_
    have kk5_ : ((-1) : Int32).toInt = (-1) := rg_489
    rw [hQ]
    exact W.iret (v := (-1)) hx hb hr (fun t ht hW => ⟨⟨(-1), (φ, ψ, σ), rfl, ⟨hI, hF, trivial⟩, wEn_of hP (hK.sub [] rfl) hD ht hW⟩, hS.F ht⟩) hS.2.2 dX11_change_25
  · have tc4_ := (show z1_.toInt ≠ 0 from ti_ne rfl rg_11 c4_)
    refine lv_iload hx hb dX11_change_11 (lv_at hl 4 rfl) ?_
    refine lv_if_lt (tgt := 24) hx hb dX11_change_13 rfl (fun c6_ => ?_) (fun c6_ => ?_)
    · have tc6_ := (show v.toInt < 0 from ti_lt rfl rg_11 c6_)
      refine lv_iconst (v := (-1)) hx hb dX11_change_24 rg_53 ?_
      have kk7_ : ((-1) : Int32).toInt = (-1) := rg_489
      rw [hQ]
      exact W.iret (v := (-1)) hx hb hr (fun t ht hW => ⟨⟨(-1), (φ, ψ, σ), rfl, ⟨hI, hF, trivial⟩, wEn_of hP (hK.sub [] rfl) hD ht hW⟩, hS.F ht⟩) hS.2.2 dX11_change_25
    · have tc6_ := (show 0 ≤ v.toInt from ti_nlt rfl rg_11 c6_)
      refine lv_iload hx hb dX11_change_16 (lv_at hl 4 rfl) ?_
      refine lv_sipush (v := 999) hx hb dX11_change_18 rg_80 ?_
      refine lv_icmp_le (tgt := 26) hx hb dX11_change_21 rfl (fun c8_ => ?_) (fun c8_ => ?_)
      · have tc8_ := (show v.toInt ≤ 999 from ti_le rfl rg_81 c8_)
        refine lv_aload_n hx hb dX11_change_26 rfl (lv_at hl 0 rfl) ?_
        refine va_get (D := (dC, dI)) (ci := 11) (v := .ref (kA κ 15)) (C := RX11) (T := TX11) (N := 17) hx hb hts hin11 hown hK hP 0 rfl rfl 6 (Nat.le_of_ble_eq_true rfl) (ho (.fieldLink RX11 40 "NearEnough" "changes" "LNearEnough$Changes;") (List.mem_of_getElem? (i := 1) rfl)) (fun _ h9 => h9) rfl dX11_change_27 ?_
        have bσ_18 : 0 ≤ (σ.1 18).toInt ∧ (σ.1 18).toInt ≤ 12 := hI.1 18
        refine va_get (D := (dC, dI)) (ci := 0) (v := .int (σ.1 18)) (C := RX0) (T := TX0) (N := 7) hx hb hts hin0 hown hK hP 15 rfl rfl 5 (Nat.le_of_ble_eq_true rfl) (ho (.fieldLink RX11 190 "NearEnough$Changes" "count" "I") (List.mem_of_getElem? (i := 2) rfl)) (fun _ h9 => h9) rfl dX11_change_30 ?_
        refine lv_bipush (v := 12) hx hb dX11_change_33 rg_57 ?_
        refine lv_icmp_ge (tgt := 58) hx hb dX11_change_35 rfl (fun c9_ => ?_) (fun c9_ => ?_)
        · have tc9_ := (show 12 ≤ (σ.1 18).toInt from ti_le rg_58 rfl c9_)
          refine lv_iconst (v := (-1)) hx hb dX11_change_58 rg_53 ?_
          have kk10_ : ((-1) : Int32).toInt = (-1) := rg_489
          rw [hQ]
          exact W.iret (v := (-1)) hx hb hr (fun t ht hW => ⟨⟨(-1), (φ, ψ, σ), rfl, ⟨hI, hF, trivial⟩, wEn_of hP (hK.sub [] rfl) hD ht hW⟩, hS.F ht⟩) hS.2.2 dX11_change_59
        · have tc9_ := (show (σ.1 18).toInt < 12 from ti_nle rg_58 rfl c9_)
          refine lv_aload_n hx hb dX11_change_38 rfl (lv_at hl 0 rfl) ?_
          refine va_get (D := (dC, dI)) (ci := 11) (v := .ref (kA κ 6)) (C := RX11) (T := TX11) (N := 17) hx hb hts hin11 hown hK hP 0 rfl rfl 4 (Nat.le_of_ble_eq_true rfl) (ho (.fieldLink RX11 26 "NearEnough" "told" "LNearEnough$Program;") (List.mem_of_getElem? (i := 0) rfl)) (fun _ h9 => h9) rfl dX11_change_39 ?_
          refine va_get (D := (dC, dI)) (ci := 3) (v := .ref (kA κ 8)) (C := RX3) (T := TX3) (N := 8) hx hb hts hin3 hown hK hP 6 rfl rfl 1 (Nat.le_of_ble_eq_true rfl) (ho (.fieldLink RX11 138 "NearEnough$Program" "steps" "[LNearEnough$Step;") (List.mem_of_getElem? (i := 3) rfl)) (fun _ h9 => h9) rfl dX11_change_42 ?_
          refine lv_iload_n hx hb dX11_change_45 rfl (lv_at hl 1 rfl) ?_
          have o1 : 0 ≤ x.toInt := by omega
          have o2 : x.toInt < ((12 : Nat) : Int) := by omega
          refine va_aldq hx hb hK hP 8 6 rfl rfl (ti_inx o1 o2) dX11_change_46 ?_
          have o3 : x.toInt < (pI κ 1).toInt := by omega
          obtain ⟨a11_, t12_, ea13_, ga14_⟩ := hk.st (x := x) o1 o3
          refine zv (v := .ref a11_) (by rw [ea13_]; rfl) ?_
          obtain ⟨kp15_, hkp15_⟩ := cpl (κ := (ky κ (xX κ φ ψ))) (σ := σ) ga14_.1 ga14_.2.1
          refine va_get (D := (dC, dI)) (ci := 9) (v := .int (t12_.1 0)) (C := RX9) (T := TX9) (N := 11) hx hb hts hin9 hown hK hP kp15_ hkp15_ rfl 0 (Nat.le_of_ble_eq_true rfl) (ho (.fieldLink RX11 191 "NearEnough$Step" "kind" "I") (List.mem_of_getElem? (i := 4) rfl)) (fun _ h9 => h9) rfl dX11_change_47 ?_
          refine lv_iload_n hx hb dX11_change_50 rfl (lv_at hl 2 rfl) ?_
          refine lv_iload_n hx hb dX11_change_51 rfl (lv_at hl 3 rfl) ?_
          refine zs_i (va_runS (As := [.int (t12_.1 0), .int y, .int z]) (rest := []) ⟨hx, hb, hml, hown, hts⟩ (k_fits l dC dI (t12_.1 0) y z  H.size) (va_cwS 3 hts gd_v_change_194_k_fits rfl rfl rfl dd_k_fits ⟨Nat.le_of_ble_eq_true rfl, Nat.le_of_ble_eq_true rfl⟩) (preS (A := A) empP (hK.sub (tys' := []) [] rfl) empD hE.x) rfl rfl hl.1 rfl (lv_room (Nat.le_of_ble_eq_true rfl)) dX11_change_52 ⟨Nat.le_of_ble_eq_true rfl, Nat.le_of_ble_eq_true rfl⟩) hP hD hS hA (fun z16_ H locs hq hP hD hS => ?_)
          have q17_ : (z16_.toInt = 1 ∧ 0 ≤ z.toInt ∧ z.toInt ≤ 99) ∨ z16_.toInt = 0 := hq
          refine W.widen (k := 0) (n := 0) (Nat.le_of_ble_eq_true rfl) (Nat.le_of_ble_eq_true rfl) ?_
          refine lv_if_ne (tgt := 60) hx hb dX11_change_55 rfl (fun c18_ => ?_) (fun c18_ => ?_)
          · have tc18_ := (show z16_.toInt ≠ 0 from ti_ne rfl rg_11 c18_)
            refine lv_aload_n hx hb dX11_change_60 rfl (lv_at hl 0 rfl) ?_
            refine zy_v (va_runV (As := []) (rest := []) ⟨hx, hb, hml, hown, hts⟩ (v_forgetFront l dC dI κ H.size φ ψ σ  hk hI hF ) (cwV 0 hts gd_v_change_117_v_forgetFront rfl rfl rfl dd_v_forgetFront ⟨Nat.le_of_ble_eq_true rfl, Nat.le_of_ble_eq_true rfl⟩) (preVy hP hK hD hE (ci := 11) (q0 := 0) rfl rfl) rfl rfl hl.1 rfl (lv_room (Nat.le_of_ble_eq_true rfl)) dX11_change_61 ⟨Nat.le_of_ble_eq_true rfl, Nat.le_of_ble_eq_true rfl⟩) hD hS hA (fun τ20_ H locs hq hP hD hS => ?_)
            obtain ⟨φ22_, ψ23_, τ24_⟩ := τ20_
            obtain ⟨hτ24_, hφ22_, q21_⟩ := hq
            have hP : va_P (dC, dI) vwCl (xW κ (xX κ φ22_ ψ23_) τ24_) H := hP
            have hD : va_D A (xW κ (xX κ φ22_ ψ23_) τ24_) := hD
            have bτ24__18 : 0 ≤ (τ24_.1 18).toInt ∧ (τ24_.1 18).toInt ≤ 12 := hτ24_.1 18
            have q21_ : τ24_ = σ := q21_
            refine W.widen (k := 0) (n := 0) (Nat.le_of_ble_eq_true rfl) (Nat.le_of_ble_eq_true rfl) ?_
            have fcc25_ : (τ24_.1 18).toInt = (σ.1 18).toInt := by rw [q21_]
            refine lv_aload_n hx hb dX11_change_64 rfl (lv_at hl 0 rfl) ?_
            refine zy_v (va_runV (As := []) (rest := []) ⟨hx, hb, hml, hown, hts⟩ (v_forgetPlan l dC dI κ H.size φ22_ ψ23_ τ24_  hk hτ24_ hφ22_ ) (cwV 0 hts gd_v_change_120_v_forgetPlan rfl rfl rfl dd_v_forgetPlan ⟨Nat.le_of_ble_eq_true rfl, Nat.le_of_ble_eq_true rfl⟩) (preVy hP hK hD hE (ci := 11) (q0 := 0) rfl rfl) rfl rfl hl.1 rfl (lv_room (Nat.le_of_ble_eq_true rfl)) dX11_change_65 ⟨Nat.le_of_ble_eq_true rfl, Nat.le_of_ble_eq_true rfl⟩) hD hS hA (fun τ27_ H locs hq hP hD hS => ?_)
            obtain ⟨φ29_, ψ30_, τ31_⟩ := τ27_
            obtain ⟨hτ31_, hφ29_, q28_⟩ := hq
            have hP : va_P (dC, dI) vwCl (xW κ (xX κ φ29_ ψ30_) τ31_) H := hP
            have hD : va_D A (xW κ (xX κ φ29_ ψ30_) τ31_) := hD
            have bτ31__18 : 0 ≤ (τ31_.1 18).toInt ∧ (τ31_.1 18).toInt ≤ 12 := hτ31_.1 18
            have q28_ : τ31_ = τ24_ := q28_
            refine W.widen (k := 0) (n := 0) (Nat.le_of_ble_eq_true rfl) (Nat.le_of_ble_eq_true rfl) ?_
            have fcc32_ : (τ31_.1 18).toInt = (τ24_.1 18).toInt := by rw [q28_]
            refine lv_aload_n hx hb dX11_change_68 rfl (lv_at hl 0 rfl) ?_
            refine va_get (D := (dC, dI)) (ci := 11) (v := .ref (kA κ 15)) (C := RX11) (T := TX11) (N := 17) hx hb hts hin11 hown hK hP 0 rfl rfl 6 (Nat.le_of_ble_eq_true rfl) (ho (.fieldLink RX11 40 "NearEnough" "changes" "LNearEnough$Changes;") (List.mem_of_getElem? (i := 1) rfl)) (fun _ h9 => h9) rfl dX11_change_69 ?_
            refine lv_iload_n hx hb dX11_change_72 rfl (lv_at hl 1 rfl) ?_
            refine lv_iload_n hx hb dX11_change_73 rfl (lv_at hl 2 rfl) ?_
            refine lv_iload_n hx hb dX11_change_74 rfl (lv_at hl 3 rfl) ?_
            refine lv_iload hx hb dX11_change_75 (lv_at hl 4 rfl) ?_
            have o4 : (τ31_.1 18).toInt < 12 := by omega
            have o5 : x.toInt ≤ 11 := by omega
            have o6 : 0 ≤ z.toInt := by omega
            have o7 : z.toInt ≤ 99 := by omega
            refine zy_i (va_runV (As := [.int x, .int y, .int z, .int v]) (rest := []) ⟨hx, hb, hml, hown, hts⟩ (k_add l dC dI (ky κ (xX κ φ29_ ψ30_)) H.size τ31_ x y z v hk hτ31_ o4 ⟨o1, o5⟩ ⟨o6, o7⟩) (cwV 4 hts gd_v_change_198_k_add rfl rfl rfl dd_k_add ⟨Nat.le_of_ble_eq_true rfl, Nat.le_of_ble_eq_true rfl⟩) (preVy (xcP hP) hKc (xcD hD) hE (ci := 0) (q0 := 15) rfl rfl) rfl rfl hl.1 rfl (lv_room (Nat.le_of_ble_eq_true rfl)) dX11_change_77 ⟨Nat.le_of_ble_eq_true rfl, Nat.le_of_ble_eq_true rfl⟩) (xcD hD) hS hA (fun z33_ τ34_ H locs hq hP hD hS => ?_)
            obtain ⟨hτ34_, q35_⟩ := hq
            have bτ34__18 : 0 ≤ (τ34_.1 18).toInt ∧ (τ34_.1 18).toInt ≤ 12 := hτ34_.1 18
            have hP : va_P (dC, dI) vwCl (xW κ (xX κ φ29_ ψ30_) τ34_) H := cxP hP
            have hD : va_D A (xW κ (xX κ φ29_ ψ30_) τ34_) := cxD hD
            refine W.widen (k := 0) (n := 0) (Nat.le_of_ble_eq_true rfl) (Nat.le_of_ble_eq_true rfl) ?_
            rw [hQ]
            exact W.iret (v := z33_) hx hb hr (fun t ht hW => ⟨⟨z33_, (φ29_, ψ30_, τ34_), rfl, ⟨hτ34_, hφ29_, trivial⟩, wEn_of hP (hK.sub [] rfl) hD ht hW⟩, hS.F ht⟩) hS.2.2 dX11_change_80
          · have tc18_ := (show z16_.toInt = 0 from ti_eq rfl rg_11 c18_)
            refine lv_iconst (v := (-1)) hx hb dX11_change_58 rg_53 ?_
            have kk36_ : ((-1) : Int32).toInt = (-1) := rg_489
            rw [hQ]
            exact W.iret (v := (-1)) hx hb hr (fun t ht hW => ⟨⟨(-1), (φ, ψ, σ), rfl, ⟨hI, hF, trivial⟩, wEn_of hP (hK.sub [] rfl) hD ht hW⟩, hS.F ht⟩) hS.2.2 dX11_change_59
      · have tc8_ := (show 999 < v.toInt from ti_nle rfl rg_81 c8_)
        refine lv_iconst (v := (-1)) hx hb dX11_change_24 rg_53 ?_
        have kk37_ : ((-1) : Int32).toInt = (-1) := rg_489
        rw [hQ]
        exact W.iret (v := (-1)) hx hb hr (fun t ht hW => ⟨⟨(-1), (φ, ψ, σ), rfl, ⟨hI, hF, trivial⟩, wEn_of hP (hK.sub [] rfl) hD ht hW⟩, hS.F ht⟩) hS.2.2 dX11_change_25
def ow_v_madeF : List Cond := [.fieldLink RX11 82 "NearEnough" "edge" "LNearEnough$Front;"]
def vs_v_madeF : List Cond := .code yX11_madeFront cX11_madeFront 1 (some (.object "NearEnough$Front")) :: (ow_v_madeF ++ (wsX110))
theorem vg_v_madeF : vs_v_madeF.all goodWord = true := by decide +kernel
theorem dd_v_madeF : yX11_madeFront.cls = RX11 ∧ yX11_madeFront.cls ≠ "java/lang/invoke/MethodHandle" ∧ yX11_madeFront.cls ≠ "java/lang/invoke/VarHandle" ∧ (parseMethodDescriptor yX11_madeFront.desc).map (fun d => d.parameters.length) = some 0 := by decide +kernel
def rm_v_madeF : Room := { frames := 0, cells := 0, slots := 0, locals := 0 }
set_option maxHeartbeats 4000000 in
set_option maxRecDepth 100000 in
theorem v_madeF (l : Launch) (dC : Nat → ClassId) (dI : Nat → Nat → Nat) (κ : CE) (sz : Nat) (φ ψ σ : MS) (hk : PInv κ) (hI : CInv σ) (hF : FInv φ) (a0 : Nat) (he : kE κ = some a0) : Met l yX11_madeFront vs_v_madeF rm_v_madeF (va_Pc [.ref (kA κ 0)] (wSy dC dI (xW κ (xX κ φ ψ) σ) (tT κ) sz)) (va_Qq (fun (r : Option Nat) (u : MS × MS × MS) => u = (φ, ψ, σ) ∧ (r = some a0)) (fun (u : MS × MS × MS) => wEn dC dI (va_A (xW κ (xX κ φ ψ) σ) sz) (xW κ (xX κ u.1 u.2.1) u.2.2) []) (va_A (xW κ (xX κ φ ψ) σ) sz)) 0 0 (va_A (xW κ (xX κ φ ψ) σ) sz) := by
  refine Met.ofW (cc := cX11_madeFront) (maxL := 1) (ret := (some (.object "NearEnough$Front"))) (by decide +kernel) rfl ?_
  intro p e s m args below meth c s₁ B hml hv
  obtain ⟨rfl, hsz, hP, hK, hD0, hE⟩ := hv
  have hx := B.exec
  have hb := B.bytes
  have hr := B.returns
  have hts := atoms_spec (ws := vs_v_madeF) B.pre
  have hown : s.vm.findClass RX11 = some m.cls := findClass_of_methodNamed B.named
  have hlocks := B.notSynchronized
  subst hsz
  have hD := hD0.self (sz := s.heap.size)
  generalize hAe : va_A (xW κ (xX κ φ ψ) σ) s.heap.size = A at hD ⊢
  have hA : ∀ q : Nat, s.heap.size ≤ q → A q := fun q h => by rw [← hAe]; exact Or.inr h
  have hl := lv_entry ([.ref (kA κ 0)]) (n := 1) (Nat.le_of_ble_eq_true rfl)
  rw [lg_entry_eq]
  generalize (lg_sl ([.ref (kA κ 0)]) ++ List.replicate (1 - (lg_sl ([.ref (kA κ 0)])).length) Slot.unset).toArray = ls at hl ⊢
  have hl : lv_has ls 1 [(0, .ref (kA κ 0))] := hl
  have ho := fun w (h : w ∈ ow_v_madeF) => hts w (List.mem_cons_of_mem _ (List.mem_append_left _ h))
  have hin11 : ∀ w ∈ u_ws RX11 TX11 17, w ∈ vs_v_madeF := fun w h => (List.mem_cons_of_mem _ (List.mem_append_right _ h))
  refine zQ (fun Q hQ => ?_)
  refine zH (A := A) (ws := (xW κ (xX κ φ ψ) σ)) (fun H hP hS => ?_) hP
  have hk0 := hk.1
  have hk1 := hk.2.1
  have hk2 := hk.2.2.1
  have hKc : va_K (dC, dI) vwCl (cT κ) s := hK.sub [0, 1, 2, 3, 4, 5, 6, 7, 8, 9, 10, 11, 12, 13, 14, 15, 16, 17, 18, 19, 20] rfl
  refine lv_aload_n hx hb dX11_madeFront_0 rfl (lv_at hl 0 rfl) ?_
  refine va_get (D := (dC, dI)) (ci := 11) (v := va_rf (kE κ)) (C := RX11) (T := TX11) (N := 17) hx hb hts hin11 hown hK hP 0 rfl rfl 15 (Nat.le_of_ble_eq_true rfl) (ho (.fieldLink RX11 82 "NearEnough" "edge" "LNearEnough$Front;") (List.mem_of_getElem? (i := 0) rfl)) (fun _ h9 => h9) rfl dX11_madeFront_1 ?_
  refine zv (v := .ref a0) (by rw [he]; rfl) ?_
  refine lv_ifnonnull (tgt := 30) hx hb dX11_madeFront_4 rfl ?_
  refine lv_aload_n hx hb dX11_madeFront_30 rfl (lv_at hl 0 rfl) ?_
  refine va_get (D := (dC, dI)) (ci := 11) (v := va_rf (kE κ)) (C := RX11) (T := TX11) (N := 17) hx hb hts hin11 hown hK hP 0 rfl rfl 15 (Nat.le_of_ble_eq_true rfl) (ho (.fieldLink RX11 82 "NearEnough" "edge" "LNearEnough$Front;") (List.mem_of_getElem? (i := 0) rfl)) (fun _ h9 => h9) rfl dX11_madeFront_31 ?_
  refine zv (v := .ref a0) (by rw [he]; rfl) ?_
  rw [hQ]
  exact W.aret (v := .ref a0) hx hb hr (Or.inl ⟨_, rfl⟩) (Or.inr ⟨_, rfl⟩) (fun t ht hW => ⟨⟨(some a0), (φ, ψ, σ), rfl, ⟨rfl, rfl⟩, wEn_of hP (hK.sub [] rfl) hD ht hW⟩, hS.F ht⟩) hS.2.2 dX11_madeFront_34
def ow_v_madeP : List Cond := [.fieldLink RX11 86 "NearEnough" "planner" "LNearEnough$Plan;"]
def vs_v_madeP : List Cond := .code yX11_madePlan cX11_madePlan 1 (some (.object "NearEnough$Plan")) :: (ow_v_madeP ++ (wsX110))
theorem vg_v_madeP : vs_v_madeP.all goodWord = true := by decide +kernel
theorem dd_v_madeP : yX11_madePlan.cls = RX11 ∧ yX11_madePlan.cls ≠ "java/lang/invoke/MethodHandle" ∧ yX11_madePlan.cls ≠ "java/lang/invoke/VarHandle" ∧ (parseMethodDescriptor yX11_madePlan.desc).map (fun d => d.parameters.length) = some 0 := by decide +kernel
def rm_v_madeP : Room := { frames := 0, cells := 0, slots := 0, locals := 0 }
set_option maxHeartbeats 4000000 in
set_option maxRecDepth 100000 in
theorem v_madeP (l : Launch) (dC : Nat → ClassId) (dI : Nat → Nat → Nat) (κ : CE) (sz : Nat) (φ ψ σ : MS) (hk : PInv κ) (hI : CInv σ) (hF : FInv φ) (a0 : Nat) (he : kP κ = some a0) : Met l yX11_madePlan vs_v_madeP rm_v_madeP (va_Pc [.ref (kA κ 0)] (wSy dC dI (xW κ (xX κ φ ψ) σ) (tT κ) sz)) (va_Qq (fun (r : Option Nat) (u : MS × MS × MS) => u = (φ, ψ, σ) ∧ (r = some a0)) (fun (u : MS × MS × MS) => wEn dC dI (va_A (xW κ (xX κ φ ψ) σ) sz) (xW κ (xX κ u.1 u.2.1) u.2.2) []) (va_A (xW κ (xX κ φ ψ) σ) sz)) 0 0 (va_A (xW κ (xX κ φ ψ) σ) sz) := by
  refine Met.ofW (cc := cX11_madePlan) (maxL := 1) (ret := (some (.object "NearEnough$Plan"))) (by decide +kernel) rfl ?_
  intro p e s m args below meth c s₁ B hml hv
  obtain ⟨rfl, hsz, hP, hK, hD0, hE⟩ := hv
  have hx := B.exec
  have hb := B.bytes
  have hr := B.returns
  have hts := atoms_spec (ws := vs_v_madeP) B.pre
  have hown : s.vm.findClass RX11 = some m.cls := findClass_of_methodNamed B.named
  have hlocks := B.notSynchronized
  subst hsz
  have hD := hD0.self (sz := s.heap.size)
  generalize hAe : va_A (xW κ (xX κ φ ψ) σ) s.heap.size = A at hD ⊢
  have hA : ∀ q : Nat, s.heap.size ≤ q → A q := fun q h => by rw [← hAe]; exact Or.inr h
  have hl := lv_entry ([.ref (kA κ 0)]) (n := 1) (Nat.le_of_ble_eq_true rfl)
  rw [lg_entry_eq]
  generalize (lg_sl ([.ref (kA κ 0)]) ++ List.replicate (1 - (lg_sl ([.ref (kA κ 0)])).length) Slot.unset).toArray = ls at hl ⊢
  have hl : lv_has ls 1 [(0, .ref (kA κ 0))] := hl
  have ho := fun w (h : w ∈ ow_v_madeP) => hts w (List.mem_cons_of_mem _ (List.mem_append_left _ h))
  have hin11 : ∀ w ∈ u_ws RX11 TX11 17, w ∈ vs_v_madeP := fun w h => (List.mem_cons_of_mem _ (List.mem_append_right _ h))
  refine zQ (fun Q hQ => ?_)
  refine zH (A := A) (ws := (xW κ (xX κ φ ψ) σ)) (fun H hP hS => ?_) hP
  have hk0 := hk.1
  have hk1 := hk.2.1
  have hk2 := hk.2.2.1
  have hKc : va_K (dC, dI) vwCl (cT κ) s := hK.sub [0, 1, 2, 3, 4, 5, 6, 7, 8, 9, 10, 11, 12, 13, 14, 15, 16, 17, 18, 19, 20] rfl
  refine lv_aload_n hx hb dX11_madePlan_0 rfl (lv_at hl 0 rfl) ?_
  refine va_get (D := (dC, dI)) (ci := 11) (v := va_rf (kP κ)) (C := RX11) (T := TX11) (N := 17) hx hb hts hin11 hown hK hP 0 rfl rfl 16 (Nat.le_of_ble_eq_true rfl) (ho (.fieldLink RX11 86 "NearEnough" "planner" "LNearEnough$Plan;") (List.mem_of_getElem? (i := 0) rfl)) (fun _ h9 => h9) rfl dX11_madePlan_1 ?_
  refine zv (v := .ref a0) (by rw [he]; rfl) ?_
  refine lv_ifnonnull (tgt := 38) hx hb dX11_madePlan_4 rfl ?_
  refine lv_aload_n hx hb dX11_madePlan_38 rfl (lv_at hl 0 rfl) ?_
  refine va_get (D := (dC, dI)) (ci := 11) (v := va_rf (kP κ)) (C := RX11) (T := TX11) (N := 17) hx hb hts hin11 hown hK hP 0 rfl rfl 16 (Nat.le_of_ble_eq_true rfl) (ho (.fieldLink RX11 86 "NearEnough" "planner" "LNearEnough$Plan;") (List.mem_of_getElem? (i := 0) rfl)) (fun _ h9 => h9) rfl dX11_madePlan_39 ?_
  refine zv (v := .ref a0) (by rw [he]; rfl) ?_
  rw [hQ]
  exact W.aret (v := .ref a0) hx hb hr (Or.inl ⟨_, rfl⟩) (Or.inr ⟨_, rfl⟩) (fun t ht hW => ⟨⟨(some a0), (φ, ψ, σ), rfl, ⟨rfl, rfl⟩, wEn_of hP (hK.sub [] rfl) hD ht hW⟩, hS.F ht⟩) hS.2.2 dX11_madePlan_42
def ow_v_front : List Cond := [.fieldLink RX11 26 "NearEnough" "told" "LNearEnough$Program;", .fieldLink RX11 336 "NearEnough$Front" "count" "I"]
def vs_v_front : List Cond := .code yX11_front cX11_front 3 (some .int) :: (ow_v_front ++ (([.methodLink RX11 227 yX3_hasEnd, .instanceMethod yX3_hasEnd, .selects RX3 yX3_hasEnd yX3_hasEnd, .initialized RX3] : List Cond) ++ (vs_k_hasEnd ++ (([.methodLink RX11 329 yX11_madeFront, .instanceMethod yX11_madeFront, .selects RX11 yX11_madeFront yX11_madeFront, .initialized RX11] : List Cond) ++ (vs_v_madeF ++ (([.methodLink RX11 333 yX1_gather, .instanceMethod yX1_gather, .selects RX1 yX1_gather yX1_gather, .initialized RX1] : List Cond) ++ (vs_f_gather ++ (wsX10 ++ (wsX110)))))))))
theorem vg_v_front : vs_v_front.all goodWord = true := by decide +kernel
theorem dd_v_front : yX11_front.cls = RX11 ∧ yX11_front.cls ≠ "java/lang/invoke/MethodHandle" ∧ yX11_front.cls ≠ "java/lang/invoke/VarHandle" ∧ (parseMethodDescriptor yX11_front.desc).map (fun d => d.parameters.length) = some 1 := by decide +kernel
def rm_v_front : Room := { frames := 7, cells := 0, slots := 0, locals := 167 }
theorem gd_v_front_227_k_hasEnd : GoodIn vs_v_front (wsV RX11 227 RX3 yX3_hasEnd vs_k_hasEnd) := goodIn_app (goodIn_sub (fun w h => (List.mem_cons_of_mem _ (List.mem_append_right _ (List.mem_append_left _ h)))) (by decide +kernel)) (goodIn_sub (fun w h => (List.mem_cons_of_mem _ (List.mem_append_right _ (List.mem_append_right _ (List.mem_append_left _ h))))) vg_k_hasEnd)
theorem gd_v_front_329_v_madeF : GoodIn vs_v_front (wsV RX11 329 RX11 yX11_madeFront vs_v_madeF) := goodIn_app (goodIn_sub (fun w h => (List.mem_cons_of_mem _ (List.mem_append_right _ (List.mem_append_right _ (List.mem_append_right _ (List.mem_append_left _ h)))))) (by decide +kernel)) (goodIn_sub (fun w h => (List.mem_cons_of_mem _ (List.mem_append_right _ (List.mem_append_right _ (List.mem_append_right _ (List.mem_append_right _ (List.mem_append_left _ h))))))) vg_v_madeF)
theorem gd_v_front_333_f_gather : GoodIn vs_v_front (wsV RX11 333 RX1 yX1_gather vs_f_gather) := goodIn_app (goodIn_sub (fun w h => (List.mem_cons_of_mem _ (List.mem_append_right _ (List.mem_append_right _ (List.mem_append_right _ (List.mem_append_right _ (List.mem_append_right _ (List.mem_append_left _ h)))))))) (by decide +kernel)) (goodIn_sub (fun w h => (List.mem_cons_of_mem _ (List.mem_append_right _ (List.mem_append_right _ (List.mem_append_right _ (List.mem_append_right _ (List.mem_append_right _ (List.mem_append_right _ (List.mem_append_left _ h))))))))) vg_f_gather)
set_option maxHeartbeats 4000000 in
set_option maxRecDepth 100000 in
theorem v_front (l : Launch) (dC : Nat → ClassId) (dI : Nat → Nat → Nat) (κ : CE) (sz : Nat) (φ ψ σ : MS) (x : Int32) (hk : PInv κ) (hI : CInv σ) (hF : FInv φ) (a0 : Nat) (he : kE κ = some a0) : Met l yX11_front vs_v_front rm_v_front (va_Pc [.ref (kA κ 0), .int x] (wSy dC dI (xW κ (xX κ φ ψ) σ) (tT κ) sz)) (va_Qi (fun (r : Int32) (u : MS × MS × MS) => CInv u.2.2 ∧ FInv u.1 ∧ True) (fun (u : MS × MS × MS) => wEn dC dI (va_A (xW κ (xX κ φ ψ) σ) sz) (xW κ (xX κ u.1 u.2.1) u.2.2) []) (va_A (xW κ (xX κ φ ψ) σ) sz)) 0 0 (va_A (xW κ (xX κ φ ψ) σ) sz) := by
  refine Met.ofW (cc := cX11_front) (maxL := 3) (ret := (some .int)) (by decide +kernel) rfl ?_
  intro p e s m args below meth c s₁ B hml hv
  obtain ⟨rfl, hsz, hP, hK, hD0, hE⟩ := hv
  have hx := B.exec
  have hb := B.bytes
  have hr := B.returns
  have hts := atoms_spec (ws := vs_v_front) B.pre
  have hown : s.vm.findClass RX11 = some m.cls := findClass_of_methodNamed B.named
  have hlocks := B.notSynchronized
  subst hsz
  have hD := hD0.self (sz := s.heap.size)
  generalize hAe : va_A (xW κ (xX κ φ ψ) σ) s.heap.size = A at hD ⊢
  have hA : ∀ q : Nat, s.heap.size ≤ q → A q := fun q h => by rw [← hAe]; exact Or.inr h
  have hl := lv_entry ([.ref (kA κ 0), .int x]) (n := 3) (Nat.le_of_ble_eq_true rfl)
  rw [lg_entry_eq]
  generalize (lg_sl ([.ref (kA κ 0), .int x]) ++ List.replicate (3 - (lg_sl ([.ref (kA κ 0), .int x])).length) Slot.unset).toArray = ls at hl ⊢
  have hl : lv_has ls 3 [(0, .ref (kA κ 0)), (1, .int x)] := hl
  have ho := fun w (h : w ∈ ow_v_front) => hts w (List.mem_cons_of_mem _ (List.mem_append_left _ h))
  have hin1 : ∀ w ∈ u_ws RX1 TX1 7, w ∈ vs_v_front := fun w h => (List.mem_cons_of_mem _ (List.mem_append_right _ (List.mem_append_right _ (List.mem_append_right _ (List.mem_append_right _ (List.mem_append_right _ (List.mem_append_right _ (List.mem_append_right _ (List.mem_append_left _ h)))))))))
  have hin11 : ∀ w ∈ u_ws RX11 TX11 17, w ∈ vs_v_front := fun w h => (List.mem_cons_of_mem _ (List.mem_append_right _ (List.mem_append_right _ (List.mem_append_right _ (List.mem_append_right _ (List.mem_append_right _ (List.mem_append_right _ (List.mem_append_right _ (List.mem_append_right _ h)))))))))
  refine zQ (fun Q hQ => ?_)
  refine zH (A := A) (ws := (xW κ (xX κ φ ψ) σ)) (fun H hP hS => ?_) hP
  have hk0 := hk.1
  have hk1 := hk.2.1
  have hk2 := hk.2.2.1
  have hKc : va_K (dC, dI) vwCl (cT κ) s := hK.sub [0, 1, 2, 3, 4, 5, 6, 7, 8, 9, 10, 11, 12, 13, 14, 15, 16, 17, 18, 19, 20] rfl
  refine lv_aload_n hx hb dX11_front_0 rfl (lv_at hl 0 rfl) ?_
  refine va_get (D := (dC, dI)) (ci := 11) (v := .ref (kA κ 6)) (C := RX11) (T := TX11) (N := 17) hx hb hts hin11 hown hK hP 0 rfl rfl 4 (Nat.le_of_ble_eq_true rfl) (ho (.fieldLink RX11 26 "NearEnough" "told" "LNearEnough$Program;") (List.mem_of_getElem? (i := 0) rfl)) (fun _ h9 => h9) rfl dX11_front_1 ?_
  refine lv_iload_n hx hb dX11_front_4 rfl (lv_at hl 1 rfl) ?_
  refine zy_i (va_runV (As := [.int x]) (rest := []) ⟨hx, hb, hml, hown, hts⟩ (k_hasEnd l dC dI (ky κ (xX κ φ ψ)) H.size σ x hk hI ) (cwV 1 hts gd_v_front_227_k_hasEnd rfl rfl rfl dd_k_hasEnd ⟨Nat.le_of_ble_eq_true rfl, Nat.le_of_ble_eq_true rfl⟩) (preVy (xcP hP) hKc (xcD hD) hE (ci := 3) (q0 := 6) rfl rfl) rfl rfl hl.1 rfl (lv_room (Nat.le_of_ble_eq_true rfl)) dX11_front_5 ⟨Nat.le_of_ble_eq_true rfl, Nat.le_of_ble_eq_true rfl⟩) (xcD hD) hS hA (fun z1_ τ2_ H locs hq hP hD hS => ?_)
  obtain ⟨hτ2_, q3_⟩ := hq
  rw [hτ2_] at hP hD
  have hP : va_P (dC, dI) vwCl (xW κ (xX κ φ ψ) σ) H := cxP hP
  have hD : va_D A (xW κ (xX κ φ ψ) σ) := cxD hD
  have q3_ : (z1_.toInt = 1 ∧ 0 ≤ x.toInt ∧ x.toInt < (pI κ 2).toInt) ∨ z1_.toInt = 0 := q3_
  refine W.widen (k := 0) (n := 0) (Nat.le_of_ble_eq_true rfl) (Nat.le_of_ble_eq_true rfl) ?_
  refine lv_if_ne (tgt := 13) hx hb dX11_front_8 rfl (fun c4_ => ?_) (fun c4_ => ?_)
  · have tc4_ := (show z1_.toInt ≠ 0 from ti_ne rfl rg_11 c4_)
    refine lv_aload_n hx hb dX11_front_13 rfl (lv_at hl 0 rfl) ?_
    refine zy_q (va_runV (As := []) (rest := []) ⟨hx, hb, hml, hown, hts⟩ (v_madeF l dC dI κ H.size φ ψ σ  hk hI hF a0 he) (cwV 0 hts gd_v_front_329_v_madeF rfl rfl rfl dd_v_madeF ⟨Nat.le_of_ble_eq_true rfl, Nat.le_of_ble_eq_true rfl⟩) (preVy hP hK hD hE (ci := 11) (q0 := 0) rfl rfl) rfl rfl hl.1 rfl (lv_room (Nat.le_of_ble_eq_true rfl)) dX11_front_14 ⟨Nat.le_of_ble_eq_true rfl, Nat.le_of_ble_eq_true rfl⟩) hD hS hA (fun z5_ τ6_ H locs hq hP hD hS => ?_)
    obtain ⟨hτ6_, q7_⟩ := hq
    rw [hτ6_] at hP hD
    have hP : va_P (dC, dI) vwCl (xW κ (xX κ φ ψ) σ) H := hP
    have hD : va_D A (xW κ (xX κ φ ψ) σ) := hD
    refine W.widen (k := 0) (n := 0) (Nat.le_of_ble_eq_true rfl) (Nat.le_of_ble_eq_true rfl) ?_
    refine zv (v := .ref a0) (by rw [q7_]; rfl) ?_
    refine lv_astore_n (lv' := [(2, .ref a0), (0, .ref (kA κ 0)), (1, .int x)]) hx hb dX11_front_17 rfl hl (Nat.le_of_ble_eq_true rfl) rfl (fun ls hl => ?_)
    refine lv_aload_n hx hb dX11_front_18 rfl (lv_at hl 0 rfl) ?_
    refine lv_iload_n hx hb dX11_front_19 rfl (lv_at hl 2 rfl) ?_
    have o1 : 0 ≤ x.toInt := by omega
    have o2 : x.toInt < (pI κ 2).toInt := by omega
    refine zy_v (va_runV (As := [.int x]) (rest := []) ⟨hx, hb, hml, hown, hts⟩ (f_gather l dC dI κ a0 (pX κ (kP κ) ψ) H.size φ σ x hk hI hF ⟨o1, o2⟩) (cwV 1 hts gd_v_front_333_f_gather rfl rfl rfl dd_f_gather ⟨Nat.le_of_ble_eq_true rfl, Nat.le_of_ble_eq_true rfl⟩) (preVy ((vfP he).mp hP) hK ((vfD he).mp hD) hE (ci := 1) (q0 := 27) rfl rfl) rfl rfl hl.1 rfl (lv_room (Nat.le_of_ble_eq_true rfl)) dX11_front_20 ⟨Nat.le_of_ble_eq_true rfl, Nat.le_of_ble_eq_true rfl⟩) ((vfD he).mp hD) hS hA (fun τ12_ H locs hq hP hD hS => ?_)
    obtain ⟨φ14_, τ15_⟩ := τ12_
    obtain ⟨hτ15_, hφ14_, q13_⟩ := hq
    have hP : va_P (dC, dI) vwCl (xW κ (xX κ φ14_ ψ) τ15_) H := (vfP he).mpr hP
    have hD : va_D A (xW κ (xX κ φ14_ ψ) τ15_) := (vfD he).mpr hD
    refine W.widen (k := 0) (n := 0) (Nat.le_of_ble_eq_true rfl) (Nat.le_of_ble_eq_true rfl) ?_
    refine lv_aload_n hx hb dX11_front_23 rfl (lv_at hl 0 rfl) ?_
    have bb16_ : 0 ≤ (φ14_.1 2).toInt ∧ (φ14_.1 2).toInt ≤ 4096 := hφ14_
    refine va_get (D := (dC, dI)) (ci := 1) (v := .int (φ14_.1 2)) (C := RX1) (T := TX1) (N := 7) hx hb hts hin1 hown hK ((vfP he).mp hP) 27 rfl rfl 6 (Nat.le_of_ble_eq_true rfl) (ho (.fieldLink RX11 336 "NearEnough$Front" "count" "I") (List.mem_of_getElem? (i := 1) rfl)) (fun _ h9 => h9) rfl dX11_front_24 ?_
    rw [hQ]
    exact W.iret (v := (φ14_.1 2)) hx hb hr (fun t ht hW => ⟨⟨(φ14_.1 2), (φ14_, ψ, τ15_), rfl, ⟨hτ15_, hφ14_, trivial⟩, wEn_of hP (hK.sub [] rfl) hD ht hW⟩, hS.F ht⟩) hS.2.2 dX11_front_27
  · have tc4_ := (show z1_.toInt = 0 from ti_eq rfl rg_11 c4_)
    refine lv_iconst (v := (-1)) hx hb dX11_front_11 rg_53 ?_
    have kk17_ : ((-1) : Int32).toInt = (-1) := rg_489
    rw [hQ]
    exact W.iret (v := (-1)) hx hb hr (fun t ht hW => ⟨⟨(-1), (φ, ψ, σ), rfl, ⟨hI, hF, trivial⟩, wEn_of hP (hK.sub [] rfl) hD ht hW⟩, hS.F ht⟩) hS.2.2 dX11_front_12
def ow_v_pair : List Cond := [.fieldLink RX11 26 "NearEnough" "told" "LNearEnough$Program;", .constantLong RX11 212 (-1), .fieldLink RX11 336 "NearEnough$Front" "count" "I", .fieldLink RX11 340 "NearEnough$Front" "saves" "[I", .fieldLink RX11 337 "NearEnough$Front" "offs" "[J"]
def vs_v_pair : List Cond := .code yX11_pair cX11_pair 5 (some .long) :: (ow_v_pair ++ (([.methodLink RX11 227 yX3_hasEnd, .instanceMethod yX3_hasEnd, .selects RX3 yX3_hasEnd yX3_hasEnd, .initialized RX3] : List Cond) ++ (vs_k_hasEnd ++ (([.methodLink RX11 329 yX11_madeFront, .instanceMethod yX11_madeFront, .selects RX11 yX11_madeFront yX11_madeFront, .initialized RX11] : List Cond) ++ (vs_v_madeF ++ (([.methodLink RX11 333 yX1_gather, .instanceMethod yX1_gather, .selects RX1 yX1_gather yX1_gather, .initialized RX1] : List Cond) ++ (vs_f_gather ++ (wsX10 ++ (wsX110)))))))))
theorem vg_v_pair : vs_v_pair.all goodWord = true := by decide +kernel
theorem dd_v_pair : yX11_pair.cls = RX11 ∧ yX11_pair.cls ≠ "java/lang/invoke/MethodHandle" ∧ yX11_pair.cls ≠ "java/lang/invoke/VarHandle" ∧ (parseMethodDescriptor yX11_pair.desc).map (fun d => d.parameters.length) = some 3 := by decide +kernel
def rm_v_pair : Room := { frames := 7, cells := 0, slots := 0, locals := 167 }
theorem gd_v_pair_227_k_hasEnd : GoodIn vs_v_pair (wsV RX11 227 RX3 yX3_hasEnd vs_k_hasEnd) := goodIn_app (goodIn_sub (fun w h => (List.mem_cons_of_mem _ (List.mem_append_right _ (List.mem_append_left _ h)))) (by decide +kernel)) (goodIn_sub (fun w h => (List.mem_cons_of_mem _ (List.mem_append_right _ (List.mem_append_right _ (List.mem_append_left _ h))))) vg_k_hasEnd)
theorem gd_v_pair_329_v_madeF : GoodIn vs_v_pair (wsV RX11 329 RX11 yX11_madeFront vs_v_madeF) := goodIn_app (goodIn_sub (fun w h => (List.mem_cons_of_mem _ (List.mem_append_right _ (List.mem_append_right _ (List.mem_append_right _ (List.mem_append_left _ h)))))) (by decide +kernel)) (goodIn_sub (fun w h => (List.mem_cons_of_mem _ (List.mem_append_right _ (List.mem_append_right _ (List.mem_append_right _ (List.mem_append_right _ (List.mem_append_left _ h))))))) vg_v_madeF)
theorem gd_v_pair_333_f_gather : GoodIn vs_v_pair (wsV RX11 333 RX1 yX1_gather vs_f_gather) := goodIn_app (goodIn_sub (fun w h => (List.mem_cons_of_mem _ (List.mem_append_right _ (List.mem_append_right _ (List.mem_append_right _ (List.mem_append_right _ (List.mem_append_right _ (List.mem_append_left _ h)))))))) (by decide +kernel)) (goodIn_sub (fun w h => (List.mem_cons_of_mem _ (List.mem_append_right _ (List.mem_append_right _ (List.mem_append_right _ (List.mem_append_right _ (List.mem_append_right _ (List.mem_append_right _ (List.mem_append_left _ h))))))))) vg_f_gather)
set_option maxHeartbeats 4000000 in
set_option maxRecDepth 100000 in
theorem v_pair (l : Launch) (dC : Nat → ClassId) (dI : Nat → Nat → Nat) (κ : CE) (sz : Nat) (φ ψ σ : MS) (x : Int32) (y : Int32) (z : Int32) (hk : PInv κ) (hI : CInv σ) (hF : FInv φ) (a0 : Nat) (he : kE κ = some a0) : Met l yX11_pair vs_v_pair rm_v_pair (va_Pc [.ref (kA κ 0), .int x, .int y, .int z] (wSy dC dI (xW κ (xX κ φ ψ) σ) (tT κ) sz)) (va_Ql (fun (r : Int64) (u : MS × MS × MS) => CInv u.2.2 ∧ FInv u.1 ∧ True) (fun (u : MS × MS × MS) => wEn dC dI (va_A (xW κ (xX κ φ ψ) σ) sz) (xW κ (xX κ u.1 u.2.1) u.2.2) []) (va_A (xW κ (xX κ φ ψ) σ) sz)) 0 0 (va_A (xW κ (xX κ φ ψ) σ) sz) := by
  refine Met.ofW (cc := cX11_pair) (maxL := 5) (ret := (some .long)) (by decide +kernel) rfl ?_
  intro p e s m args below meth c s₁ B hml hv
  obtain ⟨rfl, hsz, hP, hK, hD0, hE⟩ := hv
  have hx := B.exec
  have hb := B.bytes
  have hr := B.returns
  have hts := atoms_spec (ws := vs_v_pair) B.pre
  have hown : s.vm.findClass RX11 = some m.cls := findClass_of_methodNamed B.named
  have hlocks := B.notSynchronized
  subst hsz
  have hD := hD0.self (sz := s.heap.size)
  generalize hAe : va_A (xW κ (xX κ φ ψ) σ) s.heap.size = A at hD ⊢
  have hA : ∀ q : Nat, s.heap.size ≤ q → A q := fun q h => by rw [← hAe]; exact Or.inr h
  have hl := lv_entry ([.ref (kA κ 0), .int x, .int y, .int z]) (n := 5) (Nat.le_of_ble_eq_true rfl)
  rw [lg_entry_eq]
  generalize (lg_sl ([.ref (kA κ 0), .int x, .int y, .int z]) ++ List.replicate (5 - (lg_sl ([.ref (kA κ 0), .int x, .int y, .int z])).length) Slot.unset).toArray = ls at hl ⊢
  have hl : lv_has ls 5 [(0, .ref (kA κ 0)), (1, .int x), (2, .int y), (3, .int z)] := hl
  have ho := fun w (h : w ∈ ow_v_pair) => hts w (List.mem_cons_of_mem _ (List.mem_append_left _ h))
  have hin1 : ∀ w ∈ u_ws RX1 TX1 7, w ∈ vs_v_pair := fun w h => (List.mem_cons_of_mem _ (List.mem_append_right _ (List.mem_append_right _ (List.mem_append_right _ (List.mem_append_right _ (List.mem_append_right _ (List.mem_append_right _ (List.mem_append_right _ (List.mem_append_left _ h)))))))))
  have hin11 : ∀ w ∈ u_ws RX11 TX11 17, w ∈ vs_v_pair := fun w h => (List.mem_cons_of_mem _ (List.mem_append_right _ (List.mem_append_right _ (List.mem_append_right _ (List.mem_append_right _ (List.mem_append_right _ (List.mem_append_right _ (List.mem_append_right _ (List.mem_append_right _ h)))))))))
  refine zQ (fun Q hQ => ?_)
  refine zH (A := A) (ws := (xW κ (xX κ φ ψ) σ)) (fun H hP hS => ?_) hP
  have hk0 := hk.1
  have hk1 := hk.2.1
  have hk2 := hk.2.2.1
  have hKc : va_K (dC, dI) vwCl (cT κ) s := hK.sub [0, 1, 2, 3, 4, 5, 6, 7, 8, 9, 10, 11, 12, 13, 14, 15, 16, 17, 18, 19, 20] rfl
  refine lv_aload_n hx hb dX11_pair_0 rfl (lv_at hl 0 rfl) ?_
  refine va_get (D := (dC, dI)) (ci := 11) (v := .ref (kA κ 6)) (C := RX11) (T := TX11) (N := 17) hx hb hts hin11 hown hK hP 0 rfl rfl 4 (Nat.le_of_ble_eq_true rfl) (ho (.fieldLink RX11 26 "NearEnough" "told" "LNearEnough$Program;") (List.mem_of_getElem? (i := 0) rfl)) (fun _ h9 => h9) rfl dX11_pair_1 ?_
  refine lv_iload_n hx hb dX11_pair_4 rfl (lv_at hl 1 rfl) ?_
  refine zy_i (va_runV (As := [.int x]) (rest := []) ⟨hx, hb, hml, hown, hts⟩ (k_hasEnd l dC dI (ky κ (xX κ φ ψ)) H.size σ x hk hI ) (cwV 1 hts gd_v_pair_227_k_hasEnd rfl rfl rfl dd_k_hasEnd ⟨Nat.le_of_ble_eq_true rfl, Nat.le_of_ble_eq_true rfl⟩) (preVy (xcP hP) hKc (xcD hD) hE (ci := 3) (q0 := 6) rfl rfl) rfl rfl hl.1 rfl (lv_room (Nat.le_of_ble_eq_true rfl)) dX11_pair_5 ⟨Nat.le_of_ble_eq_true rfl, Nat.le_of_ble_eq_true rfl⟩) (xcD hD) hS hA (fun z1_ τ2_ H locs hq hP hD hS => ?_)
  obtain ⟨hτ2_, q3_⟩ := hq
  rw [hτ2_] at hP hD
  have hP : va_P (dC, dI) vwCl (xW κ (xX κ φ ψ) σ) H := cxP hP
  have hD : va_D A (xW κ (xX κ φ ψ) σ) := cxD hD
  have q3_ : (z1_.toInt = 1 ∧ 0 ≤ x.toInt ∧ x.toInt < (pI κ 2).toInt) ∨ z1_.toInt = 0 := q3_
  refine W.widen (k := 0) (n := 0) (Nat.le_of_ble_eq_true rfl) (Nat.le_of_ble_eq_true rfl) ?_
  refine lv_if_eq (tgt := 24) hx hb dX11_pair_8 rfl (fun c4_ => ?_) (fun c4_ => ?_)
  · have tc4_ := (show z1_.toInt = 0 from ti_eq rfl rg_11 c4_)
    refine lv_ldc2 (v := (-1)) hx hb hown (ho (.constantLong RX11 212 (-1)) (List.mem_of_getElem? (i := 1) rfl)) dX11_pair_24 ?_
    rw [hQ]
    exact W.lret (v := (-1)) hx hb hr (fun t ht hW => ⟨⟨(-1), (φ, ψ, σ), rfl, ⟨hI, hF, trivial⟩, wEn_of hP (hK.sub [] rfl) hD ht hW⟩, hS.F ht⟩) hS.2.2 dX11_pair_27
  · have tc4_ := (show z1_.toInt ≠ 0 from ti_ne rfl rg_11 c4_)
    refine lv_iload_n hx hb dX11_pair_11 rfl (lv_at hl 2 rfl) ?_
    refine lv_if_lt (tgt := 24) hx hb dX11_pair_12 rfl (fun c5_ => ?_) (fun c5_ => ?_)
    · have tc5_ := (show y.toInt < 0 from ti_lt rfl rg_11 c5_)
      refine lv_ldc2 (v := (-1)) hx hb hown (ho (.constantLong RX11 212 (-1)) (List.mem_of_getElem? (i := 1) rfl)) dX11_pair_24 ?_
      rw [hQ]
      exact W.lret (v := (-1)) hx hb hr (fun t ht hW => ⟨⟨(-1), (φ, ψ, σ), rfl, ⟨hI, hF, trivial⟩, wEn_of hP (hK.sub [] rfl) hD ht hW⟩, hS.F ht⟩) hS.2.2 dX11_pair_27
    · have tc5_ := (show 0 ≤ y.toInt from ti_nlt rfl rg_11 c5_)
      refine lv_iload_n hx hb dX11_pair_15 rfl (lv_at hl 3 rfl) ?_
      refine lv_if_lt (tgt := 24) hx hb dX11_pair_16 rfl (fun c6_ => ?_) (fun c6_ => ?_)
      · have tc6_ := (show z.toInt < 0 from ti_lt rfl rg_11 c6_)
        refine lv_ldc2 (v := (-1)) hx hb hown (ho (.constantLong RX11 212 (-1)) (List.mem_of_getElem? (i := 1) rfl)) dX11_pair_24 ?_
        rw [hQ]
        exact W.lret (v := (-1)) hx hb hr (fun t ht hW => ⟨⟨(-1), (φ, ψ, σ), rfl, ⟨hI, hF, trivial⟩, wEn_of hP (hK.sub [] rfl) hD ht hW⟩, hS.F ht⟩) hS.2.2 dX11_pair_27
      · have tc6_ := (show 0 ≤ z.toInt from ti_nlt rfl rg_11 c6_)
        refine lv_iload_n hx hb dX11_pair_19 rfl (lv_at hl 3 rfl) ?_
        refine lv_iconst (v := 1) hx hb dX11_pair_20 rg_6 ?_
        refine lv_icmp_le (tgt := 28) hx hb dX11_pair_21 rfl (fun c7_ => ?_) (fun c7_ => ?_)
        · have tc7_ := (show z.toInt ≤ 1 from ti_le rfl rg_18 c7_)
          refine lv_aload_n hx hb dX11_pair_28 rfl (lv_at hl 0 rfl) ?_
          refine zy_q (va_runV (As := []) (rest := []) ⟨hx, hb, hml, hown, hts⟩ (v_madeF l dC dI κ H.size φ ψ σ  hk hI hF a0 he) (cwV 0 hts gd_v_pair_329_v_madeF rfl rfl rfl dd_v_madeF ⟨Nat.le_of_ble_eq_true rfl, Nat.le_of_ble_eq_true rfl⟩) (preVy hP hK hD hE (ci := 11) (q0 := 0) rfl rfl) rfl rfl hl.1 rfl (lv_room (Nat.le_of_ble_eq_true rfl)) dX11_pair_29 ⟨Nat.le_of_ble_eq_true rfl, Nat.le_of_ble_eq_true rfl⟩) hD hS hA (fun z8_ τ9_ H locs hq hP hD hS => ?_)
          obtain ⟨hτ9_, q10_⟩ := hq
          rw [hτ9_] at hP hD
          have hP : va_P (dC, dI) vwCl (xW κ (xX κ φ ψ) σ) H := hP
          have hD : va_D A (xW κ (xX κ φ ψ) σ) := hD
          refine W.widen (k := 0) (n := 0) (Nat.le_of_ble_eq_true rfl) (Nat.le_of_ble_eq_true rfl) ?_
          refine zv (v := .ref a0) (by rw [q10_]; rfl) ?_
          refine lv_astore (lv' := [(4, .ref a0), (0, .ref (kA κ 0)), (1, .int x), (2, .int y), (3, .int z)]) hx hb dX11_pair_32 hl (Nat.le_of_ble_eq_true rfl) rfl (fun ls hl => ?_)
          refine lv_aload hx hb dX11_pair_34 (lv_at hl 0 rfl) ?_
          refine lv_iload_n hx hb dX11_pair_36 rfl (lv_at hl 2 rfl) ?_
          have o1 : 0 ≤ x.toInt := by omega
          have o2 : x.toInt < (pI κ 2).toInt := by omega
          refine zy_v (va_runV (As := [.int x]) (rest := []) ⟨hx, hb, hml, hown, hts⟩ (f_gather l dC dI κ a0 (pX κ (kP κ) ψ) H.size φ σ x hk hI hF ⟨o1, o2⟩) (cwV 1 hts gd_v_pair_333_f_gather rfl rfl rfl dd_f_gather ⟨Nat.le_of_ble_eq_true rfl, Nat.le_of_ble_eq_true rfl⟩) (preVy ((vfP he).mp hP) hK ((vfD he).mp hD) hE (ci := 1) (q0 := 27) rfl rfl) rfl rfl hl.1 rfl (lv_room (Nat.le_of_ble_eq_true rfl)) dX11_pair_37 ⟨Nat.le_of_ble_eq_true rfl, Nat.le_of_ble_eq_true rfl⟩) ((vfD he).mp hD) hS hA (fun τ15_ H locs hq hP hD hS => ?_)
          obtain ⟨φ17_, τ18_⟩ := τ15_
          obtain ⟨hτ18_, hφ17_, q16_⟩ := hq
          have hP : va_P (dC, dI) vwCl (xW κ (xX κ φ17_ ψ) τ18_) H := (vfP he).mpr hP
          have hD : va_D A (xW κ (xX κ φ17_ ψ) τ18_) := (vfD he).mpr hD
          refine W.widen (k := 0) (n := 0) (Nat.le_of_ble_eq_true rfl) (Nat.le_of_ble_eq_true rfl) ?_
          refine lv_iload_n hx hb dX11_pair_40 rfl (lv_at hl 3 rfl) ?_
          refine lv_aload hx hb dX11_pair_41 (lv_at hl 0 rfl) ?_
          have bb19_ : 0 ≤ (φ17_.1 2).toInt ∧ (φ17_.1 2).toInt ≤ 4096 := hφ17_
          refine va_get (D := (dC, dI)) (ci := 1) (v := .int (φ17_.1 2)) (C := RX1) (T := TX1) (N := 7) hx hb hts hin1 hown hK ((vfP he).mp hP) 27 rfl rfl 6 (Nat.le_of_ble_eq_true rfl) (ho (.fieldLink RX11 336 "NearEnough$Front" "count" "I") (List.mem_of_getElem? (i := 2) rfl)) (fun _ h9 => h9) rfl dX11_pair_43 ?_
          refine lv_icmp_lt (tgt := 53) hx hb dX11_pair_46 rfl (fun c20_ => ?_) (fun c20_ => ?_)
          · have tc20_ := (show y.toInt < (φ17_.1 2).toInt from ti_lt rfl rfl c20_)
            refine lv_iload_n hx hb dX11_pair_53 rfl (lv_at hl 4 rfl) ?_
            refine lv_if_ne (tgt := 67) hx hb dX11_pair_54 rfl (fun c21_ => ?_) (fun c21_ => ?_)
            · have tc21_ := (show z.toInt ≠ 0 from ti_ne rfl rg_11 c21_)
              refine lv_aload hx hb dX11_pair_67 (lv_at hl 0 rfl) ?_
              refine va_get (D := (dC, dI)) (ci := 1) (v := .ref (kA κ 28)) (C := RX1) (T := TX1) (N := 7) hx hb hts hin1 hown hK ((vfP he).mp hP) 27 rfl rfl 5 (Nat.le_of_ble_eq_true rfl) (ho (.fieldLink RX11 340 "NearEnough$Front" "saves" "[I") (List.mem_of_getElem? (i := 3) rfl)) (fun _ h9 => h9) rfl dX11_pair_69 ?_
              refine lv_iload_n hx hb dX11_pair_72 rfl (lv_at hl 3 rfl) ?_
              have o3 : 0 ≤ y.toInt := by omega
              have o4 : y.toInt < ((4096 : Nat) : Int) := by omega
              refine va_iald hx hb hK ((vfP he).mp hP) 29 22 rfl rfl (ti_inx o3 o4) dX11_pair_73 ?_
              refine lv_topi (fun z22_ ez22_ => ?_)
              refine lv_i2l hx hb dX11_pair_74 rfl ?_
              refine lv_topl (fun y23_ ey23_ => ?_)
              rw [hQ]
              exact W.lret (v := y23_) hx hb hr (fun t ht hW => ⟨⟨y23_, (φ17_, ψ, τ18_), rfl, ⟨hτ18_, hφ17_, trivial⟩, wEn_of hP (hK.sub [] rfl) hD ht hW⟩, hS.F ht⟩) hS.2.2 dX11_pair_75
            · have tc21_ := (show z.toInt = 0 from ti_eq rfl rg_11 c21_)
              refine lv_aload hx hb dX11_pair_57 (lv_at hl 0 rfl) ?_
              refine va_get (D := (dC, dI)) (ci := 1) (v := .ref (kA κ 27)) (C := RX1) (T := TX1) (N := 7) hx hb hts hin1 hown hK ((vfP he).mp hP) 27 rfl rfl 4 (Nat.le_of_ble_eq_true rfl) (ho (.fieldLink RX11 337 "NearEnough$Front" "offs" "[J") (List.mem_of_getElem? (i := 4) rfl)) (fun _ h9 => h9) rfl dX11_pair_59 ?_
              refine lv_iload_n hx hb dX11_pair_62 rfl (lv_at hl 3 rfl) ?_
              have o5 : 0 ≤ y.toInt := by omega
              have o6 : y.toInt < ((4096 : Nat) : Int) := by omega
              refine va_lald hx hb hK ((vfP he).mp hP) 28 21 rfl rfl (ti_inx o5 o6) dX11_pair_63 ?_
              refine lv_topl (fun y24_ ey24_ => ?_)
              refine lv_goto (tgt := 75) hx hb dX11_pair_64 rfl ?_
              rw [hQ]
              exact W.lret (v := y24_) hx hb hr (fun t ht hW => ⟨⟨y24_, (φ17_, ψ, τ18_), rfl, ⟨hτ18_, hφ17_, trivial⟩, wEn_of hP (hK.sub [] rfl) hD ht hW⟩, hS.F ht⟩) hS.2.2 dX11_pair_75
          · have tc20_ := (show (φ17_.1 2).toInt ≤ y.toInt from ti_nlt rfl rfl c20_)
            refine lv_ldc2 (v := (-1)) hx hb hown (ho (.constantLong RX11 212 (-1)) (List.mem_of_getElem? (i := 1) rfl)) dX11_pair_49 ?_
            rw [hQ]
            exact W.lret (v := (-1)) hx hb hr (fun t ht hW => ⟨⟨(-1), (φ17_, ψ, τ18_), rfl, ⟨hτ18_, hφ17_, trivial⟩, wEn_of hP (hK.sub [] rfl) hD ht hW⟩, hS.F ht⟩) hS.2.2 dX11_pair_52
        · have tc7_ := (show 1 < z.toInt from ti_nle rfl rg_18 c7_)
          refine lv_ldc2 (v := (-1)) hx hb hown (ho (.constantLong RX11 212 (-1)) (List.mem_of_getElem? (i := 1) rfl)) dX11_pair_24 ?_
          rw [hQ]
          exact W.lret (v := (-1)) hx hb hr (fun t ht hW => ⟨⟨(-1), (φ, ψ, σ), rfl, ⟨hI, hF, trivial⟩, wEn_of hP (hK.sub [] rfl) hD ht hW⟩, hS.F ht⟩) hS.2.2 dX11_pair_27
def ow_v_plan : List Cond := []
def vs_v_plan : List Cond := .code yX11_plan cX11_plan 4 (some .int) :: (ow_v_plan ++ (([.methodLink RX11 357 yX11_canPlan, .instanceMethod yX11_canPlan, .selects RX11 yX11_canPlan yX11_canPlan, .initialized RX11] : List Cond) ++ (vs_k_canPlan ++ (([.methodLink RX11 360 yX11_madePlan, .instanceMethod yX11_madePlan, .selects RX11 yX11_madePlan yX11_madePlan, .initialized RX11] : List Cond) ++ (vs_v_madeP ++ (([.methodLink RX11 364 yX2_prepare, .instanceMethod yX2_prepare, .selects RX2 yX2_prepare yX2_prepare, .initialized RX2] : List Cond) ++ (vs_p_prepare ++ (([.methodLink RX11 367 yX2_savesFor, .instanceMethod yX2_savesFor, .selects RX2 yX2_savesFor yX2_savesFor, .initialized RX2] : List Cond) ++ (vs_p_savesFor)))))))))
theorem vg_v_plan : vs_v_plan.all goodWord = true := by decide +kernel
theorem dd_v_plan : yX11_plan.cls = RX11 ∧ yX11_plan.cls ≠ "java/lang/invoke/MethodHandle" ∧ yX11_plan.cls ≠ "java/lang/invoke/VarHandle" ∧ (parseMethodDescriptor yX11_plan.desc).map (fun d => d.parameters.length) = some 2 := by decide +kernel
def rm_v_plan : Room := { frames := 7, cells := 0, slots := 0, locals := 185 }
theorem gd_v_plan_357_k_canPlan : GoodIn vs_v_plan (wsV RX11 357 RX11 yX11_canPlan vs_k_canPlan) := goodIn_app (goodIn_sub (fun w h => (List.mem_cons_of_mem _ (List.mem_append_right _ (List.mem_append_left _ h)))) (by decide +kernel)) (goodIn_sub (fun w h => (List.mem_cons_of_mem _ (List.mem_append_right _ (List.mem_append_right _ (List.mem_append_left _ h))))) vg_k_canPlan)
theorem gd_v_plan_360_v_madeP : GoodIn vs_v_plan (wsV RX11 360 RX11 yX11_madePlan vs_v_madeP) := goodIn_app (goodIn_sub (fun w h => (List.mem_cons_of_mem _ (List.mem_append_right _ (List.mem_append_right _ (List.mem_append_right _ (List.mem_append_left _ h)))))) (by decide +kernel)) (goodIn_sub (fun w h => (List.mem_cons_of_mem _ (List.mem_append_right _ (List.mem_append_right _ (List.mem_append_right _ (List.mem_append_right _ (List.mem_append_left _ h))))))) vg_v_madeP)
theorem gd_v_plan_364_p_prepare : GoodIn vs_v_plan (wsV RX11 364 RX2 yX2_prepare vs_p_prepare) := goodIn_app (goodIn_sub (fun w h => (List.mem_cons_of_mem _ (List.mem_append_right _ (List.mem_append_right _ (List.mem_append_right _ (List.mem_append_right _ (List.mem_append_right _ (List.mem_append_left _ h)))))))) (by decide +kernel)) (goodIn_sub (fun w h => (List.mem_cons_of_mem _ (List.mem_append_right _ (List.mem_append_right _ (List.mem_append_right _ (List.mem_append_right _ (List.mem_append_right _ (List.mem_append_right _ (List.mem_append_left _ h))))))))) vg_p_prepare)
theorem gd_v_plan_367_p_savesFor : GoodIn vs_v_plan (wsV RX11 367 RX2 yX2_savesFor vs_p_savesFor) := goodIn_app (goodIn_sub (fun w h => (List.mem_cons_of_mem _ (List.mem_append_right _ (List.mem_append_right _ (List.mem_append_right _ (List.mem_append_right _ (List.mem_append_right _ (List.mem_append_right _ (List.mem_append_right _ (List.mem_append_left _ h)))))))))) (by decide +kernel)) (goodIn_sub (fun w h => (List.mem_cons_of_mem _ (List.mem_append_right _ (List.mem_append_right _ (List.mem_append_right _ (List.mem_append_right _ (List.mem_append_right _ (List.mem_append_right _ (List.mem_append_right _ (List.mem_append_right _ h)))))))))) vg_p_savesFor)
set_option maxHeartbeats 4000000 in
set_option maxRecDepth 100000 in
theorem v_plan (l : Launch) (dC : Nat → ClassId) (dI : Nat → Nat → Nat) (κ : CE) (sz : Nat) (φ ψ σ : MS) (x : Int32) (y : Int32) (hk : PInv κ) (hI : CInv σ) (hF : FInv φ) (a0 : Nat) (he : kP κ = some a0) : Met l yX11_plan vs_v_plan rm_v_plan (va_Pc [.ref (kA κ 0), .int x, .int y] (wSy dC dI (xW κ (xX κ φ ψ) σ) (tT κ) sz)) (va_Qi (fun (r : Int32) (u : MS × MS × MS) => CInv u.2.2 ∧ FInv u.1 ∧ True) (fun (u : MS × MS × MS) => wEn dC dI (va_A (xW κ (xX κ φ ψ) σ) sz) (xW κ (xX κ u.1 u.2.1) u.2.2) []) (va_A (xW κ (xX κ φ ψ) σ) sz)) 0 0 (va_A (xW κ (xX κ φ ψ) σ) sz) := by
  refine Met.ofW (cc := cX11_plan) (maxL := 4) (ret := (some .int)) (by decide +kernel) rfl ?_
  intro p e s m args below meth c s₁ B hml hv
  obtain ⟨rfl, hsz, hP, hK, hD0, hE⟩ := hv
  have hx := B.exec
  have hb := B.bytes
  have hr := B.returns
  have hts := atoms_spec (ws := vs_v_plan) B.pre
  have hown : s.vm.findClass RX11 = some m.cls := findClass_of_methodNamed B.named
  have hlocks := B.notSynchronized
  subst hsz
  have hD := hD0.self (sz := s.heap.size)
  generalize hAe : va_A (xW κ (xX κ φ ψ) σ) s.heap.size = A at hD ⊢
  have hA : ∀ q : Nat, s.heap.size ≤ q → A q := fun q h => by rw [← hAe]; exact Or.inr h
  have hl := lv_entry ([.ref (kA κ 0), .int x, .int y]) (n := 4) (Nat.le_of_ble_eq_true rfl)
  rw [lg_entry_eq]
  generalize (lg_sl ([.ref (kA κ 0), .int x, .int y]) ++ List.replicate (4 - (lg_sl ([.ref (kA κ 0), .int x, .int y])).length) Slot.unset).toArray = ls at hl ⊢
  have hl : lv_has ls 4 [(0, .ref (kA κ 0)), (1, .int x), (2, .int y)] := hl
  have ho := fun w (h : w ∈ ow_v_plan) => hts w (List.mem_cons_of_mem _ (List.mem_append_left _ h))
  refine zQ (fun Q hQ => ?_)
  refine zH (A := A) (ws := (xW κ (xX κ φ ψ) σ)) (fun H hP hS => ?_) hP
  have hk0 := hk.1
  have hk1 := hk.2.1
  have hk2 := hk.2.2.1
  have hKc : va_K (dC, dI) vwCl (cT κ) s := hK.sub [0, 1, 2, 3, 4, 5, 6, 7, 8, 9, 10, 11, 12, 13, 14, 15, 16, 17, 18, 19, 20] rfl
  refine lv_aload_n hx hb dX11_plan_0 rfl (lv_at hl 0 rfl) ?_
  refine lv_iload_n hx hb dX11_plan_1 rfl (lv_at hl 1 rfl) ?_
  refine lv_iload_n hx hb dX11_plan_2 rfl (lv_at hl 2 rfl) ?_
  refine zy_i (va_runV (As := [.int x, .int y]) (rest := []) ⟨hx, hb, hml, hown, hts⟩ (k_canPlan l dC dI (ky κ (xX κ φ ψ)) H.size σ x y hk hI ) (cwV 2 hts gd_v_plan_357_k_canPlan rfl rfl rfl dd_k_canPlan ⟨Nat.le_of_ble_eq_true rfl, Nat.le_of_ble_eq_true rfl⟩) (preVy (xcP hP) hKc (xcD hD) hE (ci := 11) (q0 := 0) rfl rfl) rfl rfl hl.1 rfl (lv_room (Nat.le_of_ble_eq_true rfl)) dX11_plan_3 ⟨Nat.le_of_ble_eq_true rfl, Nat.le_of_ble_eq_true rfl⟩) (xcD hD) hS hA (fun z1_ τ2_ H locs hq hP hD hS => ?_)
  obtain ⟨hτ2_, q3_⟩ := hq
  rw [hτ2_] at hP hD
  have hP : va_P (dC, dI) vwCl (xW κ (xX κ φ ψ) σ) H := cxP hP
  have hD : va_D A (xW κ (xX κ φ ψ) σ) := cxD hD
  have q3_ : (z1_.toInt = 1 ∧ 0 ≤ x.toInt ∧ x.toInt < (pI κ 2).toInt ∧ 0 ≤ y.toInt ∧ y.toInt ≤ 400) ∨ z1_.toInt = 0 := q3_
  refine W.widen (k := 0) (n := 0) (Nat.le_of_ble_eq_true rfl) (Nat.le_of_ble_eq_true rfl) ?_
  refine lv_if_ne (tgt := 11) hx hb dX11_plan_6 rfl (fun c4_ => ?_) (fun c4_ => ?_)
  · have tc4_ := (show z1_.toInt ≠ 0 from ti_ne rfl rg_11 c4_)
    refine lv_aload_n hx hb dX11_plan_11 rfl (lv_at hl 0 rfl) ?_
    refine zy_q (va_runV (As := []) (rest := []) ⟨hx, hb, hml, hown, hts⟩ (v_madeP l dC dI κ H.size φ ψ σ  hk hI hF a0 he) (cwV 0 hts gd_v_plan_360_v_madeP rfl rfl rfl dd_v_madeP ⟨Nat.le_of_ble_eq_true rfl, Nat.le_of_ble_eq_true rfl⟩) (preVy hP hK hD hE (ci := 11) (q0 := 0) rfl rfl) rfl rfl hl.1 rfl (lv_room (Nat.le_of_ble_eq_true rfl)) dX11_plan_12 ⟨Nat.le_of_ble_eq_true rfl, Nat.le_of_ble_eq_true rfl⟩) hD hS hA (fun z5_ τ6_ H locs hq hP hD hS => ?_)
    obtain ⟨hτ6_, q7_⟩ := hq
    rw [hτ6_] at hP hD
    have hP : va_P (dC, dI) vwCl (xW κ (xX κ φ ψ) σ) H := hP
    have hD : va_D A (xW κ (xX κ φ ψ) σ) := hD
    refine W.widen (k := 0) (n := 0) (Nat.le_of_ble_eq_true rfl) (Nat.le_of_ble_eq_true rfl) ?_
    refine zv (v := .ref a0) (by rw [q7_]; rfl) ?_
    refine lv_astore_n (lv' := [(3, .ref a0), (0, .ref (kA κ 0)), (1, .int x), (2, .int y)]) hx hb dX11_plan_15 rfl hl (Nat.le_of_ble_eq_true rfl) rfl (fun ls hl => ?_)
    refine lv_aload_n hx hb dX11_plan_16 rfl (lv_at hl 0 rfl) ?_
    refine lv_iload_n hx hb dX11_plan_17 rfl (lv_at hl 2 rfl) ?_
    have o1 : 0 ≤ x.toInt := by omega
    have o2 : x.toInt < (pI κ 2).toInt := by omega
    refine zy_v (va_runV (As := [.int x]) (rest := []) ⟨hx, hb, hml, hown, hts⟩ (p_prepare l dC dI κ a0 (fX κ (kE κ) φ) H.size ψ σ x hk hI trivial ⟨o1, o2⟩) (cwV 1 hts gd_v_plan_364_p_prepare rfl rfl rfl dd_p_prepare ⟨Nat.le_of_ble_eq_true rfl, Nat.le_of_ble_eq_true rfl⟩) (preVy ((vpP he).mp hP) hK ((vpD he).mp hD) hE (ci := 2) (q0 := 27) rfl rfl) rfl rfl hl.1 rfl (lv_room (Nat.le_of_ble_eq_true rfl)) dX11_plan_18 ⟨Nat.le_of_ble_eq_true rfl, Nat.le_of_ble_eq_true rfl⟩) ((vpD he).mp hD) hS hA (fun τ12_ H locs hq hP hD hS => ?_)
    obtain ⟨φ14_, τ15_⟩ := τ12_
    obtain ⟨hτ15_, hφ14_, q13_⟩ := hq
    have hP : va_P (dC, dI) vwCl (xW κ (xX κ φ φ14_) τ15_) H := (vpP he).mpr hP
    have hD : va_D A (xW κ (xX κ φ φ14_) τ15_) := (vpD he).mpr hD
    refine W.widen (k := 0) (n := 0) (Nat.le_of_ble_eq_true rfl) (Nat.le_of_ble_eq_true rfl) ?_
    refine lv_aload_n hx hb dX11_plan_21 rfl (lv_at hl 0 rfl) ?_
    refine lv_iload_n hx hb dX11_plan_22 rfl (lv_at hl 3 rfl) ?_
    have o3 : 0 ≤ y.toInt := by omega
    have o4 : y.toInt ≤ 400 := by omega
    refine zy_i (va_runV (As := [.int y]) (rest := []) ⟨hx, hb, hml, hown, hts⟩ (p_savesFor l dC dI κ a0 (fX κ (kE κ) φ) H.size φ14_ τ15_ y hk hτ15_ trivial ⟨o3, o4⟩) (cwV 1 hts gd_v_plan_367_p_savesFor rfl rfl rfl dd_p_savesFor ⟨Nat.le_of_ble_eq_true rfl, Nat.le_of_ble_eq_true rfl⟩) (preVy ((vpP he).mp hP) hK ((vpD he).mp hD) hE (ci := 2) (q0 := 27) rfl rfl) rfl rfl hl.1 rfl (lv_room (Nat.le_of_ble_eq_true rfl)) dX11_plan_23 ⟨Nat.le_of_ble_eq_true rfl, Nat.le_of_ble_eq_true rfl⟩) ((vpD he).mp hD) hS hA (fun z16_ τ17_ H locs hq hP hD hS => ?_)
    obtain ⟨hτ17_, q18_⟩ := hq
    rw [hτ17_] at hP hD
    have hP : va_P (dC, dI) vwCl (xW κ (xX κ φ φ14_) τ15_) H := (vpP he).mpr hP
    have hD : va_D A (xW κ (xX κ φ φ14_) τ15_) := (vpD he).mpr hD
    refine W.widen (k := 0) (n := 0) (Nat.le_of_ble_eq_true rfl) (Nat.le_of_ble_eq_true rfl) ?_
    rw [hQ]
    exact W.iret (v := z16_) hx hb hr (fun t ht hW => ⟨⟨z16_, (φ, φ14_, τ15_), rfl, ⟨hτ15_, hF, trivial⟩, wEn_of hP (hK.sub [] rfl) hD ht hW⟩, hS.F ht⟩) hS.2.2 dX11_plan_26
  · have tc4_ := (show z1_.toInt = 0 from ti_eq rfl rg_11 c4_)
    refine lv_iconst (v := (-1)) hx hb dX11_plan_9 rg_53 ?_
    have kk19_ : ((-1) : Int32).toInt = (-1) := rg_489
    rw [hQ]
    exact W.iret (v := (-1)) hx hb hr (fun t ht hW => ⟨⟨(-1), (φ, ψ, σ), rfl, ⟨hI, hF, trivial⟩, wEn_of hP (hK.sub [] rfl) hD ht hW⟩, hS.F ht⟩) hS.2.2 dX11_plan_10
def ow_v_planned : List Cond := [.fieldLink RX11 33 "NearEnough" "sheets" "LNearEnough$Sheets;"]
def vs_v_planned : List Cond := .code yX11_planned cX11_planned 5 (some .int) :: (ow_v_planned ++ (([.methodLink RX11 357 yX11_canPlan, .instanceMethod yX11_canPlan, .selects RX11 yX11_canPlan yX11_canPlan, .initialized RX11] : List Cond) ++ (vs_k_canPlan ++ (([.methodLink RX11 167 yX7_has, .instanceMethod yX7_has, .selects RX7 yX7_has yX7_has, .initialized RX7] : List Cond) ++ (vs_k_has ++ (([.methodLink RX11 360 yX11_madePlan, .instanceMethod yX11_madePlan, .selects RX11 yX11_madePlan yX11_madePlan, .initialized RX11] : List Cond) ++ (vs_v_madeP ++ (([.methodLink RX11 364 yX2_prepare, .instanceMethod yX2_prepare, .selects RX2 yX2_prepare yX2_prepare, .initialized RX2] : List Cond) ++ (vs_p_prepare ++ (([.methodLink RX11 370 yX2_choiceFor, .instanceMethod yX2_choiceFor, .selects RX2 yX2_choiceFor yX2_choiceFor, .initialized RX2] : List Cond) ++ (vs_p_choiceFor ++ (wsX110))))))))))))
theorem vg_v_planned : vs_v_planned.all goodWord = true := by decide +kernel
theorem dd_v_planned : yX11_planned.cls = RX11 ∧ yX11_planned.cls ≠ "java/lang/invoke/MethodHandle" ∧ yX11_planned.cls ≠ "java/lang/invoke/VarHandle" ∧ (parseMethodDescriptor yX11_planned.desc).map (fun d => d.parameters.length) = some 3 := by decide +kernel
def rm_v_planned : Room := { frames := 7, cells := 0, slots := 0, locals := 185 }
theorem gd_v_planned_357_k_canPlan : GoodIn vs_v_planned (wsV RX11 357 RX11 yX11_canPlan vs_k_canPlan) := goodIn_app (goodIn_sub (fun w h => (List.mem_cons_of_mem _ (List.mem_append_right _ (List.mem_append_left _ h)))) (by decide +kernel)) (goodIn_sub (fun w h => (List.mem_cons_of_mem _ (List.mem_append_right _ (List.mem_append_right _ (List.mem_append_left _ h))))) vg_k_canPlan)
theorem gd_v_planned_167_k_has : GoodIn vs_v_planned (wsV RX11 167 RX7 yX7_has vs_k_has) := goodIn_app (goodIn_sub (fun w h => (List.mem_cons_of_mem _ (List.mem_append_right _ (List.mem_append_right _ (List.mem_append_right _ (List.mem_append_left _ h)))))) (by decide +kernel)) (goodIn_sub (fun w h => (List.mem_cons_of_mem _ (List.mem_append_right _ (List.mem_append_right _ (List.mem_append_right _ (List.mem_append_right _ (List.mem_append_left _ h))))))) vg_k_has)
theorem gd_v_planned_360_v_madeP : GoodIn vs_v_planned (wsV RX11 360 RX11 yX11_madePlan vs_v_madeP) := goodIn_app (goodIn_sub (fun w h => (List.mem_cons_of_mem _ (List.mem_append_right _ (List.mem_append_right _ (List.mem_append_right _ (List.mem_append_right _ (List.mem_append_right _ (List.mem_append_left _ h)))))))) (by decide +kernel)) (goodIn_sub (fun w h => (List.mem_cons_of_mem _ (List.mem_append_right _ (List.mem_append_right _ (List.mem_append_right _ (List.mem_append_right _ (List.mem_append_right _ (List.mem_append_right _ (List.mem_append_left _ h))))))))) vg_v_madeP)
theorem gd_v_planned_364_p_prepare : GoodIn vs_v_planned (wsV RX11 364 RX2 yX2_prepare vs_p_prepare) := goodIn_app (goodIn_sub (fun w h => (List.mem_cons_of_mem _ (List.mem_append_right _ (List.mem_append_right _ (List.mem_append_right _ (List.mem_append_right _ (List.mem_append_right _ (List.mem_append_right _ (List.mem_append_right _ (List.mem_append_left _ h)))))))))) (by decide +kernel)) (goodIn_sub (fun w h => (List.mem_cons_of_mem _ (List.mem_append_right _ (List.mem_append_right _ (List.mem_append_right _ (List.mem_append_right _ (List.mem_append_right _ (List.mem_append_right _ (List.mem_append_right _ (List.mem_append_right _ (List.mem_append_left _ h))))))))))) vg_p_prepare)
theorem gd_v_planned_370_p_choiceFor : GoodIn vs_v_planned (wsV RX11 370 RX2 yX2_choiceFor vs_p_choiceFor) := goodIn_app (goodIn_sub (fun w h => (List.mem_cons_of_mem _ (List.mem_append_right _ (List.mem_append_right _ (List.mem_append_right _ (List.mem_append_right _ (List.mem_append_right _ (List.mem_append_right _ (List.mem_append_right _ (List.mem_append_right _ (List.mem_append_right _ (List.mem_append_left _ h)))))))))))) (by decide +kernel)) (goodIn_sub (fun w h => (List.mem_cons_of_mem _ (List.mem_append_right _ (List.mem_append_right _ (List.mem_append_right _ (List.mem_append_right _ (List.mem_append_right _ (List.mem_append_right _ (List.mem_append_right _ (List.mem_append_right _ (List.mem_append_right _ (List.mem_append_right _ (List.mem_append_left _ h))))))))))))) vg_p_choiceFor)
set_option maxHeartbeats 4000000 in
set_option maxRecDepth 100000 in
theorem v_planned (l : Launch) (dC : Nat → ClassId) (dI : Nat → Nat → Nat) (κ : CE) (sz : Nat) (φ ψ σ : MS) (x : Int32) (y : Int32) (z : Int32) (hk : PInv κ) (hI : CInv σ) (hF : FInv φ) (a0 : Nat) (he : kP κ = some a0) : Met l yX11_planned vs_v_planned rm_v_planned (va_Pc [.ref (kA κ 0), .int x, .int y, .int z] (wSy dC dI (xW κ (xX κ φ ψ) σ) (tT κ) sz)) (va_Qi (fun (r : Int32) (u : MS × MS × MS) => CInv u.2.2 ∧ FInv u.1 ∧ True) (fun (u : MS × MS × MS) => wEn dC dI (va_A (xW κ (xX κ φ ψ) σ) sz) (xW κ (xX κ u.1 u.2.1) u.2.2) []) (va_A (xW κ (xX κ φ ψ) σ) sz)) 0 0 (va_A (xW κ (xX κ φ ψ) σ) sz) := by
  refine Met.ofW (cc := cX11_planned) (maxL := 5) (ret := (some .int)) (by decide +kernel) rfl ?_
  intro p e s m args below meth c s₁ B hml hv
  obtain ⟨rfl, hsz, hP, hK, hD0, hE⟩ := hv
  have hx := B.exec
  have hb := B.bytes
  have hr := B.returns
  have hts := atoms_spec (ws := vs_v_planned) B.pre
  have hown : s.vm.findClass RX11 = some m.cls := findClass_of_methodNamed B.named
  have hlocks := B.notSynchronized
  subst hsz
  have hD := hD0.self (sz := s.heap.size)
  generalize hAe : va_A (xW κ (xX κ φ ψ) σ) s.heap.size = A at hD ⊢
  have hA : ∀ q : Nat, s.heap.size ≤ q → A q := fun q h => by rw [← hAe]; exact Or.inr h
  have hl := lv_entry ([.ref (kA κ 0), .int x, .int y, .int z]) (n := 5) (Nat.le_of_ble_eq_true rfl)
  rw [lg_entry_eq]
  generalize (lg_sl ([.ref (kA κ 0), .int x, .int y, .int z]) ++ List.replicate (5 - (lg_sl ([.ref (kA κ 0), .int x, .int y, .int z])).length) Slot.unset).toArray = ls at hl ⊢
  have hl : lv_has ls 5 [(0, .ref (kA κ 0)), (1, .int x), (2, .int y), (3, .int z)] := hl
  have ho := fun w (h : w ∈ ow_v_planned) => hts w (List.mem_cons_of_mem _ (List.mem_append_left _ h))
  have hin11 : ∀ w ∈ u_ws RX11 TX11 17, w ∈ vs_v_planned := fun w h => (List.mem_cons_of_mem _ (List.mem_append_right _ (List.mem_append_right _ (List.mem_append_right _ (List.mem_append_right _ (List.mem_append_right _ (List.mem_append_right _ (List.mem_append_right _ (List.mem_append_right _ (List.mem_append_right _ (List.mem_append_right _ (List.mem_append_right _ h))))))))))))
  refine zQ (fun Q hQ => ?_)
  refine zH (A := A) (ws := (xW κ (xX κ φ ψ) σ)) (fun H hP hS => ?_) hP
  have hk0 := hk.1
  have hk1 := hk.2.1
  have hk2 := hk.2.2.1
  have hKc : va_K (dC, dI) vwCl (cT κ) s := hK.sub [0, 1, 2, 3, 4, 5, 6, 7, 8, 9, 10, 11, 12, 13, 14, 15, 16, 17, 18, 19, 20] rfl
  refine lv_aload_n hx hb dX11_planned_0 rfl (lv_at hl 0 rfl) ?_
  refine lv_iload_n hx hb dX11_planned_1 rfl (lv_at hl 1 rfl) ?_
  refine lv_iload_n hx hb dX11_planned_2 rfl (lv_at hl 2 rfl) ?_
  refine zy_i (va_runV (As := [.int x, .int y]) (rest := []) ⟨hx, hb, hml, hown, hts⟩ (k_canPlan l dC dI (ky κ (xX κ φ ψ)) H.size σ x y hk hI ) (cwV 2 hts gd_v_planned_357_k_canPlan rfl rfl rfl dd_k_canPlan ⟨Nat.le_of_ble_eq_true rfl, Nat.le_of_ble_eq_true rfl⟩) (preVy (xcP hP) hKc (xcD hD) hE (ci := 11) (q0 := 0) rfl rfl) rfl rfl hl.1 rfl (lv_room (Nat.le_of_ble_eq_true rfl)) dX11_planned_3 ⟨Nat.le_of_ble_eq_true rfl, Nat.le_of_ble_eq_true rfl⟩) (xcD hD) hS hA (fun z1_ τ2_ H locs hq hP hD hS => ?_)
  obtain ⟨hτ2_, q3_⟩ := hq
  rw [hτ2_] at hP hD
  have hP : va_P (dC, dI) vwCl (xW κ (xX κ φ ψ) σ) H := cxP hP
  have hD : va_D A (xW κ (xX κ φ ψ) σ) := cxD hD
  have q3_ : (z1_.toInt = 1 ∧ 0 ≤ x.toInt ∧ x.toInt < (pI κ 2).toInt ∧ 0 ≤ y.toInt ∧ y.toInt ≤ 400) ∨ z1_.toInt = 0 := q3_
  refine W.widen (k := 0) (n := 0) (Nat.le_of_ble_eq_true rfl) (Nat.le_of_ble_eq_true rfl) ?_
  refine lv_if_eq (tgt := 20) hx hb dX11_planned_6 rfl (fun c4_ => ?_) (fun c4_ => ?_)
  · have tc4_ := (show z1_.toInt = 0 from ti_eq rfl rg_11 c4_)
    refine lv_iconst (v := (-1)) hx hb dX11_planned_20 rg_53 ?_
    have kk5_ : ((-1) : Int32).toInt = (-1) := rg_489
    rw [hQ]
    exact W.iret (v := (-1)) hx hb hr (fun t ht hW => ⟨⟨(-1), (φ, ψ, σ), rfl, ⟨hI, hF, trivial⟩, wEn_of hP (hK.sub [] rfl) hD ht hW⟩, hS.F ht⟩) hS.2.2 dX11_planned_21
  · have tc4_ := (show z1_.toInt ≠ 0 from ti_ne rfl rg_11 c4_)
    refine lv_aload_n hx hb dX11_planned_9 rfl (lv_at hl 0 rfl) ?_
    refine va_get (D := (dC, dI)) (ci := 11) (v := .ref (kA κ 12)) (C := RX11) (T := TX11) (N := 17) hx hb hts hin11 hown hK hP 0 rfl rfl 5 (Nat.le_of_ble_eq_true rfl) (ho (.fieldLink RX11 33 "NearEnough" "sheets" "LNearEnough$Sheets;") (List.mem_of_getElem? (i := 0) rfl)) (fun _ h9 => h9) rfl dX11_planned_10 ?_
    refine lv_iload_n hx hb dX11_planned_13 rfl (lv_at hl 3 rfl) ?_
    refine zy_i (va_runV (As := [.int z]) (rest := []) ⟨hx, hb, hml, hown, hts⟩ (k_has l dC dI (ky κ (xX κ φ ψ)) H.size σ z hk hI ) (cwV 1 hts gd_v_planned_167_k_has rfl rfl rfl dd_k_has ⟨Nat.le_of_ble_eq_true rfl, Nat.le_of_ble_eq_true rfl⟩) (preVy (xcP hP) hKc (xcD hD) hE (ci := 7) (q0 := 12) rfl rfl) rfl rfl hl.1 rfl (lv_room (Nat.le_of_ble_eq_true rfl)) dX11_planned_14 ⟨Nat.le_of_ble_eq_true rfl, Nat.le_of_ble_eq_true rfl⟩) (xcD hD) hS hA (fun z6_ τ7_ H locs hq hP hD hS => ?_)
    obtain ⟨hτ7_, q8_⟩ := hq
    rw [hτ7_] at hP hD
    have hP : va_P (dC, dI) vwCl (xW κ (xX κ φ ψ) σ) H := cxP hP
    have hD : va_D A (xW κ (xX κ φ ψ) σ) := cxD hD
    have q8_ : (z6_.toInt = 1 ∧ 0 ≤ z.toInt ∧ z.toInt < 40) ∨ z6_.toInt = 0 := q8_
    refine W.widen (k := 0) (n := 0) (Nat.le_of_ble_eq_true rfl) (Nat.le_of_ble_eq_true rfl) ?_
    refine lv_if_ne (tgt := 22) hx hb dX11_planned_17 rfl (fun c9_ => ?_) (fun c9_ => ?_)
    · have tc9_ := (show z6_.toInt ≠ 0 from ti_ne rfl rg_11 c9_)
      refine lv_aload_n hx hb dX11_planned_22 rfl (lv_at hl 0 rfl) ?_
      refine zy_q (va_runV (As := []) (rest := []) ⟨hx, hb, hml, hown, hts⟩ (v_madeP l dC dI κ H.size φ ψ σ  hk hI hF a0 he) (cwV 0 hts gd_v_planned_360_v_madeP rfl rfl rfl dd_v_madeP ⟨Nat.le_of_ble_eq_true rfl, Nat.le_of_ble_eq_true rfl⟩) (preVy hP hK hD hE (ci := 11) (q0 := 0) rfl rfl) rfl rfl hl.1 rfl (lv_room (Nat.le_of_ble_eq_true rfl)) dX11_planned_23 ⟨Nat.le_of_ble_eq_true rfl, Nat.le_of_ble_eq_true rfl⟩) hD hS hA (fun z10_ τ11_ H locs hq hP hD hS => ?_)
      obtain ⟨hτ11_, q12_⟩ := hq
      rw [hτ11_] at hP hD
      have hP : va_P (dC, dI) vwCl (xW κ (xX κ φ ψ) σ) H := hP
      have hD : va_D A (xW κ (xX κ φ ψ) σ) := hD
      refine W.widen (k := 0) (n := 0) (Nat.le_of_ble_eq_true rfl) (Nat.le_of_ble_eq_true rfl) ?_
      refine zv (v := .ref a0) (by rw [q12_]; rfl) ?_
      refine lv_astore (lv' := [(4, .ref a0), (0, .ref (kA κ 0)), (1, .int x), (2, .int y), (3, .int z)]) hx hb dX11_planned_26 hl (Nat.le_of_ble_eq_true rfl) rfl (fun ls hl => ?_)
      refine lv_aload hx hb dX11_planned_28 (lv_at hl 0 rfl) ?_
      refine lv_iload_n hx hb dX11_planned_30 rfl (lv_at hl 2 rfl) ?_
      have o1 : 0 ≤ x.toInt := by omega
      have o2 : x.toInt < (pI κ 2).toInt := by omega
      refine zy_v (va_runV (As := [.int x]) (rest := []) ⟨hx, hb, hml, hown, hts⟩ (p_prepare l dC dI κ a0 (fX κ (kE κ) φ) H.size ψ σ x hk hI trivial ⟨o1, o2⟩) (cwV 1 hts gd_v_planned_364_p_prepare rfl rfl rfl dd_p_prepare ⟨Nat.le_of_ble_eq_true rfl, Nat.le_of_ble_eq_true rfl⟩) (preVy ((vpP he).mp hP) hK ((vpD he).mp hD) hE (ci := 2) (q0 := 27) rfl rfl) rfl rfl hl.1 rfl (lv_room (Nat.le_of_ble_eq_true rfl)) dX11_planned_31 ⟨Nat.le_of_ble_eq_true rfl, Nat.le_of_ble_eq_true rfl⟩) ((vpD he).mp hD) hS hA (fun τ17_ H locs hq hP hD hS => ?_)
      obtain ⟨φ19_, τ20_⟩ := τ17_
      obtain ⟨hτ20_, hφ19_, q18_⟩ := hq
      have hP : va_P (dC, dI) vwCl (xW κ (xX κ φ φ19_) τ20_) H := (vpP he).mpr hP
      have hD : va_D A (xW κ (xX κ φ φ19_) τ20_) := (vpD he).mpr hD
      refine W.widen (k := 0) (n := 0) (Nat.le_of_ble_eq_true rfl) (Nat.le_of_ble_eq_true rfl) ?_
      refine lv_aload hx hb dX11_planned_34 (lv_at hl 0 rfl) ?_
      refine lv_iload_n hx hb dX11_planned_36 rfl (lv_at hl 3 rfl) ?_
      refine lv_iload_n hx hb dX11_planned_37 rfl (lv_at hl 4 rfl) ?_
      have o3 : 0 ≤ y.toInt := by omega
      have o4 : y.toInt ≤ 400 := by omega
      have o5 : 0 ≤ z.toInt := by omega
      have o6 : z.toInt ≤ 39 := by omega
      refine zy_i (va_runV (As := [.int y, .int z]) (rest := []) ⟨hx, hb, hml, hown, hts⟩ (p_choiceFor l dC dI κ a0 (fX κ (kE κ) φ) H.size φ19_ τ20_ y z hk hτ20_ trivial ⟨o3, o4⟩ ⟨o5, o6⟩) (cwV 2 hts gd_v_planned_370_p_choiceFor rfl rfl rfl dd_p_choiceFor ⟨Nat.le_of_ble_eq_true rfl, Nat.le_of_ble_eq_true rfl⟩) (preVy ((vpP he).mp hP) hK ((vpD he).mp hD) hE (ci := 2) (q0 := 27) rfl rfl) rfl rfl hl.1 rfl (lv_room (Nat.le_of_ble_eq_true rfl)) dX11_planned_38 ⟨Nat.le_of_ble_eq_true rfl, Nat.le_of_ble_eq_true rfl⟩) ((vpD he).mp hD) hS hA (fun z21_ τ22_ H locs hq hP hD hS => ?_)
      obtain ⟨hτ22_, q23_⟩ := hq
      rw [hτ22_] at hP hD
      have hP : va_P (dC, dI) vwCl (xW κ (xX κ φ φ19_) τ20_) H := (vpP he).mpr hP
      have hD : va_D A (xW κ (xX κ φ φ19_) τ20_) := (vpD he).mpr hD
      refine W.widen (k := 0) (n := 0) (Nat.le_of_ble_eq_true rfl) (Nat.le_of_ble_eq_true rfl) ?_
      rw [hQ]
      exact W.iret (v := z21_) hx hb hr (fun t ht hW => ⟨⟨z21_, (φ, φ19_, τ20_), rfl, ⟨hτ20_, hF, trivial⟩, wEn_of hP (hK.sub [] rfl) hD ht hW⟩, hS.F ht⟩) hS.2.2 dX11_planned_41
    · have tc9_ := (show z6_.toInt = 0 from ti_eq rfl rg_11 c9_)
      refine lv_iconst (v := (-1)) hx hb dX11_planned_20 rg_53 ?_
      have kk24_ : ((-1) : Int32).toInt = (-1) := rg_489
      rw [hQ]
      exact W.iret (v := (-1)) hx hb hr (fun t ht hW => ⟨⟨(-1), (φ, ψ, σ), rfl, ⟨hI, hF, trivial⟩, wEn_of hP (hK.sub [] rfl) hD ht hW⟩, hS.F ht⟩) hS.2.2 dX11_planned_21
