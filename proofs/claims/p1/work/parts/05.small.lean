theorem dJ7_fill_53178_0 : decode cJ7_fill_53178 0 = .ok (.iconst 0, 1) := by decide +kernel
theorem dJ7_fill_53178_1 : decode cJ7_fill_53178 1 = .ok (.istore_n 2, 1) := by decide +kernel
theorem dJ7_fill_53178_2 : decode cJ7_fill_53178 2 = .ok (.aload_n 0, 1) := by decide +kernel
theorem dJ7_fill_53178_3 : decode cJ7_fill_53178 3 = .ok (.arraylength, 1) := by decide +kernel
theorem dJ7_fill_53178_4 : decode cJ7_fill_53178 4 = .ok (.istore_n 3, 1) := by decide +kernel
theorem dJ7_fill_53178_5 : decode cJ7_fill_53178 5 = .ok (.iload_n 2, 1) := by decide +kernel
theorem dJ7_fill_53178_6 : decode cJ7_fill_53178 6 = .ok (.iload_n 3, 1) := by decide +kernel
theorem dJ7_fill_53178_7 : decode cJ7_fill_53178 7 = .ok (.if_icmp .ge 13, 3) := by decide +kernel
theorem dJ7_fill_53178_10 : decode cJ7_fill_53178 10 = .ok (.aload_n 0, 1) := by decide +kernel
theorem dJ7_fill_53178_11 : decode cJ7_fill_53178 11 = .ok (.iload_n 2, 1) := by decide +kernel
theorem dJ7_fill_53178_12 : decode cJ7_fill_53178 12 = .ok (.iload_n 1, 1) := by decide +kernel
theorem dJ7_fill_53178_13 : decode cJ7_fill_53178 13 = .ok (.iastore, 1) := by decide +kernel
theorem dJ7_fill_53178_14 : decode cJ7_fill_53178 14 = .ok (.iinc 2 1, 3) := by decide +kernel
theorem dJ7_fill_53178_17 : decode cJ7_fill_53178 17 = .ok (.goto (-12), 3) := by decide +kernel
theorem dJ7_fill_53178_20 : decode cJ7_fill_53178 20 = .ok (.return_, 1) := by decide +kernel
theorem dX0_take_0 : decode cX0_take 0 = .ok (.aload_n 0, 1) := by decide +kernel
theorem dX0_take_1 : decode cX0_take 1 = .ok (.getfield 24, 3) := by decide +kernel
theorem dX0_take_4 : decode cX0_take 4 = .ok (.iconst (-1), 1) := by decide +kernel
theorem dX0_take_5 : decode cX0_take 5 = .ok (.invokestatic 40, 3) := by decide +kernel
theorem dX0_take_8 : decode cX0_take 8 = .ok (.aload_n 0, 1) := by decide +kernel
theorem dX0_take_9 : decode cX0_take 9 = .ok (.iconst 0, 1) := by decide +kernel
theorem dX0_take_10 : decode cX0_take 10 = .ok (.putfield 31, 3) := by decide +kernel
theorem dX0_take_13 : decode cX0_take 13 = .ok (.iload_n 1, 1) := by decide +kernel
theorem dX0_take_14 : decode cX0_take 14 = .ok (.ifCond .lt 13, 3) := by decide +kernel
theorem dX0_take_17 : decode cX0_take 17 = .ok (.iload_n 1, 1) := by decide +kernel
theorem dX0_take_18 : decode cX0_take 18 = .ok (.iconst 1, 1) := by decide +kernel
theorem dX0_take_19 : decode cX0_take 19 = .ok (.aload_n 0, 1) := by decide +kernel
theorem dX0_take_20 : decode cX0_take 20 = .ok (.getfield 27, 3) := by decide +kernel
theorem dX0_take_23 : decode cX0_take 23 = .ok (.ishl, 1) := by decide +kernel
theorem dX0_take_24 : decode cX0_take 24 = .ok (.if_icmp .lt 5, 3) := by decide +kernel
theorem dX0_take_29 : decode cX0_take 29 = .ok (.iconst 0, 1) := by decide +kernel
theorem dX0_take_30 : decode cX0_take 30 = .ok (.istore_n 2, 1) := by decide +kernel
theorem dX0_take_31 : decode cX0_take 31 = .ok (.iload_n 2, 1) := by decide +kernel
theorem dX0_take_32 : decode cX0_take 32 = .ok (.aload_n 0, 1) := by decide +kernel
theorem dX0_take_33 : decode cX0_take 33 = .ok (.getfield 27, 3) := by decide +kernel
theorem dX0_take_36 : decode cX0_take 36 = .ok (.if_icmp .ge 46, 3) := by decide +kernel
theorem dX0_take_82 : decode cX0_take 82 = .ok (.aload_n 0, 1) := by decide +kernel
theorem dX0_take_83 : decode cX0_take 83 = .ok (.iload_n 1, 1) := by decide +kernel
theorem dX0_take_84 : decode cX0_take 84 = .ok (.putfield 31, 3) := by decide +kernel
theorem dX0_take_87 : decode cX0_take 87 = .ok (.iconst 1, 1) := by decide +kernel
theorem dX0_take_88 : decode cX0_take 88 = .ok (.ireturn, 1) := by decide +kernel
theorem dX0_take_27 : decode cX0_take 27 = .ok (.iconst 0, 1) := by decide +kernel
theorem dX0_take_28 : decode cX0_take 28 = .ok (.ireturn, 1) := by decide +kernel
theorem dX0_clear_0 : decode cX0_clear 0 = .ok (.aload_n 0, 1) := by decide +kernel
theorem dX0_clear_1 : decode cX0_clear 1 = .ok (.iconst 0, 1) := by decide +kernel
theorem dX0_clear_2 : decode cX0_clear 2 = .ok (.putfield 27, 3) := by decide +kernel
theorem dX0_clear_5 : decode cX0_clear 5 = .ok (.aload_n 0, 1) := by decide +kernel
theorem dX0_clear_6 : decode cX0_clear 6 = .ok (.iconst 0, 1) := by decide +kernel
theorem dX0_clear_7 : decode cX0_clear 7 = .ok (.invokevirtual 34, 3) := by decide +kernel
theorem dX0_clear_10 : decode cX0_clear 10 = .ok (.pop, 1) := by decide +kernel
theorem dX0_clear_11 : decode cX0_clear 11 = .ok (.return_, 1) := by decide +kernel
theorem dX0_savedBy_0 : decode cX0_savedBy 0 = .ok (.iconst 0, 1) := by decide +kernel
theorem dX0_savedBy_1 : decode cX0_savedBy 1 = .ok (.istore_n 2, 1) := by decide +kernel
theorem dX0_savedBy_2 : decode cX0_savedBy 2 = .ok (.iconst 0, 1) := by decide +kernel
theorem dX0_savedBy_3 : decode cX0_savedBy 3 = .ok (.istore_n 3, 1) := by decide +kernel
theorem dX0_savedBy_4 : decode cX0_savedBy 4 = .ok (.iload_n 3, 1) := by decide +kernel
theorem dX0_savedBy_5 : decode cX0_savedBy 5 = .ok (.aload_n 0, 1) := by decide +kernel
theorem dX0_savedBy_6 : decode cX0_savedBy 6 = .ok (.getfield 27, 3) := by decide +kernel
theorem dX0_savedBy_9 : decode cX0_savedBy 9 = .ok (.if_icmp .ge 26, 3) := by decide +kernel
theorem dX0_savedBy_35 : decode cX0_savedBy 35 = .ok (.iload_n 2, 1) := by decide +kernel
theorem dX0_savedBy_36 : decode cX0_savedBy 36 = .ok (.ireturn, 1) := by decide +kernel
theorem dX0_advance_0 : decode cX0_advance 0 = .ok (.iload_n 1, 1) := by decide +kernel
theorem dX0_advance_1 : decode cX0_advance 1 = .ok (.istore_n 2, 1) := by decide +kernel
theorem dX0_advance_2 : decode cX0_advance 2 = .ok (.iload_n 2, 1) := by decide +kernel
theorem dX0_advance_3 : decode cX0_advance 3 = .ok (.ifCond .lt 72, 3) := by decide +kernel
theorem dX0_advance_75 : decode cX0_advance 75 = .ok (.iconst (-1), 1) := by decide +kernel
theorem dX0_advance_76 : decode cX0_advance 76 = .ok (.ireturn, 1) := by decide +kernel
theorem dX3_hasStep_0 : decode cX3_hasStep 0 = .ok (.iload_n 1, 1) := by decide +kernel
theorem dX3_hasStep_1 : decode cX3_hasStep 1 = .ok (.ifCond .lt 15, 3) := by decide +kernel
theorem dX3_hasStep_16 : decode cX3_hasStep 16 = .ok (.iconst 0, 1) := by decide +kernel
theorem dX3_hasStep_17 : decode cX3_hasStep 17 = .ok (.ireturn, 1) := by decide +kernel
theorem dX3_hasStep_4 : decode cX3_hasStep 4 = .ok (.iload_n 1, 1) := by decide +kernel
theorem dX3_hasStep_5 : decode cX3_hasStep 5 = .ok (.aload_n 0, 1) := by decide +kernel
theorem dX3_hasStep_6 : decode cX3_hasStep 6 = .ok (.getfield 37, 3) := by decide +kernel
theorem dX3_hasStep_9 : decode cX3_hasStep 9 = .ok (.if_icmp .ge 7, 3) := by decide +kernel
theorem dX3_hasEnd_0 : decode cX3_hasEnd 0 = .ok (.iload_n 1, 1) := by decide +kernel
theorem dX3_hasEnd_1 : decode cX3_hasEnd 1 = .ok (.ifCond .lt 15, 3) := by decide +kernel
theorem dX3_hasEnd_16 : decode cX3_hasEnd 16 = .ok (.iconst 0, 1) := by decide +kernel
theorem dX3_hasEnd_17 : decode cX3_hasEnd 17 = .ok (.ireturn, 1) := by decide +kernel
theorem dX3_hasEnd_4 : decode cX3_hasEnd 4 = .ok (.iload_n 1, 1) := by decide +kernel
theorem dX3_hasEnd_5 : decode cX3_hasEnd 5 = .ok (.aload_n 0, 1) := by decide +kernel
theorem dX3_hasEnd_6 : decode cX3_hasEnd 6 = .ok (.getfield 40, 3) := by decide +kernel
theorem dX3_hasEnd_9 : decode cX3_hasEnd 9 = .ok (.if_icmp .ge 7, 3) := by decide +kernel
theorem dX7_has_0 : decode cX7_has 0 = .ok (.iload_n 1, 1) := by decide +kernel
theorem dX7_has_1 : decode cX7_has 1 = .ok (.ifCond .lt 15, 3) := by decide +kernel
theorem dX7_has_16 : decode cX7_has 16 = .ok (.iconst 0, 1) := by decide +kernel
theorem dX7_has_17 : decode cX7_has 17 = .ok (.ireturn, 1) := by decide +kernel
theorem dX7_has_4 : decode cX7_has 4 = .ok (.iload_n 1, 1) := by decide +kernel
theorem dX7_has_5 : decode cX7_has 5 = .ok (.aload_n 0, 1) := by decide +kernel
theorem dX7_has_6 : decode cX7_has 6 = .ok (.getfield 19, 3) := by decide +kernel
theorem dX7_has_9 : decode cX7_has 9 = .ok (.if_icmp .ge 7, 3) := by decide +kernel
theorem dX7_lay_0 : decode cX7_lay 0 = .ok (.iconst 0, 1) := by decide +kernel
theorem dX7_lay_1 : decode cX7_lay 1 = .ok (.istore 4, 2) := by decide +kernel
theorem dX7_lay_3 : decode cX7_lay 3 = .ok (.iload 4, 2) := by decide +kernel
theorem dX7_lay_5 : decode cX7_lay 5 = .ok (.aload_n 3, 1) := by decide +kernel
theorem dX7_lay_6 : decode cX7_lay 6 = .ok (.getfield 23, 3) := by decide +kernel
theorem dX7_lay_9 : decode cX7_lay 9 = .ok (.if_icmp .ge 81, 3) := by decide +kernel
theorem dX7_lay_90 : decode cX7_lay 90 = .ok (.return_, 1) := by decide +kernel
theorem dX10_workPlain_0 : decode cX10_workPlain 0 = .ok (.iload_n 1, 1) := by decide +kernel
theorem dX10_workPlain_1 : decode cX10_workPlain 1 = .ok (.bipush 12, 2) := by decide +kernel
theorem dX10_workPlain_3 : decode cX10_workPlain 3 = .ok (.imul, 1) := by decide +kernel
theorem dX10_workPlain_4 : decode cX10_workPlain 4 = .ok (.istore_n 3, 1) := by decide +kernel
theorem dX10_workPlain_5 : decode cX10_workPlain 5 = .ok (.iconst 0, 1) := by decide +kernel
theorem dX10_workPlain_6 : decode cX10_workPlain 6 = .ok (.istore 4, 2) := by decide +kernel
theorem dX10_workPlain_8 : decode cX10_workPlain 8 = .ok (.iload 4, 2) := by decide +kernel
theorem dX10_workPlain_10 : decode cX10_workPlain 10 = .ok (.iload_n 2, 1) := by decide +kernel
theorem dX10_workPlain_11 : decode cX10_workPlain 11 = .ok (.if_icmp .gt 39, 3) := by decide +kernel
theorem dX10_workPlain_50 : decode cX10_workPlain 50 = .ok (.return_, 1) := by decide +kernel
theorem dX8_show_0 : decode cX8_show 0 = .ok (.iload_n 1, 1) := by decide +kernel
theorem dX8_show_1 : decode cX8_show 1 = .ok (.istore_n 2, 1) := by decide +kernel
theorem dX8_show_2 : decode cX8_show 2 = .ok (.iload_n 2, 1) := by decide +kernel
theorem dX8_show_3 : decode cX8_show 3 = .ok (.aload_n 0, 1) := by decide +kernel
theorem dX8_show_4 : decode cX8_show 4 = .ok (.getfield 36, 3) := by decide +kernel
theorem dX8_show_7 : decode cX8_show 7 = .ok (.getfield 63, 3) := by decide +kernel
theorem dX8_show_10 : decode cX8_show 10 = .ok (.if_icmp .ge 153, 3) := by decide +kernel
theorem dX8_show_163 : decode cX8_show 163 = .ok (.iconst (-1), 1) := by decide +kernel
theorem dX8_show_164 : decode cX8_show 164 = .ok (.ireturn, 1) := by decide +kernel
theorem dX8_restart_0 : decode cX8_restart 0 = .ok (.aload_n 0, 1) := by decide +kernel
theorem dX8_restart_1 : decode cX8_restart 1 = .ok (.getfield 40, 3) := by decide +kernel
theorem dX8_restart_4 : decode cX8_restart 4 = .ok (.iconst 0, 1) := by decide +kernel
theorem dX8_restart_5 : decode cX8_restart 5 = .ok (.invokevirtual 44, 3) := by decide +kernel
theorem dX8_restart_8 : decode cX8_restart 8 = .ok (.pop, 1) := by decide +kernel
theorem dX8_restart_9 : decode cX8_restart 9 = .ok (.aload_n 0, 1) := by decide +kernel
theorem dX8_restart_10 : decode cX8_restart 10 = .ok (.iconst 0, 1) := by decide +kernel
theorem dX8_restart_11 : decode cX8_restart 11 = .ok (.putfield 25, 3) := by decide +kernel
theorem dX8_restart_14 : decode cX8_restart 14 = .ok (.return_, 1) := by decide +kernel
theorem dX8_next_0 : decode cX8_next 0 = .ok (.aload_n 0, 1) := by decide +kernel
theorem dX8_next_1 : decode cX8_next 1 = .ok (.bipush 12, 2) := by decide +kernel
theorem dX8_next_3 : decode cX8_next 3 = .ok (.putfield 33, 3) := by decide +kernel
theorem dX8_next_6 : decode cX8_next 6 = .ok (.iconst 0, 1) := by decide +kernel
theorem dX8_next_7 : decode cX8_next 7 = .ok (.istore_n 1, 1) := by decide +kernel
theorem dX8_next_8 : decode cX8_next 8 = .ok (.iload_n 1, 1) := by decide +kernel
theorem dX8_next_9 : decode cX8_next 9 = .ok (.sipush 4096, 3) := by decide +kernel
theorem dX8_next_12 : decode cX8_next 12 = .ok (.if_icmp .ge 91, 3) := by decide +kernel
theorem dX8_next_15 : decode cX8_next 15 = .ok (.aload_n 0, 1) := by decide +kernel
theorem dX8_next_16 : decode cX8_next 16 = .ok (.getfield 25, 3) := by decide +kernel
theorem dX8_next_19 : decode cX8_next 19 = .ok (.ifCond .eq 17, 3) := by decide +kernel
theorem dX8_next_36 : decode cX8_next 36 = .ok (.iconst 0, 1) := by decide +kernel
theorem dX8_next_37 : decode cX8_next 37 = .ok (.istore_n 2, 1) := by decide +kernel
theorem dX8_next_38 : decode cX8_next 38 = .ok (.aload_n 0, 1) := by decide +kernel
theorem dX8_next_39 : decode cX8_next 39 = .ok (.iconst 1, 1) := by decide +kernel
theorem dX8_next_40 : decode cX8_next 40 = .ok (.putfield 25, 3) := by decide +kernel
theorem dX8_next_43 : decode cX8_next 43 = .ok (.iload_n 2, 1) := by decide +kernel
theorem dX8_next_44 : decode cX8_next 44 = .ok (.iconst (-1), 1) := by decide +kernel
theorem dX8_next_45 : decode cX8_next 45 = .ok (.if_icmp .ne 5, 3) := by decide +kernel
theorem dX8_next_50 : decode cX8_next 50 = .ok (.aload_n 0, 1) := by decide +kernel
theorem dX8_next_51 : decode cX8_next 51 = .ok (.aload_n 0, 1) := by decide +kernel
theorem dX8_next_52 : decode cX8_next 52 = .ok (.getfield 33, 3) := by decide +kernel
theorem dX8_next_55 : decode cX8_next 55 = .ok (.iload_n 2, 1) := by decide +kernel
theorem dX8_next_56 : decode cX8_next 56 = .ok (.invokestatic 54, 3) := by decide +kernel
theorem dX8_next_59 : decode cX8_next 59 = .ok (.putfield 33, 3) := by decide +kernel
theorem dX8_next_62 : decode cX8_next 62 = .ok (.aload_n 0, 1) := by decide +kernel
theorem dX8_next_63 : decode cX8_next 63 = .ok (.iload_n 2, 1) := by decide +kernel
theorem dX8_next_64 : decode cX8_next 64 = .ok (.invokevirtual 60, 3) := by decide +kernel
theorem dX8_next_67 : decode cX8_next 67 = .ok (.istore_n 3, 1) := by decide +kernel
theorem dX8_next_68 : decode cX8_next 68 = .ok (.aload_n 0, 1) := by decide +kernel
theorem dX8_next_69 : decode cX8_next 69 = .ok (.iload_n 3, 1) := by decide +kernel
theorem dX8_next_70 : decode cX8_next 70 = .ok (.iconst (-1), 1) := by decide +kernel
theorem dX8_next_71 : decode cX8_next 71 = .ok (.if_icmp .ne 15, 3) := by decide +kernel
theorem dX8_next_74 : decode cX8_next 74 = .ok (.aload_n 0, 1) := by decide +kernel
theorem dX8_next_75 : decode cX8_next 75 = .ok (.getfield 36, 3) := by decide +kernel
theorem dX8_next_78 : decode cX8_next 78 = .ok (.getfield 63, 3) := by decide +kernel
theorem dX8_next_81 : decode cX8_next 81 = .ok (.iconst 1, 1) := by decide +kernel
theorem dX8_next_82 : decode cX8_next 82 = .ok (.isub, 1) := by decide +kernel
theorem dX8_next_83 : decode cX8_next 83 = .ok (.goto 4, 3) := by decide +kernel
theorem dX8_next_87 : decode cX8_next 87 = .ok (.putfield 29, 3) := by decide +kernel
theorem dX8_next_90 : decode cX8_next 90 = .ok (.iload_n 3, 1) := by decide +kernel
theorem dX8_next_91 : decode cX8_next 91 = .ok (.iconst (-1), 1) := by decide +kernel
theorem dX8_next_92 : decode cX8_next 92 = .ok (.if_icmp .ne 5, 3) := by decide +kernel
theorem dX8_next_95 : decode cX8_next 95 = .ok (.iconst 1, 1) := by decide +kernel
theorem dX8_next_96 : decode cX8_next 96 = .ok (.ireturn, 1) := by decide +kernel
theorem dX8_next_22 : decode cX8_next 22 = .ok (.aload_n 0, 1) := by decide +kernel
theorem dX8_next_23 : decode cX8_next 23 = .ok (.getfield 40, 3) := by decide +kernel
theorem dX8_next_26 : decode cX8_next 26 = .ok (.aload_n 0, 1) := by decide +kernel
theorem dX8_next_27 : decode cX8_next 27 = .ok (.getfield 29, 3) := by decide +kernel
theorem dX8_next_30 : decode cX8_next 30 = .ok (.invokevirtual 50, 3) := by decide +kernel
theorem dX8_next_33 : decode cX8_next 33 = .ok (.goto 4, 3) := by decide +kernel
theorem dX8_next_48 : decode cX8_next 48 = .ok (.iconst 0, 1) := by decide +kernel
theorem dX8_next_49 : decode cX8_next 49 = .ok (.ireturn, 1) := by decide +kernel
theorem dJ6_bitCount_0f7a4_0 : decode cJ6_bitCount_0f7a4 0 = .ok (.iload_n 0, 1) := by decide +kernel
theorem dJ6_bitCount_0f7a4_1 : decode cJ6_bitCount_0f7a4 1 = .ok (.iload_n 0, 1) := by decide +kernel
theorem dJ6_bitCount_0f7a4_2 : decode cJ6_bitCount_0f7a4 2 = .ok (.iconst 1, 1) := by decide +kernel
theorem dJ6_bitCount_0f7a4_3 : decode cJ6_bitCount_0f7a4 3 = .ok (.iushr, 1) := by decide +kernel
theorem dJ6_bitCount_0f7a4_4 : decode cJ6_bitCount_0f7a4 4 = .ok (.ldc_w 265, 3) := by decide +kernel
theorem dJ6_bitCount_0f7a4_7 : decode cJ6_bitCount_0f7a4 7 = .ok (.iand, 1) := by decide +kernel
theorem dJ6_bitCount_0f7a4_8 : decode cJ6_bitCount_0f7a4 8 = .ok (.isub, 1) := by decide +kernel
theorem dJ6_bitCount_0f7a4_9 : decode cJ6_bitCount_0f7a4 9 = .ok (.istore_n 0, 1) := by decide +kernel
theorem dJ6_bitCount_0f7a4_10 : decode cJ6_bitCount_0f7a4 10 = .ok (.iload_n 0, 1) := by decide +kernel
theorem dJ6_bitCount_0f7a4_11 : decode cJ6_bitCount_0f7a4 11 = .ok (.ldc_w 266, 3) := by decide +kernel
theorem dJ6_bitCount_0f7a4_14 : decode cJ6_bitCount_0f7a4 14 = .ok (.iand, 1) := by decide +kernel
theorem dJ6_bitCount_0f7a4_15 : decode cJ6_bitCount_0f7a4 15 = .ok (.iload_n 0, 1) := by decide +kernel
theorem dJ6_bitCount_0f7a4_16 : decode cJ6_bitCount_0f7a4 16 = .ok (.iconst 2, 1) := by decide +kernel
theorem dJ6_bitCount_0f7a4_17 : decode cJ6_bitCount_0f7a4 17 = .ok (.iushr, 1) := by decide +kernel
theorem dJ6_bitCount_0f7a4_18 : decode cJ6_bitCount_0f7a4 18 = .ok (.ldc_w 266, 3) := by decide +kernel
theorem dJ6_bitCount_0f7a4_21 : decode cJ6_bitCount_0f7a4 21 = .ok (.iand, 1) := by decide +kernel
theorem dJ6_bitCount_0f7a4_22 : decode cJ6_bitCount_0f7a4 22 = .ok (.iadd, 1) := by decide +kernel
theorem dJ6_bitCount_0f7a4_23 : decode cJ6_bitCount_0f7a4 23 = .ok (.istore_n 0, 1) := by decide +kernel
theorem dJ6_bitCount_0f7a4_24 : decode cJ6_bitCount_0f7a4 24 = .ok (.iload_n 0, 1) := by decide +kernel
theorem dJ6_bitCount_0f7a4_25 : decode cJ6_bitCount_0f7a4 25 = .ok (.iload_n 0, 1) := by decide +kernel
theorem dJ6_bitCount_0f7a4_26 : decode cJ6_bitCount_0f7a4 26 = .ok (.iconst 4, 1) := by decide +kernel
theorem dJ6_bitCount_0f7a4_27 : decode cJ6_bitCount_0f7a4 27 = .ok (.iushr, 1) := by decide +kernel
theorem dJ6_bitCount_0f7a4_28 : decode cJ6_bitCount_0f7a4 28 = .ok (.iadd, 1) := by decide +kernel
theorem dJ6_bitCount_0f7a4_29 : decode cJ6_bitCount_0f7a4 29 = .ok (.ldc_w 267, 3) := by decide +kernel
theorem dJ6_bitCount_0f7a4_32 : decode cJ6_bitCount_0f7a4 32 = .ok (.iand, 1) := by decide +kernel
theorem dJ6_bitCount_0f7a4_33 : decode cJ6_bitCount_0f7a4 33 = .ok (.istore_n 0, 1) := by decide +kernel
theorem dJ6_bitCount_0f7a4_34 : decode cJ6_bitCount_0f7a4 34 = .ok (.iload_n 0, 1) := by decide +kernel
theorem dJ6_bitCount_0f7a4_35 : decode cJ6_bitCount_0f7a4 35 = .ok (.iload_n 0, 1) := by decide +kernel
theorem dJ6_bitCount_0f7a4_36 : decode cJ6_bitCount_0f7a4 36 = .ok (.bipush 8, 2) := by decide +kernel
theorem dJ6_bitCount_0f7a4_38 : decode cJ6_bitCount_0f7a4 38 = .ok (.iushr, 1) := by decide +kernel
theorem dJ6_bitCount_0f7a4_39 : decode cJ6_bitCount_0f7a4 39 = .ok (.iadd, 1) := by decide +kernel
theorem dJ6_bitCount_0f7a4_40 : decode cJ6_bitCount_0f7a4 40 = .ok (.istore_n 0, 1) := by decide +kernel
theorem dJ6_bitCount_0f7a4_41 : decode cJ6_bitCount_0f7a4 41 = .ok (.iload_n 0, 1) := by decide +kernel
theorem dJ6_bitCount_0f7a4_42 : decode cJ6_bitCount_0f7a4 42 = .ok (.iload_n 0, 1) := by decide +kernel
theorem dJ6_bitCount_0f7a4_43 : decode cJ6_bitCount_0f7a4 43 = .ok (.bipush 16, 2) := by decide +kernel
theorem dJ6_bitCount_0f7a4_45 : decode cJ6_bitCount_0f7a4 45 = .ok (.iushr, 1) := by decide +kernel
theorem dJ6_bitCount_0f7a4_46 : decode cJ6_bitCount_0f7a4 46 = .ok (.iadd, 1) := by decide +kernel
theorem dJ6_bitCount_0f7a4_47 : decode cJ6_bitCount_0f7a4 47 = .ok (.istore_n 0, 1) := by decide +kernel
theorem dJ6_bitCount_0f7a4_48 : decode cJ6_bitCount_0f7a4 48 = .ok (.iload_n 0, 1) := by decide +kernel
theorem dJ6_bitCount_0f7a4_49 : decode cJ6_bitCount_0f7a4 49 = .ok (.bipush 63, 2) := by decide +kernel
theorem dJ6_bitCount_0f7a4_51 : decode cJ6_bitCount_0f7a4 51 = .ok (.iand, 1) := by decide +kernel
theorem dJ6_bitCount_0f7a4_52 : decode cJ6_bitCount_0f7a4 52 = .ok (.ireturn, 1) := by decide +kernel
theorem dX11_isBetter_0 : decode cX11_isBetter 0 = .ok (.iload_n 0, 1) := by decide +kernel
theorem dX11_isBetter_1 : decode cX11_isBetter 1 = .ok (.iload_n 2, 1) := by decide +kernel
theorem dX11_isBetter_2 : decode cX11_isBetter 2 = .ok (.if_icmp .eq 14, 3) := by decide +kernel
theorem dX11_isBetter_16 : decode cX11_isBetter 16 = .ok (.iload_n 1, 1) := by decide +kernel
theorem dX11_isBetter_17 : decode cX11_isBetter 17 = .ok (.invokestatic 321, 3) := by decide +kernel
theorem dX11_isBetter_20 : decode cX11_isBetter 20 = .ok (.istore 4, 2) := by decide +kernel
theorem dX11_isBetter_22 : decode cX11_isBetter 22 = .ok (.iload_n 3, 1) := by decide +kernel
theorem dX11_isBetter_23 : decode cX11_isBetter 23 = .ok (.invokestatic 321, 3) := by decide +kernel
theorem dX11_isBetter_26 : decode cX11_isBetter 26 = .ok (.istore 5, 2) := by decide +kernel
theorem dX11_isBetter_28 : decode cX11_isBetter 28 = .ok (.iload 4, 2) := by decide +kernel
theorem dX11_isBetter_30 : decode cX11_isBetter 30 = .ok (.iload 5, 2) := by decide +kernel
theorem dX11_isBetter_32 : decode cX11_isBetter 32 = .ok (.if_icmp .eq 18, 3) := by decide +kernel
theorem dX11_isBetter_50 : decode cX11_isBetter 50 = .ok (.iload_n 1, 1) := by decide +kernel
theorem dX11_isBetter_51 : decode cX11_isBetter 51 = .ok (.iload_n 3, 1) := by decide +kernel
theorem dX11_isBetter_52 : decode cX11_isBetter 52 = .ok (.if_icmp .ge 7, 3) := by decide +kernel
theorem dX11_isBetter_59 : decode cX11_isBetter 59 = .ok (.iconst 0, 1) := by decide +kernel
theorem dX11_isBetter_60 : decode cX11_isBetter 60 = .ok (.ireturn, 1) := by decide +kernel
def ow_c_fill : List Cond := []
def vs_c_fill : List Cond := .code yJ7_fill_53178 cJ7_fill_53178 4 none :: (ow_c_fill)
theorem vg_c_fill : vs_c_fill.all goodWord = true := by decide +kernel
set_option maxHeartbeats 4000000 in
set_option maxRecDepth 100000 in
/-- Arrays.fill of twelve ints -/
theorem c_fill (l : Launch) (dC : Nat → ClassId) (dI : Nat → Nat → Nat) (a0 : Nat) (ka : ClassId) (f0 : Nat → Int32) (sz : Nat) : Met l yJ7_fill_53178 vs_c_fill ({ frames := 0, cells := 0, slots := 0, locals := 0 }) (va_Pc [.ref a0, .int (-1)] (wSt dC dI [(a0, .inl (ka, 12, .inl f0))] [(ka, .int)] sz)) (va_Qv (fun (_ : (Nat → Int32)) => True) (fun (u : (Nat → Int32)) => wEn dC dI (va_A [(a0, .inl (ka, 12, .inl f0))] sz) [(a0, .inl (ka, 12, .inl u))] []) (va_A [(a0, .inl (ka, 12, .inl f0))] sz)) 0 0 (va_A [(a0, .inl (ka, 12, .inl f0))] sz) := by
  refine Met.ofW (cc := cJ7_fill_53178) (maxL := 4) (ret := none) (by decide) rfl ?_
  intro p e s m args below meth c s₁ B hml hv
  obtain ⟨rfl, hsz, hP, hK, hD0, hE⟩ := hv
  have hx := B.exec
  have hb := B.bytes
  have hr := B.returns
  have hts := atoms_spec (ws := vs_c_fill) B.pre
  have hown : s.vm.findClass RJ7 = some m.cls := findClass_of_methodNamed B.named
  have hlocks := B.notSynchronized
  subst hsz
  have hD := hD0.self (sz := s.heap.size)
  generalize hAe : va_A [(a0, .inl (ka, 12, .inl f0))] s.heap.size = A at hD ⊢
  have hA : ∀ q : Nat, s.heap.size ≤ q → A q := fun q h => by rw [← hAe]; exact Or.inr h
  have hl := lv_entry ([.ref a0, .int (-1)]) (n := 4) (Nat.le_of_ble_eq_true rfl)
  rw [lg_entry_eq]
  generalize (lg_sl ([.ref a0, .int (-1)]) ++ List.replicate (4 - (lg_sl ([.ref a0, .int (-1)])).length) Slot.unset).toArray = ls at hl ⊢
  have hl : lv_has ls 4 [(0, .ref a0), (1, .int (-1))] := hl
  refine zH (A := A) (ws := [(a0, .inl (ka, 12, .inl f0))]) (fun H hP hS => ?_) hP
  have ho := fun w (h : w ∈ ow_c_fill) => hts w (List.mem_cons_of_mem _ h)
  refine lv_iconst (v := 0) hx hb dJ7_fill_53178_0 (by decide) ?_
  refine lv_istore_n (lv' := [(2, .int 0), (0, .ref a0), (1, .int (-1))]) hx hb dJ7_fill_53178_1 rfl hl (by decide) rfl (fun ls hl => ?_)
  refine lv_aload_n hx hb dJ7_fill_53178_2 rfl (lv_at hl 1 rfl) ?_
  refine va_alen (v := 12) hx hb hK hP 0 0 rfl rfl rfl dJ7_fill_53178_3 ?_
  refine lv_istore_n (lv' := [(3, .int 12), (2, .int 0), (0, .ref a0), (1, .int (-1))]) hx hb dJ7_fill_53178_4 rfl hl (by decide) rfl (fun ls hl => ?_)
  refine lv_iload_n hx hb dJ7_fill_53178_5 rfl (lv_at hl 1 rfl) ?_
  refine lv_iload_n hx hb dJ7_fill_53178_6 rfl (lv_at hl 0 rfl) ?_
  refine lv_icmp_ge (tgt := 20) hx hb dJ7_fill_53178_7 (by decide) (fun cc => absurd cc (by decide)) (fun _ => ?_)
  refine lv_aload_n hx hb dJ7_fill_53178_10 rfl (lv_at hl 2 rfl) ?_
  refine lv_iload_n hx hb dJ7_fill_53178_11 rfl (lv_at hl 1 rfl) ?_
  refine lv_iload_n hx hb dJ7_fill_53178_12 rfl (lv_at hl 3 rfl) ?_
  refine va_iast hx hb hK hP hD hS 0 0 rfl rfl (by unfold vp_in; decide) dJ7_fill_53178_13 (fun H locs hP hD hS => ?_)
  have hP : va_P (dC, dI) vwCl [(a0, .inl (ka, 12, .inl (upd f0 (Int32.toNatClampNeg 0) (-1))))] H := hP
  have hD : va_D A [(a0, .inl (ka, 12, .inl (upd f0 (Int32.toNatClampNeg 0) (-1))))] := hD
  generalize upd f0 (Int32.toNatClampNeg 0) (-1) = f2 at hP hD
  have hP : va_P (dC, dI) vwCl [(a0, .inl (ka, 12, .inl f2))] H := hP
  have hD : va_D A [(a0, .inl (ka, 12, .inl f2))] := hD
  refine lv_iinc (v := 1) (lv' := [(2, .int 1), (3, .int 12), (0, .ref a0), (1, .int (-1))]) hx hb dJ7_fill_53178_14 hl (k := 1) rfl (by decide) (by decide) rfl (fun ls hl => ?_)
  refine lv_goto (tgt := 5) hx hb dJ7_fill_53178_17 (by decide) ?_
  refine lv_iload_n hx hb dJ7_fill_53178_5 rfl (lv_at hl 0 rfl) ?_
  refine lv_iload_n hx hb dJ7_fill_53178_6 rfl (lv_at hl 1 rfl) ?_
  refine lv_icmp_ge (tgt := 20) hx hb dJ7_fill_53178_7 (by decide) (fun cc => absurd cc (by decide)) (fun _ => ?_)
  refine lv_aload_n hx hb dJ7_fill_53178_10 rfl (lv_at hl 2 rfl) ?_
  refine lv_iload_n hx hb dJ7_fill_53178_11 rfl (lv_at hl 0 rfl) ?_
  refine lv_iload_n hx hb dJ7_fill_53178_12 rfl (lv_at hl 3 rfl) ?_
  refine va_iast hx hb hK hP hD hS 0 0 rfl rfl (by unfold vp_in; decide) dJ7_fill_53178_13 (fun H locs hP hD hS => ?_)
  have hP : va_P (dC, dI) vwCl [(a0, .inl (ka, 12, .inl (upd f2 (Int32.toNatClampNeg 1) (-1))))] H := hP
  have hD : va_D A [(a0, .inl (ka, 12, .inl (upd f2 (Int32.toNatClampNeg 1) (-1))))] := hD
  generalize upd f2 (Int32.toNatClampNeg 1) (-1) = f4 at hP hD
  have hP : va_P (dC, dI) vwCl [(a0, .inl (ka, 12, .inl f4))] H := hP
  have hD : va_D A [(a0, .inl (ka, 12, .inl f4))] := hD
  refine lv_iinc (v := 2) (lv' := [(2, .int 2), (3, .int 12), (0, .ref a0), (1, .int (-1))]) hx hb dJ7_fill_53178_14 hl (k := 0) rfl (by decide) (by decide) rfl (fun ls hl => ?_)
  refine lv_goto (tgt := 5) hx hb dJ7_fill_53178_17 (by decide) ?_
  refine lv_iload_n hx hb dJ7_fill_53178_5 rfl (lv_at hl 0 rfl) ?_
  refine lv_iload_n hx hb dJ7_fill_53178_6 rfl (lv_at hl 1 rfl) ?_
  refine lv_icmp_ge (tgt := 20) hx hb dJ7_fill_53178_7 (by decide) (fun cc => absurd cc (by decide)) (fun _ => ?_)
  refine lv_aload_n hx hb dJ7_fill_53178_10 rfl (lv_at hl 2 rfl) ?_
  refine lv_iload_n hx hb dJ7_fill_53178_11 rfl (lv_at hl 0 rfl) ?_
  refine lv_iload_n hx hb dJ7_fill_53178_12 rfl (lv_at hl 3 rfl) ?_
  refine va_iast hx hb hK hP hD hS 0 0 rfl rfl (by unfold vp_in; decide) dJ7_fill_53178_13 (fun H locs hP hD hS => ?_)
  have hP : va_P (dC, dI) vwCl [(a0, .inl (ka, 12, .inl (upd f4 (Int32.toNatClampNeg 2) (-1))))] H := hP
  have hD : va_D A [(a0, .inl (ka, 12, .inl (upd f4 (Int32.toNatClampNeg 2) (-1))))] := hD
  generalize upd f4 (Int32.toNatClampNeg 2) (-1) = f6 at hP hD
  have hP : va_P (dC, dI) vwCl [(a0, .inl (ka, 12, .inl f6))] H := hP
  have hD : va_D A [(a0, .inl (ka, 12, .inl f6))] := hD
  refine lv_iinc (v := 3) (lv' := [(2, .int 3), (3, .int 12), (0, .ref a0), (1, .int (-1))]) hx hb dJ7_fill_53178_14 hl (k := 0) rfl (by decide) (by decide) rfl (fun ls hl => ?_)
  refine lv_goto (tgt := 5) hx hb dJ7_fill_53178_17 (by decide) ?_
  refine lv_iload_n hx hb dJ7_fill_53178_5 rfl (lv_at hl 0 rfl) ?_
  refine lv_iload_n hx hb dJ7_fill_53178_6 rfl (lv_at hl 1 rfl) ?_
  refine lv_icmp_ge (tgt := 20) hx hb dJ7_fill_53178_7 (by decide) (fun cc => absurd cc (by decide)) (fun _ => ?_)
  refine lv_aload_n hx hb dJ7_fill_53178_10 rfl (lv_at hl 2 rfl) ?_
  refine lv_iload_n hx hb dJ7_fill_53178_11 rfl (lv_at hl 0 rfl) ?_
  refine lv_iload_n hx hb dJ7_fill_53178_12 rfl (lv_at hl 3 rfl) ?_
  refine va_iast hx hb hK hP hD hS 0 0 rfl rfl (by unfold vp_in; decide) dJ7_fill_53178_13 (fun H locs hP hD hS => ?_)
  have hP : va_P (dC, dI) vwCl [(a0, .inl (ka, 12, .inl (upd f6 (Int32.toNatClampNeg 3) (-1))))] H := hP
  have hD : va_D A [(a0, .inl (ka, 12, .inl (upd f6 (Int32.toNatClampNeg 3) (-1))))] := hD
  generalize upd f6 (Int32.toNatClampNeg 3) (-1) = f8 at hP hD
  have hP : va_P (dC, dI) vwCl [(a0, .inl (ka, 12, .inl f8))] H := hP
  have hD : va_D A [(a0, .inl (ka, 12, .inl f8))] := hD
  refine lv_iinc (v := 4) (lv' := [(2, .int 4), (3, .int 12), (0, .ref a0), (1, .int (-1))]) hx hb dJ7_fill_53178_14 hl (k := 0) rfl (by decide) (by decide) rfl (fun ls hl => ?_)
  refine lv_goto (tgt := 5) hx hb dJ7_fill_53178_17 (by decide) ?_
  refine lv_iload_n hx hb dJ7_fill_53178_5 rfl (lv_at hl 0 rfl) ?_
  refine lv_iload_n hx hb dJ7_fill_53178_6 rfl (lv_at hl 1 rfl) ?_
  refine lv_icmp_ge (tgt := 20) hx hb dJ7_fill_53178_7 (by decide) (fun cc => absurd cc (by decide)) (fun _ => ?_)
  refine lv_aload_n hx hb dJ7_fill_53178_10 rfl (lv_at hl 2 rfl) ?_
  refine lv_iload_n hx hb dJ7_fill_53178_11 rfl (lv_at hl 0 rfl) ?_
  refine lv_iload_n hx hb dJ7_fill_53178_12 rfl (lv_at hl 3 rfl) ?_
  refine va_iast hx hb hK hP hD hS 0 0 rfl rfl (by unfold vp_in; decide) dJ7_fill_53178_13 (fun H locs hP hD hS => ?_)
  have hP : va_P (dC, dI) vwCl [(a0, .inl (ka, 12, .inl (upd f8 (Int32.toNatClampNeg 4) (-1))))] H := hP
  have hD : va_D A [(a0, .inl (ka, 12, .inl (upd f8 (Int32.toNatClampNeg 4) (-1))))] := hD
  generalize upd f8 (Int32.toNatClampNeg 4) (-1) = f10 at hP hD
  have hP : va_P (dC, dI) vwCl [(a0, .inl (ka, 12, .inl f10))] H := hP
  have hD : va_D A [(a0, .inl (ka, 12, .inl f10))] := hD
  refine lv_iinc (v := 5) (lv' := [(2, .int 5), (3, .int 12), (0, .ref a0), (1, .int (-1))]) hx hb dJ7_fill_53178_14 hl (k := 0) rfl (by decide) (by decide) rfl (fun ls hl => ?_)
  refine lv_goto (tgt := 5) hx hb dJ7_fill_53178_17 (by decide) ?_
  refine lv_iload_n hx hb dJ7_fill_53178_5 rfl (lv_at hl 0 rfl) ?_
  refine lv_iload_n hx hb dJ7_fill_53178_6 rfl (lv_at hl 1 rfl) ?_
  refine lv_icmp_ge (tgt := 20) hx hb dJ7_fill_53178_7 (by decide) (fun cc => absurd cc (by decide)) (fun _ => ?_)
  refine lv_aload_n hx hb dJ7_fill_53178_10 rfl (lv_at hl 2 rfl) ?_
  refine lv_iload_n hx hb dJ7_fill_53178_11 rfl (lv_at hl 0 rfl) ?_
  refine lv_iload_n hx hb dJ7_fill_53178_12 rfl (lv_at hl 3 rfl) ?_
  refine va_iast hx hb hK hP hD hS 0 0 rfl rfl (by unfold vp_in; decide) dJ7_fill_53178_13 (fun H locs hP hD hS => ?_)
  have hP : va_P (dC, dI) vwCl [(a0, .inl (ka, 12, .inl (upd f10 (Int32.toNatClampNeg 5) (-1))))] H := hP
  have hD : va_D A [(a0, .inl (ka, 12, .inl (upd f10 (Int32.toNatClampNeg 5) (-1))))] := hD
  generalize upd f10 (Int32.toNatClampNeg 5) (-1) = f12 at hP hD
  have hP : va_P (dC, dI) vwCl [(a0, .inl (ka, 12, .inl f12))] H := hP
  have hD : va_D A [(a0, .inl (ka, 12, .inl f12))] := hD
  refine lv_iinc (v := 6) (lv' := [(2, .int 6), (3, .int 12), (0, .ref a0), (1, .int (-1))]) hx hb dJ7_fill_53178_14 hl (k := 0) rfl (by decide) (by decide) rfl (fun ls hl => ?_)
  refine lv_goto (tgt := 5) hx hb dJ7_fill_53178_17 (by decide) ?_
  refine lv_iload_n hx hb dJ7_fill_53178_5 rfl (lv_at hl 0 rfl) ?_
  refine lv_iload_n hx hb dJ7_fill_53178_6 rfl (lv_at hl 1 rfl) ?_
  refine lv_icmp_ge (tgt := 20) hx hb dJ7_fill_53178_7 (by decide) (fun cc => absurd cc (by decide)) (fun _ => ?_)
  refine lv_aload_n hx hb dJ7_fill_53178_10 rfl (lv_at hl 2 rfl) ?_
  refine lv_iload_n hx hb dJ7_fill_53178_11 rfl (lv_at hl 0 rfl) ?_
  refine lv_iload_n hx hb dJ7_fill_53178_12 rfl (lv_at hl 3 rfl) ?_
  refine va_iast hx hb hK hP hD hS 0 0 rfl rfl (by unfold vp_in; decide) dJ7_fill_53178_13 (fun H locs hP hD hS => ?_)
  have hP : va_P (dC, dI) vwCl [(a0, .inl (ka, 12, .inl (upd f12 (Int32.toNatClampNeg 6) (-1))))] H := hP
  have hD : va_D A [(a0, .inl (ka, 12, .inl (upd f12 (Int32.toNatClampNeg 6) (-1))))] := hD
  generalize upd f12 (Int32.toNatClampNeg 6) (-1) = f14 at hP hD
  have hP : va_P (dC, dI) vwCl [(a0, .inl (ka, 12, .inl f14))] H := hP
  have hD : va_D A [(a0, .inl (ka, 12, .inl f14))] := hD
  refine lv_iinc (v := 7) (lv' := [(2, .int 7), (3, .int 12), (0, .ref a0), (1, .int (-1))]) hx hb dJ7_fill_53178_14 hl (k := 0) rfl (by decide) (by decide) rfl (fun ls hl => ?_)
  refine lv_goto (tgt := 5) hx hb dJ7_fill_53178_17 (by decide) ?_
  refine lv_iload_n hx hb dJ7_fill_53178_5 rfl (lv_at hl 0 rfl) ?_
  refine lv_iload_n hx hb dJ7_fill_53178_6 rfl (lv_at hl 1 rfl) ?_
  refine lv_icmp_ge (tgt := 20) hx hb dJ7_fill_53178_7 (by decide) (fun cc => absurd cc (by decide)) (fun _ => ?_)
  refine lv_aload_n hx hb dJ7_fill_53178_10 rfl (lv_at hl 2 rfl) ?_
  refine lv_iload_n hx hb dJ7_fill_53178_11 rfl (lv_at hl 0 rfl) ?_
  refine lv_iload_n hx hb dJ7_fill_53178_12 rfl (lv_at hl 3 rfl) ?_
  refine va_iast hx hb hK hP hD hS 0 0 rfl rfl (by unfold vp_in; decide) dJ7_fill_53178_13 (fun H locs hP hD hS => ?_)
  have hP : va_P (dC, dI) vwCl [(a0, .inl (ka, 12, .inl (upd f14 (Int32.toNatClampNeg 7) (-1))))] H := hP
  have hD : va_D A [(a0, .inl (ka, 12, .inl (upd f14 (Int32.toNatClampNeg 7) (-1))))] := hD
  generalize upd f14 (Int32.toNatClampNeg 7) (-1) = f16 at hP hD
  have hP : va_P (dC, dI) vwCl [(a0, .inl (ka, 12, .inl f16))] H := hP
  have hD : va_D A [(a0, .inl (ka, 12, .inl f16))] := hD
  refine lv_iinc (v := 8) (lv' := [(2, .int 8), (3, .int 12), (0, .ref a0), (1, .int (-1))]) hx hb dJ7_fill_53178_14 hl (k := 0) rfl (by decide) (by decide) rfl (fun ls hl => ?_)
  refine lv_goto (tgt := 5) hx hb dJ7_fill_53178_17 (by decide) ?_
  refine lv_iload_n hx hb dJ7_fill_53178_5 rfl (lv_at hl 0 rfl) ?_
  refine lv_iload_n hx hb dJ7_fill_53178_6 rfl (lv_at hl 1 rfl) ?_
  refine lv_icmp_ge (tgt := 20) hx hb dJ7_fill_53178_7 (by decide) (fun cc => absurd cc (by decide)) (fun _ => ?_)
  refine lv_aload_n hx hb dJ7_fill_53178_10 rfl (lv_at hl 2 rfl) ?_
  refine lv_iload_n hx hb dJ7_fill_53178_11 rfl (lv_at hl 0 rfl) ?_
  refine lv_iload_n hx hb dJ7_fill_53178_12 rfl (lv_at hl 3 rfl) ?_
  refine va_iast hx hb hK hP hD hS 0 0 rfl rfl (by unfold vp_in; decide) dJ7_fill_53178_13 (fun H locs hP hD hS => ?_)
  have hP : va_P (dC, dI) vwCl [(a0, .inl (ka, 12, .inl (upd f16 (Int32.toNatClampNeg 8) (-1))))] H := hP
  have hD : va_D A [(a0, .inl (ka, 12, .inl (upd f16 (Int32.toNatClampNeg 8) (-1))))] := hD
  generalize upd f16 (Int32.toNatClampNeg 8) (-1) = f18 at hP hD
  have hP : va_P (dC, dI) vwCl [(a0, .inl (ka, 12, .inl f18))] H := hP
  have hD : va_D A [(a0, .inl (ka, 12, .inl f18))] := hD
  refine lv_iinc (v := 9) (lv' := [(2, .int 9), (3, .int 12), (0, .ref a0), (1, .int (-1))]) hx hb dJ7_fill_53178_14 hl (k := 0) rfl (by decide) (by decide) rfl (fun ls hl => ?_)
  refine lv_goto (tgt := 5) hx hb dJ7_fill_53178_17 (by decide) ?_
  refine lv_iload_n hx hb dJ7_fill_53178_5 rfl (lv_at hl 0 rfl) ?_
  refine lv_iload_n hx hb dJ7_fill_53178_6 rfl (lv_at hl 1 rfl) ?_
  refine lv_icmp_ge (tgt := 20) hx hb dJ7_fill_53178_7 (by decide) (fun cc => absurd cc (by decide)) (fun _ => ?_)
  refine lv_aload_n hx hb dJ7_fill_53178_10 rfl (lv_at hl 2 rfl) ?_
  refine lv_iload_n hx hb dJ7_fill_53178_11 rfl (lv_at hl 0 rfl) ?_
  refine lv_iload_n hx hb dJ7_fill_53178_12 rfl (lv_at hl 3 rfl) ?_
  refine va_iast hx hb hK hP hD hS 0 0 rfl rfl (by unfold vp_in; decide) dJ7_fill_53178_13 (fun H locs hP hD hS => ?_)
  have hP : va_P (dC, dI) vwCl [(a0, .inl (ka, 12, .inl (upd f18 (Int32.toNatClampNeg 9) (-1))))] H := hP
  have hD : va_D A [(a0, .inl (ka, 12, .inl (upd f18 (Int32.toNatClampNeg 9) (-1))))] := hD
  generalize upd f18 (Int32.toNatClampNeg 9) (-1) = f20 at hP hD
  have hP : va_P (dC, dI) vwCl [(a0, .inl (ka, 12, .inl f20))] H := hP
  have hD : va_D A [(a0, .inl (ka, 12, .inl f20))] := hD
  refine lv_iinc (v := 10) (lv' := [(2, .int 10), (3, .int 12), (0, .ref a0), (1, .int (-1))]) hx hb dJ7_fill_53178_14 hl (k := 0) rfl (by decide) (by decide) rfl (fun ls hl => ?_)
  refine lv_goto (tgt := 5) hx hb dJ7_fill_53178_17 (by decide) ?_
  refine lv_iload_n hx hb dJ7_fill_53178_5 rfl (lv_at hl 0 rfl) ?_
  refine lv_iload_n hx hb dJ7_fill_53178_6 rfl (lv_at hl 1 rfl) ?_
  refine lv_icmp_ge (tgt := 20) hx hb dJ7_fill_53178_7 (by decide) (fun cc => absurd cc (by decide)) (fun _ => ?_)
  refine lv_aload_n hx hb dJ7_fill_53178_10 rfl (lv_at hl 2 rfl) ?_
  refine lv_iload_n hx hb dJ7_fill_53178_11 rfl (lv_at hl 0 rfl) ?_
  refine lv_iload_n hx hb dJ7_fill_53178_12 rfl (lv_at hl 3 rfl) ?_
  refine va_iast hx hb hK hP hD hS 0 0 rfl rfl (by unfold vp_in; decide) dJ7_fill_53178_13 (fun H locs hP hD hS => ?_)
  have hP : va_P (dC, dI) vwCl [(a0, .inl (ka, 12, .inl (upd f20 (Int32.toNatClampNeg 10) (-1))))] H := hP
  have hD : va_D A [(a0, .inl (ka, 12, .inl (upd f20 (Int32.toNatClampNeg 10) (-1))))] := hD
  generalize upd f20 (Int32.toNatClampNeg 10) (-1) = f22 at hP hD
  have hP : va_P (dC, dI) vwCl [(a0, .inl (ka, 12, .inl f22))] H := hP
  have hD : va_D A [(a0, .inl (ka, 12, .inl f22))] := hD
  refine lv_iinc (v := 11) (lv' := [(2, .int 11), (3, .int 12), (0, .ref a0), (1, .int (-1))]) hx hb dJ7_fill_53178_14 hl (k := 0) rfl (by decide) (by decide) rfl (fun ls hl => ?_)
  refine lv_goto (tgt := 5) hx hb dJ7_fill_53178_17 (by decide) ?_
  refine lv_iload_n hx hb dJ7_fill_53178_5 rfl (lv_at hl 0 rfl) ?_
  refine lv_iload_n hx hb dJ7_fill_53178_6 rfl (lv_at hl 1 rfl) ?_
  refine lv_icmp_ge (tgt := 20) hx hb dJ7_fill_53178_7 (by decide) (fun cc => absurd cc (by decide)) (fun _ => ?_)
  refine lv_aload_n hx hb dJ7_fill_53178_10 rfl (lv_at hl 2 rfl) ?_
  refine lv_iload_n hx hb dJ7_fill_53178_11 rfl (lv_at hl 0 rfl) ?_
  refine lv_iload_n hx hb dJ7_fill_53178_12 rfl (lv_at hl 3 rfl) ?_
  refine va_iast hx hb hK hP hD hS 0 0 rfl rfl (by unfold vp_in; decide) dJ7_fill_53178_13 (fun H locs hP hD hS => ?_)
  have hP : va_P (dC, dI) vwCl [(a0, .inl (ka, 12, .inl (upd f22 (Int32.toNatClampNeg 11) (-1))))] H := hP
  have hD : va_D A [(a0, .inl (ka, 12, .inl (upd f22 (Int32.toNatClampNeg 11) (-1))))] := hD
  generalize upd f22 (Int32.toNatClampNeg 11) (-1) = f24 at hP hD
  have hP : va_P (dC, dI) vwCl [(a0, .inl (ka, 12, .inl f24))] H := hP
  have hD : va_D A [(a0, .inl (ka, 12, .inl f24))] := hD
  refine lv_iinc (v := 12) (lv' := [(2, .int 12), (3, .int 12), (0, .ref a0), (1, .int (-1))]) hx hb dJ7_fill_53178_14 hl (k := 0) rfl (by decide) (by decide) rfl (fun ls hl => ?_)
  refine lv_goto (tgt := 5) hx hb dJ7_fill_53178_17 (by decide) ?_
  refine lv_iload_n hx hb dJ7_fill_53178_5 rfl (lv_at hl 0 rfl) ?_
  refine lv_iload_n hx hb dJ7_fill_53178_6 rfl (lv_at hl 1 rfl) ?_
  refine lv_icmp_ge (tgt := 20) hx hb dJ7_fill_53178_7 (by decide) (fun _ => ?_) (fun cc => absurd (by decide) cc)
  refine W.widen (k := 0) (n := 0) (Nat.le_of_ble_eq_true rfl) (Nat.le_of_ble_eq_true rfl) ?_
  exact W.vret hx hb hr (fun t ht hW => ⟨⟨f24, rfl, trivial, wEn_of (hP.sub [0] rfl) (hK.sub [] rfl) (hD.sub [0] (by decide) rfl) ht hW⟩, hS.F ht⟩) hS.2.2 dJ7_fill_53178_20
def ow_c_take0 : List Cond := [.fieldLink RX0 24 "NearEnough$Changes" "taken" "[I", .fieldLink RX0 31 "NearEnough$Changes" "bits" "I", .fieldLink RX0 27 "NearEnough$Changes" "count" "I"]
def vs_c_take0 : List Cond := .code yX0_take cX0_take 3 (some .boolean) :: (ow_c_take0 ++ (([.methodLink RX0 40 yJ7_fill_53178, .static yJ7_fill_53178, .initialized yJ7_fill_53178.cls] : List Cond) ++ (vs_c_fill ++ (wsX00))))
theorem vg_c_take0 : vs_c_take0.all goodWord = true := by decide +kernel
theorem gd_c_take0_40_c_fill : GoodIn vs_c_take0 (va_wsS RX0 40 yJ7_fill_53178 vs_c_fill) := goodIn_app (goodIn_sub (fun w h => (List.mem_cons_of_mem _ (List.mem_append_right _ (List.mem_append_left _ h)))) (by decide +kernel)) (goodIn_sub (fun w h => (List.mem_cons_of_mem _ (List.mem_append_right _ (List.mem_append_right _ (List.mem_append_left _ h))))) vg_c_fill)
set_option maxHeartbeats 4000000 in
set_option maxRecDepth 100000 in
/-- take(0) -/
theorem c_take0 (l : Launch) (dC : Nat → ClassId) (dI : Nat → Nat → Nat) (ch : Nat) (a1 : Nat) (a2 : Nat) (a3 : Nat) (a4 : Nat) (a5 : Nat) (kc : ClassId) (f0 : Nat → Int32) (bt : Int32) (sz : Nat) : Met l yX0_take vs_c_take0 ({ frames := 1, cells := 0, slots := 0, locals := 23 }) (va_Pc [.ref ch, .int 0] (wSt dC dI [(ch, .inr (0, [.ref a1, .ref a2, .ref a3, .ref a4, .ref a5, .int 0, .int bt])), (a5, .inl (kc, 12, .inl f0))] [(kc, .int)] sz)) (va_Qi (fun (r : Int32) (_ : (Nat → Int32)) => r = 1) (fun (u : (Nat → Int32)) => wEn dC dI (va_A [(ch, .inr (0, [.ref a1, .ref a2, .ref a3, .ref a4, .ref a5, .int 0, .int bt])), (a5, .inl (kc, 12, .inl f0))] sz) [(ch, .inr (0, [.ref a1, .ref a2, .ref a3, .ref a4, .ref a5, .int 0, .int 0])), (a5, .inl (kc, 12, .inl u))] []) (va_A [(ch, .inr (0, [.ref a1, .ref a2, .ref a3, .ref a4, .ref a5, .int 0, .int bt])), (a5, .inl (kc, 12, .inl f0))] sz)) 0 0 (va_A [(ch, .inr (0, [.ref a1, .ref a2, .ref a3, .ref a4, .ref a5, .int 0, .int bt])), (a5, .inl (kc, 12, .inl f0))] sz) := by
  refine Met.ofW (cc := cX0_take) (maxL := 3) (ret := (some .boolean)) (by decide) rfl ?_
  intro p e s m args below meth c s₁ B hml hv
  obtain ⟨rfl, hsz, hP, hK, hD0, hE⟩ := hv
  have hx := B.exec
  have hb := B.bytes
  have hr := B.returns
  have hts := atoms_spec (ws := vs_c_take0) B.pre
  have hown : s.vm.findClass RX0 = some m.cls := findClass_of_methodNamed B.named
  have hlocks := B.notSynchronized
  subst hsz
  have hD := hD0.self (sz := s.heap.size)
  generalize hAe : va_A [(ch, .inr (0, [.ref a1, .ref a2, .ref a3, .ref a4, .ref a5, .int 0, .int bt])), (a5, .inl (kc, 12, .inl f0))] s.heap.size = A at hD ⊢
  have hA : ∀ q : Nat, s.heap.size ≤ q → A q := fun q h => by rw [← hAe]; exact Or.inr h
  have hl := lv_entry ([.ref ch, .int 0]) (n := 3) (Nat.le_of_ble_eq_true rfl)
  rw [lg_entry_eq]
  generalize (lg_sl ([.ref ch, .int 0]) ++ List.replicate (3 - (lg_sl ([.ref ch, .int 0])).length) Slot.unset).toArray = ls at hl ⊢
  have hl : lv_has ls 3 [(0, .ref ch), (1, .int 0)] := hl
  refine zH (A := A) (ws := [(ch, .inr (0, [.ref a1, .ref a2, .ref a3, .ref a4, .ref a5, .int 0, .int bt])), (a5, .inl (kc, 12, .inl f0))]) (fun H hP hS => ?_) hP
  have ho := fun w (h : w ∈ ow_c_take0) => hts w (List.mem_cons_of_mem _ (List.mem_append_left _ h))
  have hin0 : ∀ w ∈ u_ws RX0 TX0 7, w ∈ vs_c_take0 := fun w h => (List.mem_cons_of_mem _ (List.mem_append_right _ (List.mem_append_right _ (List.mem_append_right _ h))))
  refine lv_aload_n hx hb dX0_take_0 rfl (lv_at hl 0 rfl) ?_
  refine va_get (D := (dC, dI)) (ci := 0) (v := .ref a5) (C := RX0) (T := TX0) (N := 7) hx hb hts hin0 hown hK hP 0 rfl rfl 4 (by decide) (ho (.fieldLink RX0 24 "NearEnough$Changes" "taken" "[I") (List.mem_of_getElem? (i := 0) rfl)) (fun _ h9 => h9) rfl dX0_take_1 ?_
  refine lv_iconst (v := (-1)) hx hb dX0_take_4 (by decide) ?_
  have hPc := hP.sub (ws' := [(a5, .inl (kc, 12, .inl f0))]) [1] rfl
  have hDc := hD.sub (ws' := [(a5, .inl (kc, 12, .inl f0))]) [1] (by decide) rfl
  have hKc := hK.sub (tys' := [(kc, .int)]) [0] rfl
  refine zz_v (wr := [(ch, .inr (0, [.ref a1, .ref a2, .ref a3, .ref a4, .ref a5, .int 0, .int bt]))]) (va_runS (As := [.ref a5, .int (-1)]) (rest := []) ⟨hx, hb, hml, hown, hts⟩ (c_fill l dC dI a5 kc f0 H.size) (va_cwS 2 hts gd_c_take0_40_c_fill rfl rfl rfl (by decide +kernel) ⟨Nat.le_of_ble_eq_true rfl, Nat.le_of_ble_eq_true rfl⟩) (preS hPc hKc hDc hE) rfl rfl hl.1 rfl (lv_room (Nat.le_of_ble_eq_true rfl)) dX0_take_5 ⟨Nat.le_of_ble_eq_true rfl, Nat.le_of_ble_eq_true rfl⟩) hK hP hD hS hA [1] [0] rfl rfl (by decide) (by decide) (fun f1 H locs hK hP hD hS => ?_)
  have hP : va_P (dC, dI) vwCl [(ch, .inr (0, [.ref a1, .ref a2, .ref a3, .ref a4, .ref a5, .int 0, .int bt])), (a5, .inl (kc, 12, .inl f1))] H := hP
  have hD : va_D A [(ch, .inr (0, [.ref a1, .ref a2, .ref a3, .ref a4, .ref a5, .int 0, .int bt])), (a5, .inl (kc, 12, .inl f1))] := hD
  have hK : va_K (dC, dI) vwCl [(kc, .int)] s := hK
  refine W.widen (k := 0) (n := 0) (Nat.le_of_ble_eq_true rfl) (Nat.le_of_ble_eq_true rfl) ?_
  refine lv_aload_n hx hb dX0_take_8 rfl (lv_at hl 0 rfl) ?_
  refine lv_iconst (v := 0) hx hb dX0_take_9 (by decide) ?_
  refine va_put (D := (dC, dI)) (ci := 0) (v := .int 0) (ty := tyX0 6) (C := RX0) (T := TX0) (N := 7) hx hb hts hin0 tyX0 tyX0_ok nmX0 hown hK hP hD hS 0 rfl rfl 6 (by decide) (ho (.fieldLink RX0 31 "NearEnough$Changes" "bits" "I") (List.mem_of_getElem? (i := 1) rfl)) (fun _ h9 => h9) rfl (by decide +kernel) rfl rfl (Nat.le_of_ble_eq_true rfl) dX0_take_10 (fun H locs hP hD hS => ?_)
  have hP : va_P (dC, dI) vwCl [(ch, .inr (0, [.ref a1, .ref a2, .ref a3, .ref a4, .ref a5, .int 0, .int 0])), (a5, .inl (kc, 12, .inl f1))] H := hP
  have hD : va_D A [(ch, .inr (0, [.ref a1, .ref a2, .ref a3, .ref a4, .ref a5, .int 0, .int 0])), (a5, .inl (kc, 12, .inl f1))] := hD
  refine lv_iload_n hx hb dX0_take_13 rfl (lv_at hl 1 rfl) ?_
  refine lv_if_lt (tgt := 27) hx hb dX0_take_14 (by decide) (fun cc => absurd cc (by decide)) (fun _ => ?_)
  refine lv_iload_n hx hb dX0_take_17 rfl (lv_at hl 1 rfl) ?_
  refine lv_iconst (v := 1) hx hb dX0_take_18 (by decide) ?_
  refine lv_aload_n hx hb dX0_take_19 rfl (lv_at hl 0 rfl) ?_
  refine va_get (D := (dC, dI)) (ci := 0) (v := .int 0) (C := RX0) (T := TX0) (N := 7) hx hb hts hin0 hown hK hP 0 rfl rfl 5 (by decide) (ho (.fieldLink RX0 27 "NearEnough$Changes" "count" "I") (List.mem_of_getElem? (i := 2) rfl)) (fun _ h9 => h9) rfl dX0_take_20 ?_
  refine lv_ishl hx hb dX0_take_23 ?_
  refine zi (v := 1) (by decide) ?_
  refine lv_icmp_lt (tgt := 29) hx hb dX0_take_24 (by decide) (fun _ => ?_) (fun cc => absurd (by decide) cc)
  refine lv_iconst (v := 0) hx hb dX0_take_29 (by decide) ?_
  refine lv_istore_n (lv' := [(2, .int 0), (0, .ref ch), (1, .int 0)]) hx hb dX0_take_30 rfl hl (by decide) rfl (fun ls hl => ?_)
  refine lv_iload_n hx hb dX0_take_31 rfl (lv_at hl 0 rfl) ?_
  refine lv_aload_n hx hb dX0_take_32 rfl (lv_at hl 1 rfl) ?_
  refine va_get (D := (dC, dI)) (ci := 0) (v := .int 0) (C := RX0) (T := TX0) (N := 7) hx hb hts hin0 hown hK hP 0 rfl rfl 5 (by decide) (ho (.fieldLink RX0 27 "NearEnough$Changes" "count" "I") (List.mem_of_getElem? (i := 2) rfl)) (fun _ h9 => h9) rfl dX0_take_33 ?_
  refine lv_icmp_ge (tgt := 82) hx hb dX0_take_36 (by decide) (fun _ => ?_) (fun cc => absurd (by decide) cc)
  refine lv_aload_n hx hb dX0_take_82 rfl (lv_at hl 1 rfl) ?_
  refine lv_iload_n hx hb dX0_take_83 rfl (lv_at hl 2 rfl) ?_
  refine va_put (D := (dC, dI)) (ci := 0) (v := .int 0) (ty := tyX0 6) (C := RX0) (T := TX0) (N := 7) hx hb hts hin0 tyX0 tyX0_ok nmX0 hown hK hP hD hS 0 rfl rfl 6 (by decide) (ho (.fieldLink RX0 31 "NearEnough$Changes" "bits" "I") (List.mem_of_getElem? (i := 1) rfl)) (fun _ h9 => h9) rfl (by decide +kernel) rfl rfl (Nat.le_of_ble_eq_true rfl) dX0_take_84 (fun H locs hP hD hS => ?_)
  have hP : va_P (dC, dI) vwCl [(ch, .inr (0, [.ref a1, .ref a2, .ref a3, .ref a4, .ref a5, .int 0, .int 0])), (a5, .inl (kc, 12, .inl f1))] H := hP
  have hD : va_D A [(ch, .inr (0, [.ref a1, .ref a2, .ref a3, .ref a4, .ref a5, .int 0, .int 0])), (a5, .inl (kc, 12, .inl f1))] := hD
  refine lv_iconst (v := 1) hx hb dX0_take_87 (by decide) ?_
  refine W.widen (k := 0) (n := 0) (Nat.le_of_ble_eq_true rfl) (Nat.le_of_ble_eq_true rfl) ?_
  exact W.zret (v := 1) hx hb hr rfl (fun t ht hW => ⟨⟨1, f1, rfl, rfl, wEn_of (hP.sub [0, 1] rfl) (hK.sub [] rfl) (hD.sub [0, 1] (by decide) rfl) ht hW⟩, hS.F ht⟩) hS.2.2 dX0_take_88
def ow_c_take : List Cond := [.fieldLink RX0 24 "NearEnough$Changes" "taken" "[I", .fieldLink RX0 31 "NearEnough$Changes" "bits" "I", .fieldLink RX0 27 "NearEnough$Changes" "count" "I"]
def vs_c_take : List Cond := .code yX0_take cX0_take 3 (some .boolean) :: (ow_c_take ++ (([.methodLink RX0 40 yJ7_fill_53178, .static yJ7_fill_53178, .initialized yJ7_fill_53178.cls] : List Cond) ++ (vs_c_fill ++ (wsX00))))
theorem vg_c_take : vs_c_take.all goodWord = true := by decide +kernel
theorem gd_c_take_40_c_fill : GoodIn vs_c_take (va_wsS RX0 40 yJ7_fill_53178 vs_c_fill) := goodIn_app (goodIn_sub (fun w h => (List.mem_cons_of_mem _ (List.mem_append_right _ (List.mem_append_left _ h)))) (by decide +kernel)) (goodIn_sub (fun w h => (List.mem_cons_of_mem _ (List.mem_append_right _ (List.mem_append_right _ (List.mem_append_left _ h))))) vg_c_fill)
set_option maxHeartbeats 4000000 in
set_option maxRecDepth 100000 in
/-- take(x) while there are no CHANGES -/
theorem c_take (l : Launch) (dC : Nat → ClassId) (dI : Nat → Nat → Nat) (ch : Nat) (a1 : Nat) (a2 : Nat) (a3 : Nat) (a4 : Nat) (a5 : Nat) (kc : ClassId) (f0 : Nat → Int32) (x : Int32) (bt : Int32) (sz : Nat) : Met l yX0_take vs_c_take ({ frames := 1, cells := 0, slots := 0, locals := 23 }) (va_Pc [.ref ch, .int x] (wSt dC dI [(ch, .inr (0, [.ref a1, .ref a2, .ref a3, .ref a4, .ref a5, .int 0, .int bt])), (a5, .inl (kc, 12, .inl f0))] [(kc, .int)] sz)) (va_Qi (fun (r : Int32) (_ : Int32 × (Nat → Int32)) => r = tk x) (fun (u : Int32 × (Nat → Int32)) => wEn dC dI (va_A [(ch, .inr (0, [.ref a1, .ref a2, .ref a3, .ref a4, .ref a5, .int 0, .int bt])), (a5, .inl (kc, 12, .inl f0))] sz) [(ch, .inr (0, [.ref a1, .ref a2, .ref a3, .ref a4, .ref a5, .int 0, .int u.1])), (a5, .inl (kc, 12, .inl u.2))] []) (va_A [(ch, .inr (0, [.ref a1, .ref a2, .ref a3, .ref a4, .ref a5, .int 0, .int bt])), (a5, .inl (kc, 12, .inl f0))] sz)) 0 0 (va_A [(ch, .inr (0, [.ref a1, .ref a2, .ref a3, .ref a4, .ref a5, .int 0, .int bt])), (a5, .inl (kc, 12, .inl f0))] sz) := by
  refine Met.ofW (cc := cX0_take) (maxL := 3) (ret := (some .boolean)) (by decide) rfl ?_
  intro p e s m args below meth c s₁ B hml hv
  obtain ⟨rfl, hsz, hP, hK, hD0, hE⟩ := hv
  have hx := B.exec
  have hb := B.bytes
  have hr := B.returns
  have hts := atoms_spec (ws := vs_c_take) B.pre
  have hown : s.vm.findClass RX0 = some m.cls := findClass_of_methodNamed B.named
  have hlocks := B.notSynchronized
  subst hsz
  have hD := hD0.self (sz := s.heap.size)
  generalize hAe : va_A [(ch, .inr (0, [.ref a1, .ref a2, .ref a3, .ref a4, .ref a5, .int 0, .int bt])), (a5, .inl (kc, 12, .inl f0))] s.heap.size = A at hD ⊢
  have hA : ∀ q : Nat, s.heap.size ≤ q → A q := fun q h => by rw [← hAe]; exact Or.inr h
  have hl := lv_entry ([.ref ch, .int x]) (n := 3) (Nat.le_of_ble_eq_true rfl)
  rw [lg_entry_eq]
  generalize (lg_sl ([.ref ch, .int x]) ++ List.replicate (3 - (lg_sl ([.ref ch, .int x])).length) Slot.unset).toArray = ls at hl ⊢
  have hl : lv_has ls 3 [(0, .ref ch), (1, .int x)] := hl
  refine zH (A := A) (ws := [(ch, .inr (0, [.ref a1, .ref a2, .ref a3, .ref a4, .ref a5, .int 0, .int bt])), (a5, .inl (kc, 12, .inl f0))]) (fun H hP hS => ?_) hP
  have ho := fun w (h : w ∈ ow_c_take) => hts w (List.mem_cons_of_mem _ (List.mem_append_left _ h))
  have hin0 : ∀ w ∈ u_ws RX0 TX0 7, w ∈ vs_c_take := fun w h => (List.mem_cons_of_mem _ (List.mem_append_right _ (List.mem_append_right _ (List.mem_append_right _ h))))
  refine lv_aload_n hx hb dX0_take_0 rfl (lv_at hl 0 rfl) ?_
  refine va_get (D := (dC, dI)) (ci := 0) (v := .ref a5) (C := RX0) (T := TX0) (N := 7) hx hb hts hin0 hown hK hP 0 rfl rfl 4 (by decide) (ho (.fieldLink RX0 24 "NearEnough$Changes" "taken" "[I") (List.mem_of_getElem? (i := 0) rfl)) (fun _ h9 => h9) rfl dX0_take_1 ?_
  refine lv_iconst (v := (-1)) hx hb dX0_take_4 (by decide) ?_
  have hPc := hP.sub (ws' := [(a5, .inl (kc, 12, .inl f0))]) [1] rfl
  have hDc := hD.sub (ws' := [(a5, .inl (kc, 12, .inl f0))]) [1] (by decide) rfl
  have hKc := hK.sub (tys' := [(kc, .int)]) [0] rfl
  refine zz_v (wr := [(ch, .inr (0, [.ref a1, .ref a2, .ref a3, .ref a4, .ref a5, .int 0, .int bt]))]) (va_runS (As := [.ref a5, .int (-1)]) (rest := []) ⟨hx, hb, hml, hown, hts⟩ (c_fill l dC dI a5 kc f0 H.size) (va_cwS 2 hts gd_c_take_40_c_fill rfl rfl rfl (by decide +kernel) ⟨Nat.le_of_ble_eq_true rfl, Nat.le_of_ble_eq_true rfl⟩) (preS hPc hKc hDc hE) rfl rfl hl.1 rfl (lv_room (Nat.le_of_ble_eq_true rfl)) dX0_take_5 ⟨Nat.le_of_ble_eq_true rfl, Nat.le_of_ble_eq_true rfl⟩) hK hP hD hS hA [1] [0] rfl rfl (by decide) (by decide) (fun f1 H locs hK hP hD hS => ?_)
  have hP : va_P (dC, dI) vwCl [(ch, .inr (0, [.ref a1, .ref a2, .ref a3, .ref a4, .ref a5, .int 0, .int bt])), (a5, .inl (kc, 12, .inl f1))] H := hP
  have hD : va_D A [(ch, .inr (0, [.ref a1, .ref a2, .ref a3, .ref a4, .ref a5, .int 0, .int bt])), (a5, .inl (kc, 12, .inl f1))] := hD
  have hK : va_K (dC, dI) vwCl [(kc, .int)] s := hK
  refine W.widen (k := 0) (n := 0) (Nat.le_of_ble_eq_true rfl) (Nat.le_of_ble_eq_true rfl) ?_
  refine lv_aload_n hx hb dX0_take_8 rfl (lv_at hl 0 rfl) ?_
  refine lv_iconst (v := 0) hx hb dX0_take_9 (by decide) ?_
  refine va_put (D := (dC, dI)) (ci := 0) (v := .int 0) (ty := tyX0 6) (C := RX0) (T := TX0) (N := 7) hx hb hts hin0 tyX0 tyX0_ok nmX0 hown hK hP hD hS 0 rfl rfl 6 (by decide) (ho (.fieldLink RX0 31 "NearEnough$Changes" "bits" "I") (List.mem_of_getElem? (i := 1) rfl)) (fun _ h9 => h9) rfl (by decide +kernel) rfl rfl (Nat.le_of_ble_eq_true rfl) dX0_take_10 (fun H locs hP hD hS => ?_)
  have hP : va_P (dC, dI) vwCl [(ch, .inr (0, [.ref a1, .ref a2, .ref a3, .ref a4, .ref a5, .int 0, .int 0])), (a5, .inl (kc, 12, .inl f1))] H := hP
  have hD : va_D A [(ch, .inr (0, [.ref a1, .ref a2, .ref a3, .ref a4, .ref a5, .int 0, .int 0])), (a5, .inl (kc, 12, .inl f1))] := hD
  refine lv_iload_n hx hb dX0_take_13 rfl (lv_at hl 1 rfl) ?_
  refine lv_if_lt (tgt := 27) hx hb dX0_take_14 (by decide) (fun c_14 => ?_) (fun c_14 => ?_)
  · refine lv_iconst (v := 0) hx hb dX0_take_27 (by decide) ?_
    refine W.widen (k := 0) (n := 0) (Nat.le_of_ble_eq_true rfl) (Nat.le_of_ble_eq_true rfl) ?_
    exact W.zret (v := 0) hx hb hr rfl (fun t ht hW => ⟨⟨0, (0, f1), rfl, (by first | exact (tk_neg c_14).symm | exact (tk_out c_14 c_24).symm | exact (tk_pos c_14 c_24).symm), wEn_of (hP.sub [0, 1] rfl) (hK.sub [] rfl) (hD.sub [0, 1] (by decide) rfl) ht hW⟩, hS.F ht⟩) hS.2.2 dX0_take_28
  · refine lv_iload_n hx hb dX0_take_17 rfl (lv_at hl 1 rfl) ?_
    refine lv_iconst (v := 1) hx hb dX0_take_18 (by decide) ?_
    refine lv_aload_n hx hb dX0_take_19 rfl (lv_at hl 0 rfl) ?_
    refine va_get (D := (dC, dI)) (ci := 0) (v := .int 0) (C := RX0) (T := TX0) (N := 7) hx hb hts hin0 hown hK hP 0 rfl rfl 5 (by decide) (ho (.fieldLink RX0 27 "NearEnough$Changes" "count" "I") (List.mem_of_getElem? (i := 2) rfl)) (fun _ h9 => h9) rfl dX0_take_20 ?_
    refine lv_ishl hx hb dX0_take_23 ?_
    refine zi (v := 1) (by decide) ?_
    refine lv_icmp_lt (tgt := 29) hx hb dX0_take_24 (by decide) (fun c_24 => ?_) (fun c_24 => ?_)
    · refine lv_iconst (v := 0) hx hb dX0_take_29 (by decide) ?_
      refine lv_istore_n (lv' := [(2, .int 0), (0, .ref ch), (1, .int x)]) hx hb dX0_take_30 rfl hl (by decide) rfl (fun ls hl => ?_)
      refine lv_iload_n hx hb dX0_take_31 rfl (lv_at hl 0 rfl) ?_
      refine lv_aload_n hx hb dX0_take_32 rfl (lv_at hl 1 rfl) ?_
      refine va_get (D := (dC, dI)) (ci := 0) (v := .int 0) (C := RX0) (T := TX0) (N := 7) hx hb hts hin0 hown hK hP 0 rfl rfl 5 (by decide) (ho (.fieldLink RX0 27 "NearEnough$Changes" "count" "I") (List.mem_of_getElem? (i := 2) rfl)) (fun _ h9 => h9) rfl dX0_take_33 ?_
      refine lv_icmp_ge (tgt := 82) hx hb dX0_take_36 (by decide) (fun _ => ?_) (fun cc => absurd (by decide) cc)
      refine lv_aload_n hx hb dX0_take_82 rfl (lv_at hl 1 rfl) ?_
      refine lv_iload_n hx hb dX0_take_83 rfl (lv_at hl 2 rfl) ?_
      refine va_put (D := (dC, dI)) (ci := 0) (v := .int x) (ty := tyX0 6) (C := RX0) (T := TX0) (N := 7) hx hb hts hin0 tyX0 tyX0_ok nmX0 hown hK hP hD hS 0 rfl rfl 6 (by decide) (ho (.fieldLink RX0 31 "NearEnough$Changes" "bits" "I") (List.mem_of_getElem? (i := 1) rfl)) (fun _ h9 => h9) rfl (by decide +kernel) rfl rfl (Nat.le_of_ble_eq_true rfl) dX0_take_84 (fun H locs hP hD hS => ?_)
      have hP : va_P (dC, dI) vwCl [(ch, .inr (0, [.ref a1, .ref a2, .ref a3, .ref a4, .ref a5, .int 0, .int x])), (a5, .inl (kc, 12, .inl f1))] H := hP
      have hD : va_D A [(ch, .inr (0, [.ref a1, .ref a2, .ref a3, .ref a4, .ref a5, .int 0, .int x])), (a5, .inl (kc, 12, .inl f1))] := hD
      refine lv_iconst (v := 1) hx hb dX0_take_87 (by decide) ?_
      refine W.widen (k := 0) (n := 0) (Nat.le_of_ble_eq_true rfl) (Nat.le_of_ble_eq_true rfl) ?_
      exact W.zret (v := 1) hx hb hr rfl (fun t ht hW => ⟨⟨1, (x, f1), rfl, (by first | exact (tk_neg c_14).symm | exact (tk_out c_14 c_24).symm | exact (tk_pos c_14 c_24).symm), wEn_of (hP.sub [0, 1] rfl) (hK.sub [] rfl) (hD.sub [0, 1] (by decide) rfl) ht hW⟩, hS.F ht⟩) hS.2.2 dX0_take_88
    · refine lv_iconst (v := 0) hx hb dX0_take_27 (by decide) ?_
      refine W.widen (k := 0) (n := 0) (Nat.le_of_ble_eq_true rfl) (Nat.le_of_ble_eq_true rfl) ?_
      exact W.zret (v := 0) hx hb hr rfl (fun t ht hW => ⟨⟨0, (0, f1), rfl, (by first | exact (tk_neg c_14).symm | exact (tk_out c_14 c_24).symm | exact (tk_pos c_14 c_24).symm), wEn_of (hP.sub [0, 1] rfl) (hK.sub [] rfl) (hD.sub [0, 1] (by decide) rfl) ht hW⟩, hS.F ht⟩) hS.2.2 dX0_take_28
def ow_c_clear : List Cond := [.fieldLink RX0 27 "NearEnough$Changes" "count" "I"]
def vs_c_clear : List Cond := .code yX0_clear cX0_clear 1 none :: (ow_c_clear ++ (([.methodLink RX0 34 yX0_take, .instanceMethod yX0_take, .selects RX0 yX0_take yX0_take, .initialized RX0] : List Cond) ++ (vs_c_take0 ++ (wsX00))))
theorem vg_c_clear : vs_c_clear.all goodWord = true := by decide +kernel
theorem gd_c_clear_34_c_take0 : GoodIn vs_c_clear (wsV RX0 34 RX0 yX0_take vs_c_take0) := goodIn_app (goodIn_sub (fun w h => (List.mem_cons_of_mem _ (List.mem_append_right _ (List.mem_append_left _ h)))) (by decide +kernel)) (goodIn_sub (fun w h => (List.mem_cons_of_mem _ (List.mem_append_right _ (List.mem_append_right _ (List.mem_append_left _ h))))) vg_c_take0)
set_option maxHeartbeats 4000000 in
set_option maxRecDepth 100000 in
theorem c_clear (l : Launch) (dC : Nat → ClassId) (dI : Nat → Nat → Nat) (ch : Nat) (a1 : Nat) (a2 : Nat) (a3 : Nat) (a4 : Nat) (a5 : Nat) (kc : ClassId) (f0 : Nat → Int32) (bt : Int32) (sz : Nat) : Met l yX0_clear vs_c_clear ({ frames := 2, cells := 0, slots := 0, locals := 45 }) (va_Pc [.ref ch] (wSt dC dI [(ch, .inr (0, [.ref a1, .ref a2, .ref a3, .ref a4, .ref a5, .int 0, .int bt])), (a5, .inl (kc, 12, .inl f0))] [(kc, .int)] sz)) (va_Qv (fun (_ : (Nat → Int32)) => True) (fun (u : (Nat → Int32)) => wEn dC dI (va_A [(ch, .inr (0, [.ref a1, .ref a2, .ref a3, .ref a4, .ref a5, .int 0, .int bt])), (a5, .inl (kc, 12, .inl f0))] sz) [(ch, .inr (0, [.ref a1, .ref a2, .ref a3, .ref a4, .ref a5, .int 0, .int 0])), (a5, .inl (kc, 12, .inl u))] []) (va_A [(ch, .inr (0, [.ref a1, .ref a2, .ref a3, .ref a4, .ref a5, .int 0, .int bt])), (a5, .inl (kc, 12, .inl f0))] sz)) 0 0 (va_A [(ch, .inr (0, [.ref a1, .ref a2, .ref a3, .ref a4, .ref a5, .int 0, .int bt])), (a5, .inl (kc, 12, .inl f0))] sz) := by
  refine Met.ofW (cc := cX0_clear) (maxL := 1) (ret := none) (by decide) rfl ?_
  intro p e s m args below meth c s₁ B hml hv
  obtain ⟨rfl, hsz, hP, hK, hD0, hE⟩ := hv
  have hx := B.exec
  have hb := B.bytes
  have hr := B.returns
  have hts := atoms_spec (ws := vs_c_clear) B.pre
  have hown : s.vm.findClass RX0 = some m.cls := findClass_of_methodNamed B.named
  have hlocks := B.notSynchronized
  subst hsz
  have hD := hD0.self (sz := s.heap.size)
  generalize hAe : va_A [(ch, .inr (0, [.ref a1, .ref a2, .ref a3, .ref a4, .ref a5, .int 0, .int bt])), (a5, .inl (kc, 12, .inl f0))] s.heap.size = A at hD ⊢
  have hA : ∀ q : Nat, s.heap.size ≤ q → A q := fun q h => by rw [← hAe]; exact Or.inr h
  have hl := lv_entry ([.ref ch]) (n := 1) (Nat.le_of_ble_eq_true rfl)
  rw [lg_entry_eq]
  generalize (lg_sl ([.ref ch]) ++ List.replicate (1 - (lg_sl ([.ref ch])).length) Slot.unset).toArray = ls at hl ⊢
  have hl : lv_has ls 1 [(0, .ref ch)] := hl
  refine zH (A := A) (ws := [(ch, .inr (0, [.ref a1, .ref a2, .ref a3, .ref a4, .ref a5, .int 0, .int bt])), (a5, .inl (kc, 12, .inl f0))]) (fun H hP hS => ?_) hP
  have ho := fun w (h : w ∈ ow_c_clear) => hts w (List.mem_cons_of_mem _ (List.mem_append_left _ h))
  have hin0 : ∀ w ∈ u_ws RX0 TX0 7, w ∈ vs_c_clear := fun w h => (List.mem_cons_of_mem _ (List.mem_append_right _ (List.mem_append_right _ (List.mem_append_right _ h))))
  refine lv_aload_n hx hb dX0_clear_0 rfl (lv_at hl 0 rfl) ?_
  refine lv_iconst (v := 0) hx hb dX0_clear_1 (by decide) ?_
  refine va_put (D := (dC, dI)) (ci := 0) (v := .int 0) (ty := tyX0 5) (C := RX0) (T := TX0) (N := 7) hx hb hts hin0 tyX0 tyX0_ok nmX0 hown hK hP hD hS 0 rfl rfl 5 (by decide) (ho (.fieldLink RX0 27 "NearEnough$Changes" "count" "I") (List.mem_of_getElem? (i := 0) rfl)) (fun _ h9 => h9) rfl (by decide +kernel) rfl rfl (Nat.le_of_ble_eq_true rfl) dX0_clear_2 (fun H locs hP hD hS => ?_)
  have hP : va_P (dC, dI) vwCl [(ch, .inr (0, [.ref a1, .ref a2, .ref a3, .ref a4, .ref a5, .int 0, .int bt])), (a5, .inl (kc, 12, .inl f0))] H := hP
  have hD : va_D A [(ch, .inr (0, [.ref a1, .ref a2, .ref a3, .ref a4, .ref a5, .int 0, .int bt])), (a5, .inl (kc, 12, .inl f0))] := hD
  refine lv_aload_n hx hb dX0_clear_5 rfl (lv_at hl 0 rfl) ?_
  refine lv_iconst (v := 0) hx hb dX0_clear_6 (by decide) ?_
  have hPc := hP.sub (ws' := [(ch, .inr (0, [.ref a1, .ref a2, .ref a3, .ref a4, .ref a5, .int 0, .int bt])), (a5, .inl (kc, 12, .inl f0))]) [0, 1] rfl
  have hDc := hD.sub (ws' := [(ch, .inr (0, [.ref a1, .ref a2, .ref a3, .ref a4, .ref a5, .int 0, .int bt])), (a5, .inl (kc, 12, .inl f0))]) [0, 1] (by decide) rfl
  have hKc := hK.sub (tys' := [(kc, .int)]) [0] rfl
  refine zz_i (wr := []) (va_runV (As := [.int 0]) (rest := []) ⟨hx, hb, hml, hown, hts⟩ (c_take0 l dC dI ch a1 a2 a3 a4 a5 kc f0 bt H.size) (cwV 1 hts gd_c_clear_34_c_take0 rfl rfl rfl (by decide +kernel) ⟨Nat.le_of_ble_eq_true rfl, Nat.le_of_ble_eq_true rfl⟩) (preV hPc hKc hDc hE (ci := 0) (q0 := 0) rfl rfl) rfl rfl hl.1 rfl (lv_room (Nat.le_of_ble_eq_true rfl)) dX0_clear_7 ⟨Nat.le_of_ble_eq_true rfl, Nat.le_of_ble_eq_true rfl⟩) hK hP hD hS hA [0, 1] [] rfl rfl (by decide) (by decide) (fun f1 H locs hK hP hD hS => ?_)
  have hP : va_P (dC, dI) vwCl [(ch, .inr (0, [.ref a1, .ref a2, .ref a3, .ref a4, .ref a5, .int 0, .int 0])), (a5, .inl (kc, 12, .inl f1))] H := hP
  have hD : va_D A [(ch, .inr (0, [.ref a1, .ref a2, .ref a3, .ref a4, .ref a5, .int 0, .int 0])), (a5, .inl (kc, 12, .inl f1))] := hD
  have hK : va_K (dC, dI) vwCl [(kc, .int)] s := hK
  refine W.widen (k := 0) (n := 0) (Nat.le_of_ble_eq_true rfl) (Nat.le_of_ble_eq_true rfl) ?_
  refine lv_pop hx hb dX0_clear_10 rfl ?_
  refine W.widen (k := 0) (n := 0) (Nat.le_of_ble_eq_true rfl) (Nat.le_of_ble_eq_true rfl) ?_
  exact W.vret hx hb hr (fun t ht hW => ⟨⟨f1, rfl, trivial, wEn_of (hP.sub [0, 1] rfl) (hK.sub [] rfl) (hD.sub [0, 1] (by decide) rfl) ht hW⟩, hS.F ht⟩) hS.2.2 dX0_clear_11
def ow_c_savedBy : List Cond := [.fieldLink RX0 27 "NearEnough$Changes" "count" "I"]
def vs_c_savedBy : List Cond := .code yX0_savedBy cX0_savedBy 4 (some .int) :: (ow_c_savedBy ++ (wsX00))
theorem vg_c_savedBy : vs_c_savedBy.all goodWord = true := by decide +kernel
set_option maxHeartbeats 4000000 in
set_option maxRecDepth 100000 in
theorem c_savedBy (l : Launch) (dC : Nat → ClassId) (dI : Nat → Nat → Nat) (ch : Nat) (a1 : Nat) (a2 : Nat) (a3 : Nat) (a4 : Nat) (a5 : Nat) (bt : Int32) (x : Int32) (sz : Nat) : Met l yX0_savedBy vs_c_savedBy ({ frames := 0, cells := 0, slots := 0, locals := 0 }) (va_Pc [.ref ch, .int x] (wSt dC dI [(ch, .inr (0, [.ref a1, .ref a2, .ref a3, .ref a4, .ref a5, .int 0, .int bt]))] [] sz)) (va_Qi (fun (r : Int32) (_ : Unit) => r = 0) (fun (u : Unit) => wEn dC dI (va_A [(ch, .inr (0, [.ref a1, .ref a2, .ref a3, .ref a4, .ref a5, .int 0, .int bt]))] sz) [(ch, .inr (0, [.ref a1, .ref a2, .ref a3, .ref a4, .ref a5, .int 0, .int bt]))] []) (va_A [(ch, .inr (0, [.ref a1, .ref a2, .ref a3, .ref a4, .ref a5, .int 0, .int bt]))] sz)) 0 0 (va_A [(ch, .inr (0, [.ref a1, .ref a2, .ref a3, .ref a4, .ref a5, .int 0, .int bt]))] sz) := by
  refine Met.ofW (cc := cX0_savedBy) (maxL := 4) (ret := (some .int)) (by decide) rfl ?_
  intro p e s m args below meth c s₁ B hml hv
  obtain ⟨rfl, hsz, hP, hK, hD0, hE⟩ := hv
  have hx := B.exec
  have hb := B.bytes
  have hr := B.returns
  have hts := atoms_spec (ws := vs_c_savedBy) B.pre
  have hown : s.vm.findClass RX0 = some m.cls := findClass_of_methodNamed B.named
  have hlocks := B.notSynchronized
  subst hsz
  have hD := hD0.self (sz := s.heap.size)
  generalize hAe : va_A [(ch, .inr (0, [.ref a1, .ref a2, .ref a3, .ref a4, .ref a5, .int 0, .int bt]))] s.heap.size = A at hD ⊢
  have hA : ∀ q : Nat, s.heap.size ≤ q → A q := fun q h => by rw [← hAe]; exact Or.inr h
  have hl := lv_entry ([.ref ch, .int x]) (n := 4) (Nat.le_of_ble_eq_true rfl)
  rw [lg_entry_eq]
  generalize (lg_sl ([.ref ch, .int x]) ++ List.replicate (4 - (lg_sl ([.ref ch, .int x])).length) Slot.unset).toArray = ls at hl ⊢
  have hl : lv_has ls 4 [(0, .ref ch), (1, .int x)] := hl
  refine zH (A := A) (ws := [(ch, .inr (0, [.ref a1, .ref a2, .ref a3, .ref a4, .ref a5, .int 0, .int bt]))]) (fun H hP hS => ?_) hP
  have ho := fun w (h : w ∈ ow_c_savedBy) => hts w (List.mem_cons_of_mem _ (List.mem_append_left _ h))
  have hin0 : ∀ w ∈ u_ws RX0 TX0 7, w ∈ vs_c_savedBy := fun w h => (List.mem_cons_of_mem _ (List.mem_append_right _ h))
  refine lv_iconst (v := 0) hx hb dX0_savedBy_0 (by decide) ?_
  refine lv_istore_n (lv' := [(2, .int 0), (0, .ref ch), (1, .int x)]) hx hb dX0_savedBy_1 rfl hl (by decide) rfl (fun ls hl => ?_)
  refine lv_iconst (v := 0) hx hb dX0_savedBy_2 (by decide) ?_
  refine lv_istore_n (lv' := [(3, .int 0), (2, .int 0), (0, .ref ch), (1, .int x)]) hx hb dX0_savedBy_3 rfl hl (by decide) rfl (fun ls hl => ?_)
  refine lv_iload_n hx hb dX0_savedBy_4 rfl (lv_at hl 0 rfl) ?_
  refine lv_aload_n hx hb dX0_savedBy_5 rfl (lv_at hl 2 rfl) ?_
  refine va_get (D := (dC, dI)) (ci := 0) (v := .int 0) (C := RX0) (T := TX0) (N := 7) hx hb hts hin0 hown hK hP 0 rfl rfl 5 (by decide) (ho (.fieldLink RX0 27 "NearEnough$Changes" "count" "I") (List.mem_of_getElem? (i := 0) rfl)) (fun _ h9 => h9) rfl dX0_savedBy_6 ?_
  refine lv_icmp_ge (tgt := 35) hx hb dX0_savedBy_9 (by decide) (fun _ => ?_) (fun cc => absurd (by decide) cc)
  refine lv_iload_n hx hb dX0_savedBy_35 rfl (lv_at hl 1 rfl) ?_
  refine W.widen (k := 0) (n := 0) (Nat.le_of_ble_eq_true rfl) (Nat.le_of_ble_eq_true rfl) ?_
  exact W.iret (v := 0) hx hb hr (fun t ht hW => ⟨⟨0, (), rfl, rfl, wEn_of (hP.sub [0] rfl) (hK.sub [] rfl) (hD.sub [0] (by decide) rfl) ht hW⟩, hS.F ht⟩) hS.2.2 dX0_savedBy_36
def ow_c_advance : List Cond := []
def vs_c_advance : List Cond := .code yX0_advance cX0_advance 5 (some .int) :: (ow_c_advance)
theorem vg_c_advance : vs_c_advance.all goodWord = true := by decide +kernel
set_option maxHeartbeats 4000000 in
set_option maxRecDepth 100000 in
theorem c_advance (l : Launch) (dC : Nat → ClassId) (dI : Nat → Nat → Nat) (ch : Nat) (a1 : Nat) (a2 : Nat) (a3 : Nat) (a4 : Nat) (a5 : Nat) (bt : Int32) (sz : Nat) : Met l yX0_advance vs_c_advance ({ frames := 0, cells := 0, slots := 0, locals := 0 }) (va_Pc [.ref ch, .int (-1)] (wSt dC dI [(ch, .inr (0, [.ref a1, .ref a2, .ref a3, .ref a4, .ref a5, .int 0, .int bt]))] [] sz)) (va_Qi (fun (r : Int32) (_ : Unit) => r = (-1)) (fun (u : Unit) => wEn dC dI (va_A [(ch, .inr (0, [.ref a1, .ref a2, .ref a3, .ref a4, .ref a5, .int 0, .int bt]))] sz) [(ch, .inr (0, [.ref a1, .ref a2, .ref a3, .ref a4, .ref a5, .int 0, .int bt]))] []) (va_A [(ch, .inr (0, [.ref a1, .ref a2, .ref a3, .ref a4, .ref a5, .int 0, .int bt]))] sz)) 0 0 (va_A [(ch, .inr (0, [.ref a1, .ref a2, .ref a3, .ref a4, .ref a5, .int 0, .int bt]))] sz) := by
  refine Met.ofW (cc := cX0_advance) (maxL := 5) (ret := (some .int)) (by decide) rfl ?_
  intro p e s m args below meth c s₁ B hml hv
  obtain ⟨rfl, hsz, hP, hK, hD0, hE⟩ := hv
  have hx := B.exec
  have hb := B.bytes
  have hr := B.returns
  have hts := atoms_spec (ws := vs_c_advance) B.pre
  have hown : s.vm.findClass RX0 = some m.cls := findClass_of_methodNamed B.named
  have hlocks := B.notSynchronized
  subst hsz
  have hD := hD0.self (sz := s.heap.size)
  generalize hAe : va_A [(ch, .inr (0, [.ref a1, .ref a2, .ref a3, .ref a4, .ref a5, .int 0, .int bt]))] s.heap.size = A at hD ⊢
  have hA : ∀ q : Nat, s.heap.size ≤ q → A q := fun q h => by rw [← hAe]; exact Or.inr h
  have hl := lv_entry ([.ref ch, .int (-1)]) (n := 5) (Nat.le_of_ble_eq_true rfl)
  rw [lg_entry_eq]
  generalize (lg_sl ([.ref ch, .int (-1)]) ++ List.replicate (5 - (lg_sl ([.ref ch, .int (-1)])).length) Slot.unset).toArray = ls at hl ⊢
  have hl : lv_has ls 5 [(0, .ref ch), (1, .int (-1))] := hl
  refine zH (A := A) (ws := [(ch, .inr (0, [.ref a1, .ref a2, .ref a3, .ref a4, .ref a5, .int 0, .int bt]))]) (fun H hP hS => ?_) hP
  have ho := fun w (h : w ∈ ow_c_advance) => hts w (List.mem_cons_of_mem _ h)
  refine lv_iload_n hx hb dX0_advance_0 rfl (lv_at hl 1 rfl) ?_
  refine lv_istore_n (lv' := [(2, .int (-1)), (0, .ref ch), (1, .int (-1))]) hx hb dX0_advance_1 rfl hl (by decide) rfl (fun ls hl => ?_)
  refine lv_iload_n hx hb dX0_advance_2 rfl (lv_at hl 0 rfl) ?_
  refine lv_if_lt (tgt := 75) hx hb dX0_advance_3 (by decide) (fun _ => ?_) (fun cc => absurd (by decide) cc)
  refine lv_iconst (v := (-1)) hx hb dX0_advance_75 (by decide) ?_
  refine W.widen (k := 0) (n := 0) (Nat.le_of_ble_eq_true rfl) (Nat.le_of_ble_eq_true rfl) ?_
  exact W.iret (v := (-1)) hx hb hr (fun t ht hW => ⟨⟨(-1), (), rfl, rfl, wEn_of (hP.sub [0] rfl) (hK.sub [] rfl) (hD.sub [0] (by decide) rfl) ht hW⟩, hS.F ht⟩) hS.2.2 dX0_advance_76
def ow_c_hasStep : List Cond := [.fieldLink RX3 37 "NearEnough$Program" "stepCount" "I"]
def vs_c_hasStep : List Cond := .code yX3_hasStep cX3_hasStep 2 (some .boolean) :: (ow_c_hasStep ++ (wsX30))
theorem vg_c_hasStep : vs_c_hasStep.all goodWord = true := by decide +kernel
set_option maxHeartbeats 4000000 in
set_option maxRecDepth 100000 in
theorem c_hasStep (l : Launch) (dC : Nat → ClassId) (dI : Nat → Nat → Nat) (td : Nat) (r1 : Nat) (r2 : Nat) (r3 : Nat) (r4 : Nat) (r5 : Nat) (x : Int32) (sz : Nat) : Met l yX3_hasStep vs_c_hasStep ({ frames := 0, cells := 0, slots := 0, locals := 0 }) (va_Pc [.ref td, .int x] (wSt dC dI [(td, .inr (3, [.ref r1, .ref r2, .ref r3, .ref r4, .ref r5, .int 0, .int 0, .int 0]))] [] sz)) (va_Qi (fun (r : Int32) (_ : Unit) => r = 0) (fun (u : Unit) => wEn dC dI (va_A [(td, .inr (3, [.ref r1, .ref r2, .ref r3, .ref r4, .ref r5, .int 0, .int 0, .int 0]))] sz) [(td, .inr (3, [.ref r1, .ref r2, .ref r3, .ref r4, .ref r5, .int 0, .int 0, .int 0]))] []) (va_A [(td, .inr (3, [.ref r1, .ref r2, .ref r3, .ref r4, .ref r5, .int 0, .int 0, .int 0]))] sz)) 0 0 (va_A [(td, .inr (3, [.ref r1, .ref r2, .ref r3, .ref r4, .ref r5, .int 0, .int 0, .int 0]))] sz) := by
  refine Met.ofW (cc := cX3_hasStep) (maxL := 2) (ret := (some .boolean)) (by decide) rfl ?_
  intro p e s m args below meth c s₁ B hml hv
  obtain ⟨rfl, hsz, hP, hK, hD0, hE⟩ := hv
  have hx := B.exec
  have hb := B.bytes
  have hr := B.returns
  have hts := atoms_spec (ws := vs_c_hasStep) B.pre
  have hown : s.vm.findClass RX3 = some m.cls := findClass_of_methodNamed B.named
  have hlocks := B.notSynchronized
  subst hsz
  have hD := hD0.self (sz := s.heap.size)
  generalize hAe : va_A [(td, .inr (3, [.ref r1, .ref r2, .ref r3, .ref r4, .ref r5, .int 0, .int 0, .int 0]))] s.heap.size = A at hD ⊢
  have hA : ∀ q : Nat, s.heap.size ≤ q → A q := fun q h => by rw [← hAe]; exact Or.inr h
  have hl := lv_entry ([.ref td, .int x]) (n := 2) (Nat.le_of_ble_eq_true rfl)
  rw [lg_entry_eq]
  generalize (lg_sl ([.ref td, .int x]) ++ List.replicate (2 - (lg_sl ([.ref td, .int x])).length) Slot.unset).toArray = ls at hl ⊢
  have hl : lv_has ls 2 [(0, .ref td), (1, .int x)] := hl
  refine zH (A := A) (ws := [(td, .inr (3, [.ref r1, .ref r2, .ref r3, .ref r4, .ref r5, .int 0, .int 0, .int 0]))]) (fun H hP hS => ?_) hP
  have ho := fun w (h : w ∈ ow_c_hasStep) => hts w (List.mem_cons_of_mem _ (List.mem_append_left _ h))
  have hin3 : ∀ w ∈ u_ws RX3 TX3 8, w ∈ vs_c_hasStep := fun w h => (List.mem_cons_of_mem _ (List.mem_append_right _ h))
  refine lv_iload_n hx hb dX3_hasStep_0 rfl (lv_at hl 1 rfl) ?_
  refine lv_if_lt (tgt := 16) hx hb dX3_hasStep_1 (by decide) (fun c_1 => ?_) (fun c_1 => ?_)
  · refine lv_iconst (v := 0) hx hb dX3_hasStep_16 (by decide) ?_
    refine W.widen (k := 0) (n := 0) (Nat.le_of_ble_eq_true rfl) (Nat.le_of_ble_eq_true rfl) ?_
    exact W.zret (v := 0) hx hb hr rfl (fun t ht hW => ⟨⟨0, (), rfl, rfl, wEn_of (hP.sub [0] rfl) (hK.sub [] rfl) (hD.sub [0] (by decide) rfl) ht hW⟩, hS.F ht⟩) hS.2.2 dX3_hasStep_17
  · refine lv_iload_n hx hb dX3_hasStep_4 rfl (lv_at hl 1 rfl) ?_
    refine lv_aload_n hx hb dX3_hasStep_5 rfl (lv_at hl 0 rfl) ?_
    refine va_get (D := (dC, dI)) (ci := 3) (v := .int 0) (C := RX3) (T := TX3) (N := 8) hx hb hts hin3 hown hK hP 0 rfl rfl 6 (by decide) (ho (.fieldLink RX3 37 "NearEnough$Program" "stepCount" "I") (List.mem_of_getElem? (i := 0) rfl)) (fun _ h9 => h9) rfl dX3_hasStep_6 ?_
    refine lv_icmp_ge (tgt := 16) hx hb dX3_hasStep_9 (by decide) (fun c_9 => ?_) (fun c_9 => absurd (Int32.not_le.mp c_9) c_1)
    refine lv_iconst (v := 0) hx hb dX3_hasStep_16 (by decide) ?_
    refine W.widen (k := 0) (n := 0) (Nat.le_of_ble_eq_true rfl) (Nat.le_of_ble_eq_true rfl) ?_
    exact W.zret (v := 0) hx hb hr rfl (fun t ht hW => ⟨⟨0, (), rfl, rfl, wEn_of (hP.sub [0] rfl) (hK.sub [] rfl) (hD.sub [0] (by decide) rfl) ht hW⟩, hS.F ht⟩) hS.2.2 dX3_hasStep_17
def ow_c_hasEnd : List Cond := [.fieldLink RX3 40 "NearEnough$Program" "endCount" "I"]
def vs_c_hasEnd : List Cond := .code yX3_hasEnd cX3_hasEnd 2 (some .boolean) :: (ow_c_hasEnd ++ (wsX30))
theorem vg_c_hasEnd : vs_c_hasEnd.all goodWord = true := by decide +kernel
set_option maxHeartbeats 4000000 in
set_option maxRecDepth 100000 in
theorem c_hasEnd (l : Launch) (dC : Nat → ClassId) (dI : Nat → Nat → Nat) (td : Nat) (r1 : Nat) (r2 : Nat) (r3 : Nat) (r4 : Nat) (r5 : Nat) (x : Int32) (sz : Nat) : Met l yX3_hasEnd vs_c_hasEnd ({ frames := 0, cells := 0, slots := 0, locals := 0 }) (va_Pc [.ref td, .int x] (wSt dC dI [(td, .inr (3, [.ref r1, .ref r2, .ref r3, .ref r4, .ref r5, .int 0, .int 0, .int 0]))] [] sz)) (va_Qi (fun (r : Int32) (_ : Unit) => r = 0) (fun (u : Unit) => wEn dC dI (va_A [(td, .inr (3, [.ref r1, .ref r2, .ref r3, .ref r4, .ref r5, .int 0, .int 0, .int 0]))] sz) [(td, .inr (3, [.ref r1, .ref r2, .ref r3, .ref r4, .ref r5, .int 0, .int 0, .int 0]))] []) (va_A [(td, .inr (3, [.ref r1, .ref r2, .ref r3, .ref r4, .ref r5, .int 0, .int 0, .int 0]))] sz)) 0 0 (va_A [(td, .inr (3, [.ref r1, .ref r2, .ref r3, .ref r4, .ref r5, .int 0, .int 0, .int 0]))] sz) := by
  refine Met.ofW (cc := cX3_hasEnd) (maxL := 2) (ret := (some .boolean)) (by decide) rfl ?_
  intro p e s m args below meth c s₁ B hml hv
  obtain ⟨rfl, hsz, hP, hK, hD0, hE⟩ := hv
  have hx := B.exec
  have hb := B.bytes
  have hr := B.returns
  have hts := atoms_spec (ws := vs_c_hasEnd) B.pre
  have hown : s.vm.findClass RX3 = some m.cls := findClass_of_methodNamed B.named
  have hlocks := B.notSynchronized
  subst hsz
  have hD := hD0.self (sz := s.heap.size)
  generalize hAe : va_A [(td, .inr (3, [.ref r1, .ref r2, .ref r3, .ref r4, .ref r5, .int 0, .int 0, .int 0]))] s.heap.size = A at hD ⊢
  have hA : ∀ q : Nat, s.heap.size ≤ q → A q := fun q h => by rw [← hAe]; exact Or.inr h
  have hl := lv_entry ([.ref td, .int x]) (n := 2) (Nat.le_of_ble_eq_true rfl)
  rw [lg_entry_eq]
  generalize (lg_sl ([.ref td, .int x]) ++ List.replicate (2 - (lg_sl ([.ref td, .int x])).length) Slot.unset).toArray = ls at hl ⊢
  have hl : lv_has ls 2 [(0, .ref td), (1, .int x)] := hl
  refine zH (A := A) (ws := [(td, .inr (3, [.ref r1, .ref r2, .ref r3, .ref r4, .ref r5, .int 0, .int 0, .int 0]))]) (fun H hP hS => ?_) hP
  have ho := fun w (h : w ∈ ow_c_hasEnd) => hts w (List.mem_cons_of_mem _ (List.mem_append_left _ h))
  have hin3 : ∀ w ∈ u_ws RX3 TX3 8, w ∈ vs_c_hasEnd := fun w h => (List.mem_cons_of_mem _ (List.mem_append_right _ h))
  refine lv_iload_n hx hb dX3_hasEnd_0 rfl (lv_at hl 1 rfl) ?_
  refine lv_if_lt (tgt := 16) hx hb dX3_hasEnd_1 (by decide) (fun c_1 => ?_) (fun c_1 => ?_)
  · refine lv_iconst (v := 0) hx hb dX3_hasEnd_16 (by decide) ?_
    refine W.widen (k := 0) (n := 0) (Nat.le_of_ble_eq_true rfl) (Nat.le_of_ble_eq_true rfl) ?_
    exact W.zret (v := 0) hx hb hr rfl (fun t ht hW => ⟨⟨0, (), rfl, rfl, wEn_of (hP.sub [0] rfl) (hK.sub [] rfl) (hD.sub [0] (by decide) rfl) ht hW⟩, hS.F ht⟩) hS.2.2 dX3_hasEnd_17
  · refine lv_iload_n hx hb dX3_hasEnd_4 rfl (lv_at hl 1 rfl) ?_
    refine lv_aload_n hx hb dX3_hasEnd_5 rfl (lv_at hl 0 rfl) ?_
    refine va_get (D := (dC, dI)) (ci := 3) (v := .int 0) (C := RX3) (T := TX3) (N := 8) hx hb hts hin3 hown hK hP 0 rfl rfl 7 (by decide) (ho (.fieldLink RX3 40 "NearEnough$Program" "endCount" "I") (List.mem_of_getElem? (i := 0) rfl)) (fun _ h9 => h9) rfl dX3_hasEnd_6 ?_
    refine lv_icmp_ge (tgt := 16) hx hb dX3_hasEnd_9 (by decide) (fun c_9 => ?_) (fun c_9 => absurd (Int32.not_le.mp c_9) c_1)
    refine lv_iconst (v := 0) hx hb dX3_hasEnd_16 (by decide) ?_
    refine W.widen (k := 0) (n := 0) (Nat.le_of_ble_eq_true rfl) (Nat.le_of_ble_eq_true rfl) ?_
    exact W.zret (v := 0) hx hb hr rfl (fun t ht hW => ⟨⟨0, (), rfl, rfl, wEn_of (hP.sub [0] rfl) (hK.sub [] rfl) (hD.sub [0] (by decide) rfl) ht hW⟩, hS.F ht⟩) hS.2.2 dX3_hasEnd_17
def ow_c_has : List Cond := [.fieldLink RX7 19 "NearEnough$Sheets" "count" "I"]
def vs_c_has : List Cond := .code yX7_has cX7_has 2 (some .boolean) :: (ow_c_has ++ (wsX70))
theorem vg_c_has : vs_c_has.all goodWord = true := by decide +kernel
set_option maxHeartbeats 4000000 in
set_option maxRecDepth 100000 in
theorem c_has (l : Launch) (dC : Nat → ClassId) (dI : Nat → Nat → Nat) (sh : Nat) (sn : Nat) (sk : Nat) (x : Int32) (sz : Nat) : Met l yX7_has vs_c_has ({ frames := 0, cells := 0, slots := 0, locals := 0 }) (va_Pc [.ref sh, .int x] (wSt dC dI [(sh, .inr (7, [.ref sn, .ref sk, .int 0]))] [] sz)) (va_Qi (fun (r : Int32) (_ : Unit) => r = 0) (fun (u : Unit) => wEn dC dI (va_A [(sh, .inr (7, [.ref sn, .ref sk, .int 0]))] sz) [(sh, .inr (7, [.ref sn, .ref sk, .int 0]))] []) (va_A [(sh, .inr (7, [.ref sn, .ref sk, .int 0]))] sz)) 0 0 (va_A [(sh, .inr (7, [.ref sn, .ref sk, .int 0]))] sz) := by
  refine Met.ofW (cc := cX7_has) (maxL := 2) (ret := (some .boolean)) (by decide) rfl ?_
  intro p e s m args below meth c s₁ B hml hv
  obtain ⟨rfl, hsz, hP, hK, hD0, hE⟩ := hv
  have hx := B.exec
  have hb := B.bytes
  have hr := B.returns
  have hts := atoms_spec (ws := vs_c_has) B.pre
  have hown : s.vm.findClass RX7 = some m.cls := findClass_of_methodNamed B.named
  have hlocks := B.notSynchronized
  subst hsz
  have hD := hD0.self (sz := s.heap.size)
  generalize hAe : va_A [(sh, .inr (7, [.ref sn, .ref sk, .int 0]))] s.heap.size = A at hD ⊢
  have hA : ∀ q : Nat, s.heap.size ≤ q → A q := fun q h => by rw [← hAe]; exact Or.inr h
  have hl := lv_entry ([.ref sh, .int x]) (n := 2) (Nat.le_of_ble_eq_true rfl)
  rw [lg_entry_eq]
  generalize (lg_sl ([.ref sh, .int x]) ++ List.replicate (2 - (lg_sl ([.ref sh, .int x])).length) Slot.unset).toArray = ls at hl ⊢
  have hl : lv_has ls 2 [(0, .ref sh), (1, .int x)] := hl
  refine zH (A := A) (ws := [(sh, .inr (7, [.ref sn, .ref sk, .int 0]))]) (fun H hP hS => ?_) hP
  have ho := fun w (h : w ∈ ow_c_has) => hts w (List.mem_cons_of_mem _ (List.mem_append_left _ h))
  have hin7 : ∀ w ∈ u_ws RX7 TX7 3, w ∈ vs_c_has := fun w h => (List.mem_cons_of_mem _ (List.mem_append_right _ h))
  refine lv_iload_n hx hb dX7_has_0 rfl (lv_at hl 1 rfl) ?_
  refine lv_if_lt (tgt := 16) hx hb dX7_has_1 (by decide) (fun c_1 => ?_) (fun c_1 => ?_)
  · refine lv_iconst (v := 0) hx hb dX7_has_16 (by decide) ?_
    refine W.widen (k := 0) (n := 0) (Nat.le_of_ble_eq_true rfl) (Nat.le_of_ble_eq_true rfl) ?_
    exact W.zret (v := 0) hx hb hr rfl (fun t ht hW => ⟨⟨0, (), rfl, rfl, wEn_of (hP.sub [0] rfl) (hK.sub [] rfl) (hD.sub [0] (by decide) rfl) ht hW⟩, hS.F ht⟩) hS.2.2 dX7_has_17
  · refine lv_iload_n hx hb dX7_has_4 rfl (lv_at hl 1 rfl) ?_
    refine lv_aload_n hx hb dX7_has_5 rfl (lv_at hl 0 rfl) ?_
    refine va_get (D := (dC, dI)) (ci := 7) (v := .int 0) (C := RX7) (T := TX7) (N := 3) hx hb hts hin7 hown hK hP 0 rfl rfl 2 (by decide) (ho (.fieldLink RX7 19 "NearEnough$Sheets" "count" "I") (List.mem_of_getElem? (i := 0) rfl)) (fun _ h9 => h9) rfl dX7_has_6 ?_
    refine lv_icmp_ge (tgt := 16) hx hb dX7_has_9 (by decide) (fun c_9 => ?_) (fun c_9 => absurd (Int32.not_le.mp c_9) c_1)
    refine lv_iconst (v := 0) hx hb dX7_has_16 (by decide) ?_
    refine W.widen (k := 0) (n := 0) (Nat.le_of_ble_eq_true rfl) (Nat.le_of_ble_eq_true rfl) ?_
    exact W.zret (v := 0) hx hb hr rfl (fun t ht hW => ⟨⟨0, (), rfl, rfl, wEn_of (hP.sub [0] rfl) (hK.sub [] rfl) (hD.sub [0] (by decide) rfl) ht hW⟩, hS.F ht⟩) hS.2.2 dX7_has_17
def ow_c_lay : List Cond := [.fieldLink RX7 23 "NearEnough$Program" "rowCount" "I"]
def vs_c_lay : List Cond := .code yX7_lay cX7_lay 7 none :: (ow_c_lay ++ (wsX30))
theorem vg_c_lay : vs_c_lay.all goodWord = true := by decide +kernel
set_option maxHeartbeats 4000000 in
set_option maxRecDepth 100000 in
theorem c_lay (l : Launch) (dC : Nat → ClassId) (dI : Nat → Nat → Nat) (sh : Nat) (sn : Nat) (sk : Nat) (td : Nat) (r1 : Nat) (r2 : Nat) (r3 : Nat) (r4 : Nat) (r5 : Nat) (sz : Nat) : Met l yX7_lay vs_c_lay ({ frames := 0, cells := 0, slots := 0, locals := 0 }) (va_Pc [.ref sh, .int 0, .int 0, .ref td] (wSt dC dI [(sh, .inr (7, [.ref sn, .ref sk, .int 0])), (td, .inr (3, [.ref r1, .ref r2, .ref r3, .ref r4, .ref r5, .int 0, .int 0, .int 0]))] [] sz)) (va_Qv (fun (_ : Unit) => True) (fun (u : Unit) => wEn dC dI (va_A [(sh, .inr (7, [.ref sn, .ref sk, .int 0])), (td, .inr (3, [.ref r1, .ref r2, .ref r3, .ref r4, .ref r5, .int 0, .int 0, .int 0]))] sz) [(sh, .inr (7, [.ref sn, .ref sk, .int 0])), (td, .inr (3, [.ref r1, .ref r2, .ref r3, .ref r4, .ref r5, .int 0, .int 0, .int 0]))] []) (va_A [(sh, .inr (7, [.ref sn, .ref sk, .int 0])), (td, .inr (3, [.ref r1, .ref r2, .ref r3, .ref r4, .ref r5, .int 0, .int 0, .int 0]))] sz)) 0 0 (va_A [(sh, .inr (7, [.ref sn, .ref sk, .int 0])), (td, .inr (3, [.ref r1, .ref r2, .ref r3, .ref r4, .ref r5, .int 0, .int 0, .int 0]))] sz) := by
  refine Met.ofW (cc := cX7_lay) (maxL := 7) (ret := none) (by decide) rfl ?_
  intro p e s m args below meth c s₁ B hml hv
  obtain ⟨rfl, hsz, hP, hK, hD0, hE⟩ := hv
  have hx := B.exec
  have hb := B.bytes
  have hr := B.returns
  have hts := atoms_spec (ws := vs_c_lay) B.pre
  have hown : s.vm.findClass RX7 = some m.cls := findClass_of_methodNamed B.named
  have hlocks := B.notSynchronized
  subst hsz
  have hD := hD0.self (sz := s.heap.size)
  generalize hAe : va_A [(sh, .inr (7, [.ref sn, .ref sk, .int 0])), (td, .inr (3, [.ref r1, .ref r2, .ref r3, .ref r4, .ref r5, .int 0, .int 0, .int 0]))] s.heap.size = A at hD ⊢
  have hA : ∀ q : Nat, s.heap.size ≤ q → A q := fun q h => by rw [← hAe]; exact Or.inr h
  have hl := lv_entry ([.ref sh, .int 0, .int 0, .ref td]) (n := 7) (Nat.le_of_ble_eq_true rfl)
  rw [lg_entry_eq]
  generalize (lg_sl ([.ref sh, .int 0, .int 0, .ref td]) ++ List.replicate (7 - (lg_sl ([.ref sh, .int 0, .int 0, .ref td])).length) Slot.unset).toArray = ls at hl ⊢
  have hl : lv_has ls 7 [(0, .ref sh), (1, .int 0), (2, .int 0), (3, .ref td)] := hl
  refine zH (A := A) (ws := [(sh, .inr (7, [.ref sn, .ref sk, .int 0])), (td, .inr (3, [.ref r1, .ref r2, .ref r3, .ref r4, .ref r5, .int 0, .int 0, .int 0]))]) (fun H hP hS => ?_) hP
  have ho := fun w (h : w ∈ ow_c_lay) => hts w (List.mem_cons_of_mem _ (List.mem_append_left _ h))
  have hin3 : ∀ w ∈ u_ws RX3 TX3 8, w ∈ vs_c_lay := fun w h => (List.mem_cons_of_mem _ (List.mem_append_right _ h))
  refine lv_iconst (v := 0) hx hb dX7_lay_0 (by decide) ?_
  refine lv_istore (lv' := [(4, .int 0), (0, .ref sh), (1, .int 0), (2, .int 0), (3, .ref td)]) hx hb dX7_lay_1 hl (by decide) rfl (fun ls hl => ?_)
  refine lv_iload hx hb dX7_lay_3 (lv_at hl 0 rfl) ?_
  refine lv_aload_n hx hb dX7_lay_5 rfl (lv_at hl 4 rfl) ?_
  refine va_get (D := (dC, dI)) (ci := 3) (v := .int 0) (C := RX3) (T := TX3) (N := 8) hx hb hts hin3 hown hK hP 1 rfl rfl 5 (by decide) (ho (.fieldLink RX7 23 "NearEnough$Program" "rowCount" "I") (List.mem_of_getElem? (i := 0) rfl)) (fun _ h9 => h9) rfl dX7_lay_6 ?_
  refine lv_icmp_ge (tgt := 90) hx hb dX7_lay_9 (by decide) (fun _ => ?_) (fun cc => absurd (by decide) cc)
  refine W.widen (k := 0) (n := 0) (Nat.le_of_ble_eq_true rfl) (Nat.le_of_ble_eq_true rfl) ?_
  exact W.vret hx hb hr (fun t ht hW => ⟨⟨(), rfl, trivial, wEn_of (hP.sub [0, 1] rfl) (hK.sub [] rfl) (hD.sub [0, 1] (by decide) rfl) ht hW⟩, hS.F ht⟩) hS.2.2 dX7_lay_90
def ow_c_workPlain : List Cond := []
def vs_c_workPlain : List Cond := .code yX10_workPlain cX10_workPlain 5 none :: (ow_c_workPlain)
theorem vg_c_workPlain : vs_c_workPlain.all goodWord = true := by decide +kernel
set_option maxHeartbeats 4000000 in
set_option maxRecDepth 100000 in
theorem c_workPlain (l : Launch) (dC : Nat → ClassId) (dI : Nat → Nat → Nat) (wk : Nat) (td : Nat) (sh : Nat) (ch : Nat) (v1 : Nat) (v2 : Nat) (sz : Nat) : Met l yX10_workPlain vs_c_workPlain ({ frames := 0, cells := 0, slots := 0, locals := 0 }) (va_Pc [.ref wk, .int 0, .int (-1)] (wSt dC dI [(wk, .inr (10, [.ref td, .ref sh, .ref ch, .ref v1, .ref v2]))] [] sz)) (va_Qv (fun (_ : Unit) => True) (fun (u : Unit) => wEn dC dI (va_A [(wk, .inr (10, [.ref td, .ref sh, .ref ch, .ref v1, .ref v2]))] sz) [(wk, .inr (10, [.ref td, .ref sh, .ref ch, .ref v1, .ref v2]))] []) (va_A [(wk, .inr (10, [.ref td, .ref sh, .ref ch, .ref v1, .ref v2]))] sz)) 0 0 (va_A [(wk, .inr (10, [.ref td, .ref sh, .ref ch, .ref v1, .ref v2]))] sz) := by
  refine Met.ofW (cc := cX10_workPlain) (maxL := 5) (ret := none) (by decide) rfl ?_
  intro p e s m args below meth c s₁ B hml hv
  obtain ⟨rfl, hsz, hP, hK, hD0, hE⟩ := hv
  have hx := B.exec
  have hb := B.bytes
  have hr := B.returns
  have hts := atoms_spec (ws := vs_c_workPlain) B.pre
  have hown : s.vm.findClass RX10 = some m.cls := findClass_of_methodNamed B.named
  have hlocks := B.notSynchronized
  subst hsz
  have hD := hD0.self (sz := s.heap.size)
  generalize hAe : va_A [(wk, .inr (10, [.ref td, .ref sh, .ref ch, .ref v1, .ref v2]))] s.heap.size = A at hD ⊢
  have hA : ∀ q : Nat, s.heap.size ≤ q → A q := fun q h => by rw [← hAe]; exact Or.inr h
  have hl := lv_entry ([.ref wk, .int 0, .int (-1)]) (n := 5) (Nat.le_of_ble_eq_true rfl)
  rw [lg_entry_eq]
  generalize (lg_sl ([.ref wk, .int 0, .int (-1)]) ++ List.replicate (5 - (lg_sl ([.ref wk, .int 0, .int (-1)])).length) Slot.unset).toArray = ls at hl ⊢
  have hl : lv_has ls 5 [(0, .ref wk), (1, .int 0), (2, .int (-1))] := hl
  refine zH (A := A) (ws := [(wk, .inr (10, [.ref td, .ref sh, .ref ch, .ref v1, .ref v2]))]) (fun H hP hS => ?_) hP
  have ho := fun w (h : w ∈ ow_c_workPlain) => hts w (List.mem_cons_of_mem _ h)
  refine lv_iload_n hx hb dX10_workPlain_0 rfl (lv_at hl 1 rfl) ?_
  refine lv_bipush (v := 12) hx hb dX10_workPlain_1 (by decide) ?_
  refine lv_imul hx hb dX10_workPlain_3 ?_
  refine zi (v := 0) (by decide) ?_
  refine lv_istore_n (lv' := [(3, .int 0), (0, .ref wk), (1, .int 0), (2, .int (-1))]) hx hb dX10_workPlain_4 rfl hl (by decide) rfl (fun ls hl => ?_)
  refine lv_iconst (v := 0) hx hb dX10_workPlain_5 (by decide) ?_
  refine lv_istore (lv' := [(4, .int 0), (3, .int 0), (0, .ref wk), (1, .int 0), (2, .int (-1))]) hx hb dX10_workPlain_6 hl (by decide) rfl (fun ls hl => ?_)
  refine lv_iload hx hb dX10_workPlain_8 (lv_at hl 0 rfl) ?_
  refine lv_iload_n hx hb dX10_workPlain_10 rfl (lv_at hl 4 rfl) ?_
  refine lv_icmp_gt (tgt := 50) hx hb dX10_workPlain_11 (by decide) (fun _ => ?_) (fun cc => absurd (by decide) cc)
  refine W.widen (k := 0) (n := 0) (Nat.le_of_ble_eq_true rfl) (Nat.le_of_ble_eq_true rfl) ?_
  exact W.vret hx hb hr (fun t ht hW => ⟨⟨(), rfl, trivial, wEn_of (hP.sub [0] rfl) (hK.sub [] rfl) (hD.sub [0] (by decide) rfl) ht hW⟩, hS.F ht⟩) hS.2.2 dX10_workPlain_50
def ow_c_show : List Cond := [.fieldLink RX8 36 "NearEnough$Shown" "told" "LNearEnough$Program;", .fieldLink RX8 63 "NearEnough$Program" "stepCount" "I"]
def vs_c_show : List Cond := .code yX8_show cX8_show 5 (some .int) :: (ow_c_show ++ (wsX30 ++ (wsX80)))
theorem vg_c_show : vs_c_show.all goodWord = true := by decide +kernel
set_option maxHeartbeats 4000000 in
set_option maxRecDepth 100000 in
theorem c_show (l : Launch) (dC : Nat → ClassId) (dI : Nat → Nat → Nat) (sw : Nat) (ch : Nat) (w1 : Nat) (w2 : Nat) (td : Nat) (r1 : Nat) (r2 : Nat) (r3 : Nat) (r4 : Nat) (r5 : Nat) (ww : Int32) (wl : Int32) (wt : Int32) (sz : Nat) : Met l yX8_show vs_c_show ({ frames := 0, cells := 0, slots := 0, locals := 0 }) (va_Pc [.ref sw, .int 0] (wSt dC dI [(sw, .inr (8, [.ref td, .ref ch, .ref w1, .ref w2, .long 0, .long 0, .int ww, .int wl, .int wt])), (td, .inr (3, [.ref r1, .ref r2, .ref r3, .ref r4, .ref r5, .int 0, .int 0, .int 0]))] [] sz)) (va_Qi (fun (r : Int32) (_ : Unit) => r = (-1)) (fun (u : Unit) => wEn dC dI (va_A [(sw, .inr (8, [.ref td, .ref ch, .ref w1, .ref w2, .long 0, .long 0, .int ww, .int wl, .int wt])), (td, .inr (3, [.ref r1, .ref r2, .ref r3, .ref r4, .ref r5, .int 0, .int 0, .int 0]))] sz) [(sw, .inr (8, [.ref td, .ref ch, .ref w1, .ref w2, .long 0, .long 0, .int ww, .int wl, .int wt])), (td, .inr (3, [.ref r1, .ref r2, .ref r3, .ref r4, .ref r5, .int 0, .int 0, .int 0]))] []) (va_A [(sw, .inr (8, [.ref td, .ref ch, .ref w1, .ref w2, .long 0, .long 0, .int ww, .int wl, .int wt])), (td, .inr (3, [.ref r1, .ref r2, .ref r3, .ref r4, .ref r5, .int 0, .int 0, .int 0]))] sz)) 0 0 (va_A [(sw, .inr (8, [.ref td, .ref ch, .ref w1, .ref w2, .long 0, .long 0, .int ww, .int wl, .int wt])), (td, .inr (3, [.ref r1, .ref r2, .ref r3, .ref r4, .ref r5, .int 0, .int 0, .int 0]))] sz) := by
  refine Met.ofW (cc := cX8_show) (maxL := 5) (ret := (some .int)) (by decide) rfl ?_
  intro p e s m args below meth c s₁ B hml hv
  obtain ⟨rfl, hsz, hP, hK, hD0, hE⟩ := hv
  have hx := B.exec
  have hb := B.bytes
  have hr := B.returns
  have hts := atoms_spec (ws := vs_c_show) B.pre
  have hown : s.vm.findClass RX8 = some m.cls := findClass_of_methodNamed B.named
  have hlocks := B.notSynchronized
  subst hsz
  have hD := hD0.self (sz := s.heap.size)
  generalize hAe : va_A [(sw, .inr (8, [.ref td, .ref ch, .ref w1, .ref w2, .long 0, .long 0, .int ww, .int wl, .int wt])), (td, .inr (3, [.ref r1, .ref r2, .ref r3, .ref r4, .ref r5, .int 0, .int 0, .int 0]))] s.heap.size = A at hD ⊢
  have hA : ∀ q : Nat, s.heap.size ≤ q → A q := fun q h => by rw [← hAe]; exact Or.inr h
  have hl := lv_entry ([.ref sw, .int 0]) (n := 5) (Nat.le_of_ble_eq_true rfl)
  rw [lg_entry_eq]
  generalize (lg_sl ([.ref sw, .int 0]) ++ List.replicate (5 - (lg_sl ([.ref sw, .int 0])).length) Slot.unset).toArray = ls at hl ⊢
  have hl : lv_has ls 5 [(0, .ref sw), (1, .int 0)] := hl
  refine zH (A := A) (ws := [(sw, .inr (8, [.ref td, .ref ch, .ref w1, .ref w2, .long 0, .long 0, .int ww, .int wl, .int wt])), (td, .inr (3, [.ref r1, .ref r2, .ref r3, .ref r4, .ref r5, .int 0, .int 0, .int 0]))]) (fun H hP hS => ?_) hP
  have ho := fun w (h : w ∈ ow_c_show) => hts w (List.mem_cons_of_mem _ (List.mem_append_left _ h))
  have hin3 : ∀ w ∈ u_ws RX3 TX3 8, w ∈ vs_c_show := fun w h => (List.mem_cons_of_mem _ (List.mem_append_right _ (List.mem_append_left _ h)))
  have hin8 : ∀ w ∈ u_ws RX8 TX8 9, w ∈ vs_c_show := fun w h => (List.mem_cons_of_mem _ (List.mem_append_right _ (List.mem_append_right _ h)))
  refine lv_iload_n hx hb dX8_show_0 rfl (lv_at hl 1 rfl) ?_
  refine lv_istore_n (lv' := [(2, .int 0), (0, .ref sw), (1, .int 0)]) hx hb dX8_show_1 rfl hl (by decide) rfl (fun ls hl => ?_)
  refine lv_iload_n hx hb dX8_show_2 rfl (lv_at hl 0 rfl) ?_
  refine lv_aload_n hx hb dX8_show_3 rfl (lv_at hl 1 rfl) ?_
  refine va_get (D := (dC, dI)) (ci := 8) (v := .ref td) (C := RX8) (T := TX8) (N := 9) hx hb hts hin8 hown hK hP 0 rfl rfl 0 (by decide) (ho (.fieldLink RX8 36 "NearEnough$Shown" "told" "LNearEnough$Program;") (List.mem_of_getElem? (i := 0) rfl)) (fun _ h9 => h9) rfl dX8_show_4 ?_
  refine va_get (D := (dC, dI)) (ci := 3) (v := .int 0) (C := RX3) (T := TX3) (N := 8) hx hb hts hin3 hown hK hP 1 rfl rfl 6 (by decide) (ho (.fieldLink RX8 63 "NearEnough$Program" "stepCount" "I") (List.mem_of_getElem? (i := 1) rfl)) (fun _ h9 => h9) rfl dX8_show_7 ?_
  refine lv_icmp_ge (tgt := 163) hx hb dX8_show_10 (by decide) (fun _ => ?_) (fun cc => absurd (by decide) cc)
  refine lv_iconst (v := (-1)) hx hb dX8_show_163 (by decide) ?_
  refine W.widen (k := 0) (n := 0) (Nat.le_of_ble_eq_true rfl) (Nat.le_of_ble_eq_true rfl) ?_
  exact W.iret (v := (-1)) hx hb hr (fun t ht hW => ⟨⟨(-1), (), rfl, rfl, wEn_of (hP.sub [0, 1] rfl) (hK.sub [] rfl) (hD.sub [0, 1] (by decide) rfl) ht hW⟩, hS.F ht⟩) hS.2.2 dX8_show_164
def ow_c_restart : List Cond := [.fieldLink RX8 40 "NearEnough$Shown" "changes" "LNearEnough$Changes;", .fieldLink RX8 25 "NearEnough$Shown" "walking" "Z"]
def vs_c_restart : List Cond := .code yX8_restart cX8_restart 1 none :: (ow_c_restart ++ (([.methodLink RX8 44 yX0_take, .instanceMethod yX0_take, .selects RX0 yX0_take yX0_take, .initialized RX0] : List Cond) ++ (vs_c_take0 ++ (wsX80))))
theorem vg_c_restart : vs_c_restart.all goodWord = true := by decide +kernel
theorem gd_c_restart_44_c_take0 : GoodIn vs_c_restart (wsV RX8 44 RX0 yX0_take vs_c_take0) := goodIn_app (goodIn_sub (fun w h => (List.mem_cons_of_mem _ (List.mem_append_right _ (List.mem_append_left _ h)))) (by decide +kernel)) (goodIn_sub (fun w h => (List.mem_cons_of_mem _ (List.mem_append_right _ (List.mem_append_right _ (List.mem_append_left _ h))))) vg_c_take0)
set_option maxHeartbeats 4000000 in
set_option maxRecDepth 100000 in
theorem c_restart (l : Launch) (dC : Nat → ClassId) (dI : Nat → Nat → Nat) (sw : Nat) (ch : Nat) (w1 : Nat) (w2 : Nat) (td : Nat) (a1 : Nat) (a2 : Nat) (a3 : Nat) (a4 : Nat) (a5 : Nat) (kc : ClassId) (f0 : Nat → Int32) (ww : Int32) (wl : Int32) (wt : Int32) (bt : Int32) (sz : Nat) : Met l yX8_restart vs_c_restart ({ frames := 2, cells := 0, slots := 0, locals := 45 }) (va_Pc [.ref sw] (wSt dC dI [(sw, .inr (8, [.ref td, .ref ch, .ref w1, .ref w2, .long 0, .long 0, .int ww, .int wl, .int wt])), (ch, .inr (0, [.ref a1, .ref a2, .ref a3, .ref a4, .ref a5, .int 0, .int bt])), (a5, .inl (kc, 12, .inl f0))] [(kc, .int)] sz)) (va_Qv (fun (_ : (Nat → Int32)) => True) (fun (u : (Nat → Int32)) => wEn dC dI (va_A [(sw, .inr (8, [.ref td, .ref ch, .ref w1, .ref w2, .long 0, .long 0, .int ww, .int wl, .int wt])), (ch, .inr (0, [.ref a1, .ref a2, .ref a3, .ref a4, .ref a5, .int 0, .int bt])), (a5, .inl (kc, 12, .inl f0))] sz) [(sw, .inr (8, [.ref td, .ref ch, .ref w1, .ref w2, .long 0, .long 0, .int 0, .int wl, .int wt])), (ch, .inr (0, [.ref a1, .ref a2, .ref a3, .ref a4, .ref a5, .int 0, .int 0])), (a5, .inl (kc, 12, .inl u))] []) (va_A [(sw, .inr (8, [.ref td, .ref ch, .ref w1, .ref w2, .long 0, .long 0, .int ww, .int wl, .int wt])), (ch, .inr (0, [.ref a1, .ref a2, .ref a3, .ref a4, .ref a5, .int 0, .int bt])), (a5, .inl (kc, 12, .inl f0))] sz)) 0 0 (va_A [(sw, .inr (8, [.ref td, .ref ch, .ref w1, .ref w2, .long 0, .long 0, .int ww, .int wl, .int wt])), (ch, .inr (0, [.ref a1, .ref a2, .ref a3, .ref a4, .ref a5, .int 0, .int bt])), (a5, .inl (kc, 12, .inl f0))] sz) := by
  refine Met.ofW (cc := cX8_restart) (maxL := 1) (ret := none) (by decide) rfl ?_
  intro p e s m args below meth c s₁ B hml hv
  obtain ⟨rfl, hsz, hP, hK, hD0, hE⟩ := hv
  have hx := B.exec
  have hb := B.bytes
  have hr := B.returns
  have hts := atoms_spec (ws := vs_c_restart) B.pre
  have hown : s.vm.findClass RX8 = some m.cls := findClass_of_methodNamed B.named
  have hlocks := B.notSynchronized
  subst hsz
  have hD := hD0.self (sz := s.heap.size)
  generalize hAe : va_A [(sw, .inr (8, [.ref td, .ref ch, .ref w1, .ref w2, .long 0, .long 0, .int ww, .int wl, .int wt])), (ch, .inr (0, [.ref a1, .ref a2, .ref a3, .ref a4, .ref a5, .int 0, .int bt])), (a5, .inl (kc, 12, .inl f0))] s.heap.size = A at hD ⊢
  have hA : ∀ q : Nat, s.heap.size ≤ q → A q := fun q h => by rw [← hAe]; exact Or.inr h
  have hl := lv_entry ([.ref sw]) (n := 1) (Nat.le_of_ble_eq_true rfl)
  rw [lg_entry_eq]
  generalize (lg_sl ([.ref sw]) ++ List.replicate (1 - (lg_sl ([.ref sw])).length) Slot.unset).toArray = ls at hl ⊢
  have hl : lv_has ls 1 [(0, .ref sw)] := hl
  refine zH (A := A) (ws := [(sw, .inr (8, [.ref td, .ref ch, .ref w1, .ref w2, .long 0, .long 0, .int ww, .int wl, .int wt])), (ch, .inr (0, [.ref a1, .ref a2, .ref a3, .ref a4, .ref a5, .int 0, .int bt])), (a5, .inl (kc, 12, .inl f0))]) (fun H hP hS => ?_) hP
  have ho := fun w (h : w ∈ ow_c_restart) => hts w (List.mem_cons_of_mem _ (List.mem_append_left _ h))
  have hin8 : ∀ w ∈ u_ws RX8 TX8 9, w ∈ vs_c_restart := fun w h => (List.mem_cons_of_mem _ (List.mem_append_right _ (List.mem_append_right _ (List.mem_append_right _ h))))
  refine lv_aload_n hx hb dX8_restart_0 rfl (lv_at hl 0 rfl) ?_
  refine va_get (D := (dC, dI)) (ci := 8) (v := .ref ch) (C := RX8) (T := TX8) (N := 9) hx hb hts hin8 hown hK hP 0 rfl rfl 1 (by decide) (ho (.fieldLink RX8 40 "NearEnough$Shown" "changes" "LNearEnough$Changes;") (List.mem_of_getElem? (i := 0) rfl)) (fun _ h9 => h9) rfl dX8_restart_1 ?_
  refine lv_iconst (v := 0) hx hb dX8_restart_4 (by decide) ?_
  have hPc := hP.sub (ws' := [(ch, .inr (0, [.ref a1, .ref a2, .ref a3, .ref a4, .ref a5, .int 0, .int bt])), (a5, .inl (kc, 12, .inl f0))]) [1, 2] rfl
  have hDc := hD.sub (ws' := [(ch, .inr (0, [.ref a1, .ref a2, .ref a3, .ref a4, .ref a5, .int 0, .int bt])), (a5, .inl (kc, 12, .inl f0))]) [1, 2] (by decide) rfl
  have hKc := hK.sub (tys' := [(kc, .int)]) [0] rfl
  refine zz_i (wr := [(sw, .inr (8, [.ref td, .ref ch, .ref w1, .ref w2, .long 0, .long 0, .int ww, .int wl, .int wt]))]) (va_runV (As := [.int 0]) (rest := []) ⟨hx, hb, hml, hown, hts⟩ (c_take0 l dC dI ch a1 a2 a3 a4 a5 kc f0 bt H.size) (cwV 1 hts gd_c_restart_44_c_take0 rfl rfl rfl (by decide +kernel) ⟨Nat.le_of_ble_eq_true rfl, Nat.le_of_ble_eq_true rfl⟩) (preV hPc hKc hDc hE (ci := 0) (q0 := 0) rfl rfl) rfl rfl hl.1 rfl (lv_room (Nat.le_of_ble_eq_true rfl)) dX8_restart_5 ⟨Nat.le_of_ble_eq_true rfl, Nat.le_of_ble_eq_true rfl⟩) hK hP hD hS hA [1, 2] [0] rfl rfl (by decide) (by decide) (fun f1 H locs hK hP hD hS => ?_)
  have hP : va_P (dC, dI) vwCl [(sw, .inr (8, [.ref td, .ref ch, .ref w1, .ref w2, .long 0, .long 0, .int ww, .int wl, .int wt])), (ch, .inr (0, [.ref a1, .ref a2, .ref a3, .ref a4, .ref a5, .int 0, .int 0])), (a5, .inl (kc, 12, .inl f1))] H := hP
  have hD : va_D A [(sw, .inr (8, [.ref td, .ref ch, .ref w1, .ref w2, .long 0, .long 0, .int ww, .int wl, .int wt])), (ch, .inr (0, [.ref a1, .ref a2, .ref a3, .ref a4, .ref a5, .int 0, .int 0])), (a5, .inl (kc, 12, .inl f1))] := hD
  have hK : va_K (dC, dI) vwCl [(kc, .int)] s := hK
  refine W.widen (k := 0) (n := 0) (Nat.le_of_ble_eq_true rfl) (Nat.le_of_ble_eq_true rfl) ?_
  refine lv_pop hx hb dX8_restart_8 rfl ?_
  refine lv_aload_n hx hb dX8_restart_9 rfl (lv_at hl 0 rfl) ?_
  refine lv_iconst (v := 0) hx hb dX8_restart_10 (by decide) ?_
  refine va_put (D := (dC, dI)) (ci := 8) (v := .int 0) (ty := tyX8 6) (C := RX8) (T := TX8) (N := 9) hx hb hts hin8 tyX8 tyX8_ok nmX8 hown hK hP hD hS 0 rfl rfl 6 (by decide) (ho (.fieldLink RX8 25 "NearEnough$Shown" "walking" "Z") (List.mem_of_getElem? (i := 1) rfl)) (fun _ h9 => h9) rfl (by decide +kernel) rfl rfl (Nat.le_of_ble_eq_true rfl) dX8_restart_11 (fun H locs hP hD hS => ?_)
  have hP : va_P (dC, dI) vwCl [(sw, .inr (8, [.ref td, .ref ch, .ref w1, .ref w2, .long 0, .long 0, .int 0, .int wl, .int wt])), (ch, .inr (0, [.ref a1, .ref a2, .ref a3, .ref a4, .ref a5, .int 0, .int 0])), (a5, .inl (kc, 12, .inl f1))] H := hP
  have hD : va_D A [(sw, .inr (8, [.ref td, .ref ch, .ref w1, .ref w2, .long 0, .long 0, .int 0, .int wl, .int wt])), (ch, .inr (0, [.ref a1, .ref a2, .ref a3, .ref a4, .ref a5, .int 0, .int 0])), (a5, .inl (kc, 12, .inl f1))] := hD
  refine W.widen (k := 0) (n := 0) (Nat.le_of_ble_eq_true rfl) (Nat.le_of_ble_eq_true rfl) ?_
  exact W.vret hx hb hr (fun t ht hW => ⟨⟨f1, rfl, trivial, wEn_of (hP.sub [0, 1, 2] rfl) (hK.sub [] rfl) (hD.sub [0, 1, 2] (by decide) rfl) ht hW⟩, hS.F ht⟩) hS.2.2 dX8_restart_14
def ow_c_next1 : List Cond := [.fieldLink RX8 33 "NearEnough$Shown" "stale" "I", .fieldLink RX8 25 "NearEnough$Shown" "walking" "Z", .methodLink RX8 54 Lib.Math.min.name, .static Lib.Math.min.name, .initialized "java/lang/Math", .code Lib.Math.min.name Lib.Math.min.code 2 (some .int), .fieldLink RX8 36 "NearEnough$Shown" "told" "LNearEnough$Program;", .fieldLink RX8 63 "NearEnough$Program" "stepCount" "I", .fieldLink RX8 29 "NearEnough$Shown" "last" "I"]
def vs_c_next1 : List Cond := .code yX8_next cX8_next 4 (some .boolean) :: (ow_c_next1 ++ (([.methodLink RX8 60 yX8_show, .instanceMethod yX8_show, .selects RX8 yX8_show yX8_show, .initialized RX8] : List Cond) ++ (vs_c_show ++ (wsX30 ++ (wsX80)))))
theorem vg_c_next1 : vs_c_next1.all goodWord = true := by decide +kernel
theorem gd_c_next1_60_c_show : GoodIn vs_c_next1 (wsV RX8 60 RX8 yX8_show vs_c_show) := goodIn_app (goodIn_sub (fun w h => (List.mem_cons_of_mem _ (List.mem_append_right _ (List.mem_append_left _ h)))) (by decide +kernel)) (goodIn_sub (fun w h => (List.mem_cons_of_mem _ (List.mem_append_right _ (List.mem_append_right _ (List.mem_append_left _ h))))) vg_c_show)
set_option maxHeartbeats 4000000 in
set_option maxRecDepth 100000 in
theorem c_next1 (l : Launch) (dC : Nat → ClassId) (dI : Nat → Nat → Nat) (sw : Nat) (ch : Nat) (w1 : Nat) (w2 : Nat) (td : Nat) (r1 : Nat) (r2 : Nat) (r3 : Nat) (r4 : Nat) (r5 : Nat) (wl : Int32) (wt : Int32) (sz : Nat) : Met l yX8_next vs_c_next1 ({ frames := 1, cells := 0, slots := 0, locals := 24 }) (va_Pc [.ref sw] (wSt dC dI [(sw, .inr (8, [.ref td, .ref ch, .ref w1, .ref w2, .long 0, .long 0, .int 0, .int wl, .int wt])), (td, .inr (3, [.ref r1, .ref r2, .ref r3, .ref r4, .ref r5, .int 0, .int 0, .int 0]))] [] sz)) (va_Qi (fun (r : Int32) (_ : Unit) => r = 1) (fun (u : Unit) => wEn dC dI (va_A [(sw, .inr (8, [.ref td, .ref ch, .ref w1, .ref w2, .long 0, .long 0, .int 0, .int wl, .int wt])), (td, .inr (3, [.ref r1, .ref r2, .ref r3, .ref r4, .ref r5, .int 0, .int 0, .int 0]))] sz) [(sw, .inr (8, [.ref td, .ref ch, .ref w1, .ref w2, .long 0, .long 0, .int 1, .int (-1), .int 0])), (td, .inr (3, [.ref r1, .ref r2, .ref r3, .ref r4, .ref r5, .int 0, .int 0, .int 0]))] []) (va_A [(sw, .inr (8, [.ref td, .ref ch, .ref w1, .ref w2, .long 0, .long 0, .int 0, .int wl, .int wt])), (td, .inr (3, [.ref r1, .ref r2, .ref r3, .ref r4, .ref r5, .int 0, .int 0, .int 0]))] sz)) 0 0 (va_A [(sw, .inr (8, [.ref td, .ref ch, .ref w1, .ref w2, .long 0, .long 0, .int 0, .int wl, .int wt])), (td, .inr (3, [.ref r1, .ref r2, .ref r3, .ref r4, .ref r5, .int 0, .int 0, .int 0]))] sz) := by
  refine Met.ofW (cc := cX8_next) (maxL := 4) (ret := (some .boolean)) (by decide) rfl ?_
  intro p e s m args below meth c s₁ B hml hv
  obtain ⟨rfl, hsz, hP, hK, hD0, hE⟩ := hv
  have hx := B.exec
  have hb := B.bytes
  have hr := B.returns
  have hts := atoms_spec (ws := vs_c_next1) B.pre
  have hown : s.vm.findClass RX8 = some m.cls := findClass_of_methodNamed B.named
  have hlocks := B.notSynchronized
  subst hsz
  have hD := hD0.self (sz := s.heap.size)
  generalize hAe : va_A [(sw, .inr (8, [.ref td, .ref ch, .ref w1, .ref w2, .long 0, .long 0, .int 0, .int wl, .int wt])), (td, .inr (3, [.ref r1, .ref r2, .ref r3, .ref r4, .ref r5, .int 0, .int 0, .int 0]))] s.heap.size = A at hD ⊢
  have hA : ∀ q : Nat, s.heap.size ≤ q → A q := fun q h => by rw [← hAe]; exact Or.inr h
  have hl := lv_entry ([.ref sw]) (n := 4) (Nat.le_of_ble_eq_true rfl)
  rw [lg_entry_eq]
  generalize (lg_sl ([.ref sw]) ++ List.replicate (4 - (lg_sl ([.ref sw])).length) Slot.unset).toArray = ls at hl ⊢
  have hl : lv_has ls 4 [(0, .ref sw)] := hl
  refine zH (A := A) (ws := [(sw, .inr (8, [.ref td, .ref ch, .ref w1, .ref w2, .long 0, .long 0, .int 0, .int wl, .int wt])), (td, .inr (3, [.ref r1, .ref r2, .ref r3, .ref r4, .ref r5, .int 0, .int 0, .int 0]))]) (fun H hP hS => ?_) hP
  have ho := fun w (h : w ∈ ow_c_next1) => hts w (List.mem_cons_of_mem _ (List.mem_append_left _ h))
  have hin3 : ∀ w ∈ u_ws RX3 TX3 8, w ∈ vs_c_next1 := fun w h => (List.mem_cons_of_mem _ (List.mem_append_right _ (List.mem_append_right _ (List.mem_append_right _ (List.mem_append_left _ h)))))
  have hin8 : ∀ w ∈ u_ws RX8 TX8 9, w ∈ vs_c_next1 := fun w h => (List.mem_cons_of_mem _ (List.mem_append_right _ (List.mem_append_right _ (List.mem_append_right _ (List.mem_append_right _ h)))))
  refine lv_aload_n hx hb dX8_next_0 rfl (lv_at hl 0 rfl) ?_
  refine lv_bipush (v := 12) hx hb dX8_next_1 (by decide) ?_
  refine va_put (D := (dC, dI)) (ci := 8) (v := .int 12) (ty := tyX8 8) (C := RX8) (T := TX8) (N := 9) hx hb hts hin8 tyX8 tyX8_ok nmX8 hown hK hP hD hS 0 rfl rfl 8 (by decide) (ho (.fieldLink RX8 33 "NearEnough$Shown" "stale" "I") (List.mem_of_getElem? (i := 0) rfl)) (fun _ h9 => h9) rfl (by decide +kernel) rfl rfl (Nat.le_of_ble_eq_true rfl) dX8_next_3 (fun H locs hP hD hS => ?_)
  have hP : va_P (dC, dI) vwCl [(sw, .inr (8, [.ref td, .ref ch, .ref w1, .ref w2, .long 0, .long 0, .int 0, .int wl, .int 12])), (td, .inr (3, [.ref r1, .ref r2, .ref r3, .ref r4, .ref r5, .int 0, .int 0, .int 0]))] H := hP
  have hD : va_D A [(sw, .inr (8, [.ref td, .ref ch, .ref w1, .ref w2, .long 0, .long 0, .int 0, .int wl, .int 12])), (td, .inr (3, [.ref r1, .ref r2, .ref r3, .ref r4, .ref r5, .int 0, .int 0, .int 0]))] := hD
  refine lv_iconst (v := 0) hx hb dX8_next_6 (by decide) ?_
  refine lv_istore_n (lv' := [(1, .int 0), (0, .ref sw)]) hx hb dX8_next_7 rfl hl (by decide) rfl (fun ls hl => ?_)
  refine lv_iload_n hx hb dX8_next_8 rfl (lv_at hl 0 rfl) ?_
  refine lv_sipush (v := 4096) hx hb dX8_next_9 (by decide) ?_
  refine lv_icmp_ge (tgt := 103) hx hb dX8_next_12 (by decide) (fun cc => absurd cc (by decide)) (fun _ => ?_)
  refine lv_aload_n hx hb dX8_next_15 rfl (lv_at hl 1 rfl) ?_
  refine va_get (D := (dC, dI)) (ci := 8) (v := .int 0) (C := RX8) (T := TX8) (N := 9) hx hb hts hin8 hown hK hP 0 rfl rfl 6 (by decide) (ho (.fieldLink RX8 25 "NearEnough$Shown" "walking" "Z") (List.mem_of_getElem? (i := 1) rfl)) (fun _ h9 => h9) rfl dX8_next_16 ?_
  refine lv_if_eq (tgt := 36) hx hb dX8_next_19 (by decide) (fun _ => ?_) (fun cc => absurd (by decide) cc)
  refine lv_iconst (v := 0) hx hb dX8_next_36 (by decide) ?_
  refine lv_istore_n (lv' := [(2, .int 0), (1, .int 0), (0, .ref sw)]) hx hb dX8_next_37 rfl hl (by decide) rfl (fun ls hl => ?_)
  refine lv_aload_n hx hb dX8_next_38 rfl (lv_at hl 2 rfl) ?_
  refine lv_iconst (v := 1) hx hb dX8_next_39 (by decide) ?_
  refine va_put (D := (dC, dI)) (ci := 8) (v := .int 1) (ty := tyX8 6) (C := RX8) (T := TX8) (N := 9) hx hb hts hin8 tyX8 tyX8_ok nmX8 hown hK hP hD hS 0 rfl rfl 6 (by decide) (ho (.fieldLink RX8 25 "NearEnough$Shown" "walking" "Z") (List.mem_of_getElem? (i := 1) rfl)) (fun _ h9 => h9) rfl (by decide +kernel) rfl rfl (Nat.le_of_ble_eq_true rfl) dX8_next_40 (fun H locs hP hD hS => ?_)
  have hP : va_P (dC, dI) vwCl [(sw, .inr (8, [.ref td, .ref ch, .ref w1, .ref w2, .long 0, .long 0, .int 1, .int wl, .int 12])), (td, .inr (3, [.ref r1, .ref r2, .ref r3, .ref r4, .ref r5, .int 0, .int 0, .int 0]))] H := hP
  have hD : va_D A [(sw, .inr (8, [.ref td, .ref ch, .ref w1, .ref w2, .long 0, .long 0, .int 1, .int wl, .int 12])), (td, .inr (3, [.ref r1, .ref r2, .ref r3, .ref r4, .ref r5, .int 0, .int 0, .int 0]))] := hD
  refine lv_iload_n hx hb dX8_next_43 rfl (lv_at hl 0 rfl) ?_
  refine lv_iconst (v := (-1)) hx hb dX8_next_44 (by decide) ?_
  refine lv_icmp_ne (tgt := 50) hx hb dX8_next_45 (by decide) (fun _ => ?_) (fun cc => absurd cc (by decide))
  refine lv_aload_n hx hb dX8_next_50 rfl (lv_at hl 2 rfl) ?_
  refine lv_aload_n hx hb dX8_next_51 rfl (lv_at hl 2 rfl) ?_
  refine va_get (D := (dC, dI)) (ci := 8) (v := .int 12) (C := RX8) (T := TX8) (N := 9) hx hb hts hin8 hown hK hP 0 rfl rfl 8 (by decide) (ho (.fieldLink RX8 33 "NearEnough$Shown" "stale" "I") (List.mem_of_getElem? (i := 0) rfl)) (fun _ h9 => h9) rfl dX8_next_52 ?_
  refine lv_iload_n hx hb dX8_next_55 rfl (lv_at hl 0 rfl) ?_
  refine va_mmin hx hb (hml.trans hl.1.symm) hown (ho (.methodLink RX8 54 Lib.Math.min.name) (List.mem_of_getElem? (i := 2) rfl)) (ho (.static Lib.Math.min.name) (List.mem_of_getElem? (i := 3) rfl)) (ho (.initialized "java/lang/Math") (List.mem_of_getElem? (i := 4) rfl)) (ho (.code Lib.Math.min.name Lib.Math.min.code 2 (some .int)) (List.mem_of_getElem? (i := 5) rfl)) (Nat.le_of_ble_eq_true rfl) (Nat.le_of_ble_eq_true rfl) (Nat.le_of_ble_eq_true rfl) (Nat.le_of_ble_eq_true rfl) dX8_next_56 ?_
  refine zi (v := 0) (by decide) ?_
  refine va_put (D := (dC, dI)) (ci := 8) (v := .int 0) (ty := tyX8 8) (C := RX8) (T := TX8) (N := 9) hx hb hts hin8 tyX8 tyX8_ok nmX8 hown hK hP hD hS 0 rfl rfl 8 (by decide) (ho (.fieldLink RX8 33 "NearEnough$Shown" "stale" "I") (List.mem_of_getElem? (i := 0) rfl)) (fun _ h9 => h9) rfl (by decide +kernel) rfl rfl (Nat.le_of_ble_eq_true rfl) dX8_next_59 (fun H locs hP hD hS => ?_)
  have hP : va_P (dC, dI) vwCl [(sw, .inr (8, [.ref td, .ref ch, .ref w1, .ref w2, .long 0, .long 0, .int 1, .int wl, .int 0])), (td, .inr (3, [.ref r1, .ref r2, .ref r3, .ref r4, .ref r5, .int 0, .int 0, .int 0]))] H := hP
  have hD : va_D A [(sw, .inr (8, [.ref td, .ref ch, .ref w1, .ref w2, .long 0, .long 0, .int 1, .int wl, .int 0])), (td, .inr (3, [.ref r1, .ref r2, .ref r3, .ref r4, .ref r5, .int 0, .int 0, .int 0]))] := hD
  refine lv_aload_n hx hb dX8_next_62 rfl (lv_at hl 2 rfl) ?_
  refine lv_iload_n hx hb dX8_next_63 rfl (lv_at hl 0 rfl) ?_
  have hPc := hP.sub (ws' := [(sw, .inr (8, [.ref td, .ref ch, .ref w1, .ref w2, .long 0, .long 0, .int 1, .int wl, .int 0])), (td, .inr (3, [.ref r1, .ref r2, .ref r3, .ref r4, .ref r5, .int 0, .int 0, .int 0]))]) [0, 1] rfl
  have hDc := hD.sub (ws' := [(sw, .inr (8, [.ref td, .ref ch, .ref w1, .ref w2, .long 0, .long 0, .int 1, .int wl, .int 0])), (td, .inr (3, [.ref r1, .ref r2, .ref r3, .ref r4, .ref r5, .int 0, .int 0, .int 0]))]) [0, 1] (by decide) rfl
  have hKc := hK.sub (tys' := []) [] rfl
  refine zz_i (wr := []) (va_runV (As := [.int 0]) (rest := []) ⟨hx, hb, hml, hown, hts⟩ (c_show l dC dI sw ch w1 w2 td r1 r2 r3 r4 r5 1 wl 0 H.size) (cwV 1 hts gd_c_next1_60_c_show rfl rfl rfl (by decide +kernel) ⟨Nat.le_of_ble_eq_true rfl, Nat.le_of_ble_eq_true rfl⟩) (preV hPc hKc hDc hE (ci := 8) (q0 := 0) rfl rfl) rfl rfl hl.1 rfl (lv_room (Nat.le_of_ble_eq_true rfl)) dX8_next_64 ⟨Nat.le_of_ble_eq_true rfl, Nat.le_of_ble_eq_true rfl⟩) hK hP hD hS hA [0, 1] [] rfl rfl (by decide) (by decide) (fun u H locs hK hP hD hS => ?_)
  have hP : va_P (dC, dI) vwCl [(sw, .inr (8, [.ref td, .ref ch, .ref w1, .ref w2, .long 0, .long 0, .int 1, .int wl, .int 0])), (td, .inr (3, [.ref r1, .ref r2, .ref r3, .ref r4, .ref r5, .int 0, .int 0, .int 0]))] H := hP
  have hD : va_D A [(sw, .inr (8, [.ref td, .ref ch, .ref w1, .ref w2, .long 0, .long 0, .int 1, .int wl, .int 0])), (td, .inr (3, [.ref r1, .ref r2, .ref r3, .ref r4, .ref r5, .int 0, .int 0, .int 0]))] := hD
  have hK : va_K (dC, dI) vwCl [] s := hK
  refine W.widen (k := 0) (n := 0) (Nat.le_of_ble_eq_true rfl) (Nat.le_of_ble_eq_true rfl) ?_
  refine lv_istore_n (lv' := [(3, .int (-1)), (2, .int 0), (1, .int 0), (0, .ref sw)]) hx hb dX8_next_67 rfl hl (by decide) rfl (fun ls hl => ?_)
  refine lv_aload_n hx hb dX8_next_68 rfl (lv_at hl 3 rfl) ?_
  refine lv_iload_n hx hb dX8_next_69 rfl (lv_at hl 0 rfl) ?_
  refine lv_iconst (v := (-1)) hx hb dX8_next_70 (by decide) ?_
  refine lv_icmp_ne (tgt := 86) hx hb dX8_next_71 (by decide) (fun cc => absurd cc (by decide)) (fun _ => ?_)
  refine lv_aload_n hx hb dX8_next_74 rfl (lv_at hl 3 rfl) ?_
  refine va_get (D := (dC, dI)) (ci := 8) (v := .ref td) (C := RX8) (T := TX8) (N := 9) hx hb hts hin8 hown hK hP 0 rfl rfl 0 (by decide) (ho (.fieldLink RX8 36 "NearEnough$Shown" "told" "LNearEnough$Program;") (List.mem_of_getElem? (i := 6) rfl)) (fun _ h9 => h9) rfl dX8_next_75 ?_
  refine va_get (D := (dC, dI)) (ci := 3) (v := .int 0) (C := RX3) (T := TX3) (N := 8) hx hb hts hin3 hown hK hP 1 rfl rfl 6 (by decide) (ho (.fieldLink RX8 63 "NearEnough$Program" "stepCount" "I") (List.mem_of_getElem? (i := 7) rfl)) (fun _ h9 => h9) rfl dX8_next_78 ?_
  refine lv_iconst (v := 1) hx hb dX8_next_81 (by decide) ?_
  refine lv_isub hx hb dX8_next_82 ?_
  refine zi (v := (-1)) (by decide) ?_
  refine lv_goto (tgt := 87) hx hb dX8_next_83 (by decide) ?_
  refine va_put (D := (dC, dI)) (ci := 8) (v := .int (-1)) (ty := tyX8 7) (C := RX8) (T := TX8) (N := 9) hx hb hts hin8 tyX8 tyX8_ok nmX8 hown hK hP hD hS 0 rfl rfl 7 (by decide) (ho (.fieldLink RX8 29 "NearEnough$Shown" "last" "I") (List.mem_of_getElem? (i := 8) rfl)) (fun _ h9 => h9) rfl (by decide +kernel) rfl rfl (Nat.le_of_ble_eq_true rfl) dX8_next_87 (fun H locs hP hD hS => ?_)
  have hP : va_P (dC, dI) vwCl [(sw, .inr (8, [.ref td, .ref ch, .ref w1, .ref w2, .long 0, .long 0, .int 1, .int (-1), .int 0])), (td, .inr (3, [.ref r1, .ref r2, .ref r3, .ref r4, .ref r5, .int 0, .int 0, .int 0]))] H := hP
  have hD : va_D A [(sw, .inr (8, [.ref td, .ref ch, .ref w1, .ref w2, .long 0, .long 0, .int 1, .int (-1), .int 0])), (td, .inr (3, [.ref r1, .ref r2, .ref r3, .ref r4, .ref r5, .int 0, .int 0, .int 0]))] := hD
  refine lv_iload_n hx hb dX8_next_90 rfl (lv_at hl 0 rfl) ?_
  refine lv_iconst (v := (-1)) hx hb dX8_next_91 (by decide) ?_
  refine lv_icmp_ne (tgt := 97) hx hb dX8_next_92 (by decide) (fun cc => absurd cc (by decide)) (fun _ => ?_)
  refine lv_iconst (v := 1) hx hb dX8_next_95 (by decide) ?_
  refine W.widen (k := 0) (n := 0) (Nat.le_of_ble_eq_true rfl) (Nat.le_of_ble_eq_true rfl) ?_
  exact W.zret (v := 1) hx hb hr rfl (fun t ht hW => ⟨⟨1, (), rfl, rfl, wEn_of (hP.sub [0, 1] rfl) (hK.sub [] rfl) (hD.sub [0, 1] (by decide) rfl) ht hW⟩, hS.F ht⟩) hS.2.2 dX8_next_96
def ow_c_next2 : List Cond := [.fieldLink RX8 33 "NearEnough$Shown" "stale" "I", .fieldLink RX8 25 "NearEnough$Shown" "walking" "Z", .fieldLink RX8 40 "NearEnough$Shown" "changes" "LNearEnough$Changes;", .fieldLink RX8 29 "NearEnough$Shown" "last" "I"]
def vs_c_next2 : List Cond := .code yX8_next cX8_next 4 (some .boolean) :: (ow_c_next2 ++ (([.methodLink RX8 50 yX0_advance, .instanceMethod yX0_advance, .selects RX0 yX0_advance yX0_advance, .initialized RX0] : List Cond) ++ (vs_c_advance ++ (wsX80))))
theorem vg_c_next2 : vs_c_next2.all goodWord = true := by decide +kernel
theorem gd_c_next2_50_c_advance : GoodIn vs_c_next2 (wsV RX8 50 RX0 yX0_advance vs_c_advance) := goodIn_app (goodIn_sub (fun w h => (List.mem_cons_of_mem _ (List.mem_append_right _ (List.mem_append_left _ h)))) (by decide +kernel)) (goodIn_sub (fun w h => (List.mem_cons_of_mem _ (List.mem_append_right _ (List.mem_append_right _ (List.mem_append_left _ h))))) vg_c_advance)
set_option maxHeartbeats 4000000 in
set_option maxRecDepth 100000 in
theorem c_next2 (l : Launch) (dC : Nat → ClassId) (dI : Nat → Nat → Nat) (sw : Nat) (ch : Nat) (w1 : Nat) (w2 : Nat) (td : Nat) (a1 : Nat) (a2 : Nat) (a3 : Nat) (a4 : Nat) (a5 : Nat) (wt : Int32) (bt : Int32) (sz : Nat) : Met l yX8_next vs_c_next2 ({ frames := 1, cells := 0, slots := 0, locals := 24 }) (va_Pc [.ref sw] (wSt dC dI [(sw, .inr (8, [.ref td, .ref ch, .ref w1, .ref w2, .long 0, .long 0, .int 1, .int (-1), .int wt])), (ch, .inr (0, [.ref a1, .ref a2, .ref a3, .ref a4, .ref a5, .int 0, .int bt]))] [] sz)) (va_Qi (fun (r : Int32) (_ : Unit) => r = 0) (fun (u : Unit) => wEn dC dI (va_A [(sw, .inr (8, [.ref td, .ref ch, .ref w1, .ref w2, .long 0, .long 0, .int 1, .int (-1), .int wt])), (ch, .inr (0, [.ref a1, .ref a2, .ref a3, .ref a4, .ref a5, .int 0, .int bt]))] sz) [(sw, .inr (8, [.ref td, .ref ch, .ref w1, .ref w2, .long 0, .long 0, .int 1, .int (-1), .int 12])), (ch, .inr (0, [.ref a1, .ref a2, .ref a3, .ref a4, .ref a5, .int 0, .int bt]))] []) (va_A [(sw, .inr (8, [.ref td, .ref ch, .ref w1, .ref w2, .long 0, .long 0, .int 1, .int (-1), .int wt])), (ch, .inr (0, [.ref a1, .ref a2, .ref a3, .ref a4, .ref a5, .int 0, .int bt]))] sz)) 0 0 (va_A [(sw, .inr (8, [.ref td, .ref ch, .ref w1, .ref w2, .long 0, .long 0, .int 1, .int (-1), .int wt])), (ch, .inr (0, [.ref a1, .ref a2, .ref a3, .ref a4, .ref a5, .int 0, .int bt]))] sz) := by
  refine Met.ofW (cc := cX8_next) (maxL := 4) (ret := (some .boolean)) (by decide) rfl ?_
  intro p e s m args below meth c s₁ B hml hv
  obtain ⟨rfl, hsz, hP, hK, hD0, hE⟩ := hv
  have hx := B.exec
  have hb := B.bytes
  have hr := B.returns
  have hts := atoms_spec (ws := vs_c_next2) B.pre
  have hown : s.vm.findClass RX8 = some m.cls := findClass_of_methodNamed B.named
  have hlocks := B.notSynchronized
  subst hsz
  have hD := hD0.self (sz := s.heap.size)
  generalize hAe : va_A [(sw, .inr (8, [.ref td, .ref ch, .ref w1, .ref w2, .long 0, .long 0, .int 1, .int (-1), .int wt])), (ch, .inr (0, [.ref a1, .ref a2, .ref a3, .ref a4, .ref a5, .int 0, .int bt]))] s.heap.size = A at hD ⊢
  have hA : ∀ q : Nat, s.heap.size ≤ q → A q := fun q h => by rw [← hAe]; exact Or.inr h
  have hl := lv_entry ([.ref sw]) (n := 4) (Nat.le_of_ble_eq_true rfl)
  rw [lg_entry_eq]
  generalize (lg_sl ([.ref sw]) ++ List.replicate (4 - (lg_sl ([.ref sw])).length) Slot.unset).toArray = ls at hl ⊢
  have hl : lv_has ls 4 [(0, .ref sw)] := hl
  refine zH (A := A) (ws := [(sw, .inr (8, [.ref td, .ref ch, .ref w1, .ref w2, .long 0, .long 0, .int 1, .int (-1), .int wt])), (ch, .inr (0, [.ref a1, .ref a2, .ref a3, .ref a4, .ref a5, .int 0, .int bt]))]) (fun H hP hS => ?_) hP
  have ho := fun w (h : w ∈ ow_c_next2) => hts w (List.mem_cons_of_mem _ (List.mem_append_left _ h))
  have hin8 : ∀ w ∈ u_ws RX8 TX8 9, w ∈ vs_c_next2 := fun w h => (List.mem_cons_of_mem _ (List.mem_append_right _ (List.mem_append_right _ (List.mem_append_right _ h))))
  refine lv_aload_n hx hb dX8_next_0 rfl (lv_at hl 0 rfl) ?_
  refine lv_bipush (v := 12) hx hb dX8_next_1 (by decide) ?_
  refine va_put (D := (dC, dI)) (ci := 8) (v := .int 12) (ty := tyX8 8) (C := RX8) (T := TX8) (N := 9) hx hb hts hin8 tyX8 tyX8_ok nmX8 hown hK hP hD hS 0 rfl rfl 8 (by decide) (ho (.fieldLink RX8 33 "NearEnough$Shown" "stale" "I") (List.mem_of_getElem? (i := 0) rfl)) (fun _ h9 => h9) rfl (by decide +kernel) rfl rfl (Nat.le_of_ble_eq_true rfl) dX8_next_3 (fun H locs hP hD hS => ?_)
  have hP : va_P (dC, dI) vwCl [(sw, .inr (8, [.ref td, .ref ch, .ref w1, .ref w2, .long 0, .long 0, .int 1, .int (-1), .int 12])), (ch, .inr (0, [.ref a1, .ref a2, .ref a3, .ref a4, .ref a5, .int 0, .int bt]))] H := hP
  have hD : va_D A [(sw, .inr (8, [.ref td, .ref ch, .ref w1, .ref w2, .long 0, .long 0, .int 1, .int (-1), .int 12])), (ch, .inr (0, [.ref a1, .ref a2, .ref a3, .ref a4, .ref a5, .int 0, .int bt]))] := hD
  refine lv_iconst (v := 0) hx hb dX8_next_6 (by decide) ?_
  refine lv_istore_n (lv' := [(1, .int 0), (0, .ref sw)]) hx hb dX8_next_7 rfl hl (by decide) rfl (fun ls hl => ?_)
  refine lv_iload_n hx hb dX8_next_8 rfl (lv_at hl 0 rfl) ?_
  refine lv_sipush (v := 4096) hx hb dX8_next_9 (by decide) ?_
  refine lv_icmp_ge (tgt := 103) hx hb dX8_next_12 (by decide) (fun cc => absurd cc (by decide)) (fun _ => ?_)
  refine lv_aload_n hx hb dX8_next_15 rfl (lv_at hl 1 rfl) ?_
  refine va_get (D := (dC, dI)) (ci := 8) (v := .int 1) (C := RX8) (T := TX8) (N := 9) hx hb hts hin8 hown hK hP 0 rfl rfl 6 (by decide) (ho (.fieldLink RX8 25 "NearEnough$Shown" "walking" "Z") (List.mem_of_getElem? (i := 1) rfl)) (fun _ h9 => h9) rfl dX8_next_16 ?_
  refine lv_if_eq (tgt := 36) hx hb dX8_next_19 (by decide) (fun cc => absurd cc (by decide)) (fun _ => ?_)
  refine lv_aload_n hx hb dX8_next_22 rfl (lv_at hl 1 rfl) ?_
  refine va_get (D := (dC, dI)) (ci := 8) (v := .ref ch) (C := RX8) (T := TX8) (N := 9) hx hb hts hin8 hown hK hP 0 rfl rfl 1 (by decide) (ho (.fieldLink RX8 40 "NearEnough$Shown" "changes" "LNearEnough$Changes;") (List.mem_of_getElem? (i := 2) rfl)) (fun _ h9 => h9) rfl dX8_next_23 ?_
  refine lv_aload_n hx hb dX8_next_26 rfl (lv_at hl 1 rfl) ?_
  refine va_get (D := (dC, dI)) (ci := 8) (v := .int (-1)) (C := RX8) (T := TX8) (N := 9) hx hb hts hin8 hown hK hP 0 rfl rfl 7 (by decide) (ho (.fieldLink RX8 29 "NearEnough$Shown" "last" "I") (List.mem_of_getElem? (i := 3) rfl)) (fun _ h9 => h9) rfl dX8_next_27 ?_
  have hPc := hP.sub (ws' := [(ch, .inr (0, [.ref a1, .ref a2, .ref a3, .ref a4, .ref a5, .int 0, .int bt]))]) [1] rfl
  have hDc := hD.sub (ws' := [(ch, .inr (0, [.ref a1, .ref a2, .ref a3, .ref a4, .ref a5, .int 0, .int bt]))]) [1] (by decide) rfl
  have hKc := hK.sub (tys' := []) [] rfl
  refine zz_i (wr := [(sw, .inr (8, [.ref td, .ref ch, .ref w1, .ref w2, .long 0, .long 0, .int 1, .int (-1), .int 12]))]) (va_runV (As := [.int (-1)]) (rest := []) ⟨hx, hb, hml, hown, hts⟩ (c_advance l dC dI ch a1 a2 a3 a4 a5 bt H.size) (cwV 1 hts gd_c_next2_50_c_advance rfl rfl rfl (by decide +kernel) ⟨Nat.le_of_ble_eq_true rfl, Nat.le_of_ble_eq_true rfl⟩) (preV hPc hKc hDc hE (ci := 0) (q0 := 0) rfl rfl) rfl rfl hl.1 rfl (lv_room (Nat.le_of_ble_eq_true rfl)) dX8_next_30 ⟨Nat.le_of_ble_eq_true rfl, Nat.le_of_ble_eq_true rfl⟩) hK hP hD hS hA [1] [0] rfl rfl (by decide) (by decide) (fun u H locs hK hP hD hS => ?_)
  have hP : va_P (dC, dI) vwCl [(sw, .inr (8, [.ref td, .ref ch, .ref w1, .ref w2, .long 0, .long 0, .int 1, .int (-1), .int 12])), (ch, .inr (0, [.ref a1, .ref a2, .ref a3, .ref a4, .ref a5, .int 0, .int bt]))] H := hP
  have hD : va_D A [(sw, .inr (8, [.ref td, .ref ch, .ref w1, .ref w2, .long 0, .long 0, .int 1, .int (-1), .int 12])), (ch, .inr (0, [.ref a1, .ref a2, .ref a3, .ref a4, .ref a5, .int 0, .int bt]))] := hD
  have hK : va_K (dC, dI) vwCl [] s := hK
  refine W.widen (k := 0) (n := 0) (Nat.le_of_ble_eq_true rfl) (Nat.le_of_ble_eq_true rfl) ?_
  refine lv_goto (tgt := 37) hx hb dX8_next_33 (by decide) ?_
  refine lv_istore_n (lv' := [(2, .int (-1)), (1, .int 0), (0, .ref sw)]) hx hb dX8_next_37 rfl hl (by decide) rfl (fun ls hl => ?_)
  refine lv_aload_n hx hb dX8_next_38 rfl (lv_at hl 2 rfl) ?_
  refine lv_iconst (v := 1) hx hb dX8_next_39 (by decide) ?_
  refine va_put (D := (dC, dI)) (ci := 8) (v := .int 1) (ty := tyX8 6) (C := RX8) (T := TX8) (N := 9) hx hb hts hin8 tyX8 tyX8_ok nmX8 hown hK hP hD hS 0 rfl rfl 6 (by decide) (ho (.fieldLink RX8 25 "NearEnough$Shown" "walking" "Z") (List.mem_of_getElem? (i := 1) rfl)) (fun _ h9 => h9) rfl (by decide +kernel) rfl rfl (Nat.le_of_ble_eq_true rfl) dX8_next_40 (fun H locs hP hD hS => ?_)
  have hP : va_P (dC, dI) vwCl [(sw, .inr (8, [.ref td, .ref ch, .ref w1, .ref w2, .long 0, .long 0, .int 1, .int (-1), .int 12])), (ch, .inr (0, [.ref a1, .ref a2, .ref a3, .ref a4, .ref a5, .int 0, .int bt]))] H := hP
  have hD : va_D A [(sw, .inr (8, [.ref td, .ref ch, .ref w1, .ref w2, .long 0, .long 0, .int 1, .int (-1), .int 12])), (ch, .inr (0, [.ref a1, .ref a2, .ref a3, .ref a4, .ref a5, .int 0, .int bt]))] := hD
  refine lv_iload_n hx hb dX8_next_43 rfl (lv_at hl 0 rfl) ?_
  refine lv_iconst (v := (-1)) hx hb dX8_next_44 (by decide) ?_
  refine lv_icmp_ne (tgt := 50) hx hb dX8_next_45 (by decide) (fun cc => absurd cc (by decide)) (fun _ => ?_)
  refine lv_iconst (v := 0) hx hb dX8_next_48 (by decide) ?_
  refine W.widen (k := 0) (n := 0) (Nat.le_of_ble_eq_true rfl) (Nat.le_of_ble_eq_true rfl) ?_
  exact W.zret (v := 0) hx hb hr rfl (fun t ht hW => ⟨⟨0, (), rfl, rfl, wEn_of (hP.sub [0, 1] rfl) (hK.sub [] rfl) (hD.sub [0, 1] (by decide) rfl) ht hW⟩, hS.F ht⟩) hS.2.2 dX8_next_49
def ow_c_bitCount0 : List Cond := [.constant RJ6 265 (1431655765), .constant RJ6 266 (858993459), .constant RJ6 267 (252645135)]
def vs_c_bitCount0 : List Cond := .code yJ6_bitCount_0f7a4 cJ6_bitCount_0f7a4 1 (some .int) :: (ow_c_bitCount0)
theorem vg_c_bitCount0 : vs_c_bitCount0.all goodWord = true := by decide +kernel
set_option maxHeartbeats 4000000 in
set_option maxRecDepth 100000 in
theorem c_bitCount0 (l : Launch) (dC : Nat → ClassId) (dI : Nat → Nat → Nat) (sz : Nat) : Met l yJ6_bitCount_0f7a4 vs_c_bitCount0 ({ frames := 0, cells := 0, slots := 0, locals := 0 }) (va_Pc [.int 0] (wSt dC dI [] [] sz)) (va_Qi (fun (r : Int32) (_ : Unit) => r = 0) (fun (u : Unit) => wEn dC dI (va_A [] sz) [] []) (va_A [] sz)) 0 0 (va_A [] sz) := by
  refine Met.ofW (cc := cJ6_bitCount_0f7a4) (maxL := 1) (ret := (some .int)) (by decide) rfl ?_
  intro p e s m args below meth c s₁ B hml hv
  obtain ⟨rfl, hsz, hP, hK, hD0, hE⟩ := hv
  have hx := B.exec
  have hb := B.bytes
  have hr := B.returns
  have hts := atoms_spec (ws := vs_c_bitCount0) B.pre
  have hown : s.vm.findClass RJ6 = some m.cls := findClass_of_methodNamed B.named
  have hlocks := B.notSynchronized
  subst hsz
  have hD := hD0.self (sz := s.heap.size)
  generalize hAe : va_A [] s.heap.size = A at hD ⊢
  have hA : ∀ q : Nat, s.heap.size ≤ q → A q := fun q h => by rw [← hAe]; exact Or.inr h
  have hl := lv_entry ([.int 0]) (n := 1) (Nat.le_of_ble_eq_true rfl)
  rw [lg_entry_eq]
  generalize (lg_sl ([.int 0]) ++ List.replicate (1 - (lg_sl ([.int 0])).length) Slot.unset).toArray = ls at hl ⊢
  have hl : lv_has ls 1 [(0, .int 0)] := hl
  refine zH (A := A) (ws := []) (fun H hP hS => ?_) hP
  have ho := fun w (h : w ∈ ow_c_bitCount0) => hts w (List.mem_cons_of_mem _ h)
  refine lv_iload_n hx hb dJ6_bitCount_0f7a4_0 rfl (lv_at hl 0 rfl) ?_
  refine lv_iload_n hx hb dJ6_bitCount_0f7a4_1 rfl (lv_at hl 0 rfl) ?_
  refine lv_iconst (v := 1) hx hb dJ6_bitCount_0f7a4_2 (by decide) ?_
  refine lv_iushr (v := 0) hx hb dJ6_bitCount_0f7a4_3 (by decide) ?_
  refine lv_ldcw (v := (1431655765)) hx hb hown (ho (.constant RJ6 265 (1431655765)) (List.mem_of_getElem? (i := 0) rfl)) dJ6_bitCount_0f7a4_4 ?_
  refine lv_iand hx hb dJ6_bitCount_0f7a4_7 ?_
  refine zi (v := 0) (by decide) ?_
  refine lv_isub hx hb dJ6_bitCount_0f7a4_8 ?_
  refine zi (v := 0) (by decide) ?_
  refine lv_istore_n (lv' := [(0, .int 0)]) hx hb dJ6_bitCount_0f7a4_9 rfl hl (by decide) rfl (fun ls hl => ?_)
  refine lv_iload_n hx hb dJ6_bitCount_0f7a4_10 rfl (lv_at hl 0 rfl) ?_
  refine lv_ldcw (v := (858993459)) hx hb hown (ho (.constant RJ6 266 (858993459)) (List.mem_of_getElem? (i := 1) rfl)) dJ6_bitCount_0f7a4_11 ?_
  refine lv_iand hx hb dJ6_bitCount_0f7a4_14 ?_
  refine zi (v := 0) (by decide) ?_
  refine lv_iload_n hx hb dJ6_bitCount_0f7a4_15 rfl (lv_at hl 0 rfl) ?_
  refine lv_iconst (v := 2) hx hb dJ6_bitCount_0f7a4_16 (by decide) ?_
  refine lv_iushr (v := 0) hx hb dJ6_bitCount_0f7a4_17 (by decide) ?_
  refine lv_ldcw (v := (858993459)) hx hb hown (ho (.constant RJ6 266 (858993459)) (List.mem_of_getElem? (i := 1) rfl)) dJ6_bitCount_0f7a4_18 ?_
  refine lv_iand hx hb dJ6_bitCount_0f7a4_21 ?_
  refine zi (v := 0) (by decide) ?_
  refine lv_iadd hx hb dJ6_bitCount_0f7a4_22 ?_
  refine zi (v := 0) (by decide) ?_
  refine lv_istore_n (lv' := [(0, .int 0)]) hx hb dJ6_bitCount_0f7a4_23 rfl hl (by decide) rfl (fun ls hl => ?_)
  refine lv_iload_n hx hb dJ6_bitCount_0f7a4_24 rfl (lv_at hl 0 rfl) ?_
  refine lv_iload_n hx hb dJ6_bitCount_0f7a4_25 rfl (lv_at hl 0 rfl) ?_
  refine lv_iconst (v := 4) hx hb dJ6_bitCount_0f7a4_26 (by decide) ?_
  refine lv_iushr (v := 0) hx hb dJ6_bitCount_0f7a4_27 (by decide) ?_
  refine lv_iadd hx hb dJ6_bitCount_0f7a4_28 ?_
  refine zi (v := 0) (by decide) ?_
  refine lv_ldcw (v := (252645135)) hx hb hown (ho (.constant RJ6 267 (252645135)) (List.mem_of_getElem? (i := 2) rfl)) dJ6_bitCount_0f7a4_29 ?_
  refine lv_iand hx hb dJ6_bitCount_0f7a4_32 ?_
  refine zi (v := 0) (by decide) ?_
  refine lv_istore_n (lv' := [(0, .int 0)]) hx hb dJ6_bitCount_0f7a4_33 rfl hl (by decide) rfl (fun ls hl => ?_)
  refine lv_iload_n hx hb dJ6_bitCount_0f7a4_34 rfl (lv_at hl 0 rfl) ?_
  refine lv_iload_n hx hb dJ6_bitCount_0f7a4_35 rfl (lv_at hl 0 rfl) ?_
  refine lv_bipush (v := 8) hx hb dJ6_bitCount_0f7a4_36 (by decide) ?_
  refine lv_iushr (v := 0) hx hb dJ6_bitCount_0f7a4_38 (by decide) ?_
  refine lv_iadd hx hb dJ6_bitCount_0f7a4_39 ?_
  refine zi (v := 0) (by decide) ?_
  refine lv_istore_n (lv' := [(0, .int 0)]) hx hb dJ6_bitCount_0f7a4_40 rfl hl (by decide) rfl (fun ls hl => ?_)
  refine lv_iload_n hx hb dJ6_bitCount_0f7a4_41 rfl (lv_at hl 0 rfl) ?_
  refine lv_iload_n hx hb dJ6_bitCount_0f7a4_42 rfl (lv_at hl 0 rfl) ?_
  refine lv_bipush (v := 16) hx hb dJ6_bitCount_0f7a4_43 (by decide) ?_
  refine lv_iushr (v := 0) hx hb dJ6_bitCount_0f7a4_45 (by decide) ?_
  refine lv_iadd hx hb dJ6_bitCount_0f7a4_46 ?_
  refine zi (v := 0) (by decide) ?_
  refine lv_istore_n (lv' := [(0, .int 0)]) hx hb dJ6_bitCount_0f7a4_47 rfl hl (by decide) rfl (fun ls hl => ?_)
  refine lv_iload_n hx hb dJ6_bitCount_0f7a4_48 rfl (lv_at hl 0 rfl) ?_
  refine lv_bipush (v := 63) hx hb dJ6_bitCount_0f7a4_49 (by decide) ?_
  refine lv_iand hx hb dJ6_bitCount_0f7a4_51 ?_
  refine zi (v := 0) (by decide) ?_
  refine W.widen (k := 0) (n := 0) (Nat.le_of_ble_eq_true rfl) (Nat.le_of_ble_eq_true rfl) ?_
  exact W.iret (v := 0) hx hb hr (fun t ht hW => ⟨⟨0, (), rfl, rfl, wEn_of (hP.sub [] rfl) (hK.sub [] rfl) (hD.sub [] (by decide) rfl) ht hW⟩, hS.F ht⟩) hS.2.2 dJ6_bitCount_0f7a4_52
def ow_c_isBetter0 : List Cond := []
def vs_c_isBetter0 : List Cond := .code yX11_isBetter cX11_isBetter 6 (some .boolean) :: (ow_c_isBetter0 ++ (([.methodLink RX11 321 yJ6_bitCount_0f7a4, .static yJ6_bitCount_0f7a4, .initialized yJ6_bitCount_0f7a4.cls] : List Cond) ++ (vs_c_bitCount0)))
theorem vg_c_isBetter0 : vs_c_isBetter0.all goodWord = true := by decide +kernel
theorem gd_c_isBetter0_321_c_bitCount0 : GoodIn vs_c_isBetter0 (va_wsS RX11 321 yJ6_bitCount_0f7a4 vs_c_bitCount0) := goodIn_app (goodIn_sub (fun w h => (List.mem_cons_of_mem _ (List.mem_append_right _ (List.mem_append_left _ h)))) (by decide +kernel)) (goodIn_sub (fun w h => (List.mem_cons_of_mem _ (List.mem_append_right _ (List.mem_append_right _ h)))) vg_c_bitCount0)
set_option maxHeartbeats 4000000 in
set_option maxRecDepth 100000 in
theorem c_isBetter0 (l : Launch) (dC : Nat → ClassId) (dI : Nat → Nat → Nat) (sz : Nat) : Met l yX11_isBetter vs_c_isBetter0 ({ frames := 1, cells := 0, slots := 0, locals := 20 }) (va_Pc [.int 0, .int 0, .int 0, .int 0] (wSt dC dI [] [] sz)) (va_Qi (fun (r : Int32) (_ : Unit) => r = 0) (fun (u : Unit) => wEn dC dI (va_A [] sz) [] []) (va_A [] sz)) 0 0 (va_A [] sz) := by
  refine Met.ofW (cc := cX11_isBetter) (maxL := 6) (ret := (some .boolean)) (by decide) rfl ?_
  intro p e s m args below meth c s₁ B hml hv
  obtain ⟨rfl, hsz, hP, hK, hD0, hE⟩ := hv
  have hx := B.exec
  have hb := B.bytes
  have hr := B.returns
  have hts := atoms_spec (ws := vs_c_isBetter0) B.pre
  have hown : s.vm.findClass RX11 = some m.cls := findClass_of_methodNamed B.named
  have hlocks := B.notSynchronized
  subst hsz
  have hD := hD0.self (sz := s.heap.size)
  generalize hAe : va_A [] s.heap.size = A at hD ⊢
  have hA : ∀ q : Nat, s.heap.size ≤ q → A q := fun q h => by rw [← hAe]; exact Or.inr h
  have hl := lv_entry ([.int 0, .int 0, .int 0, .int 0]) (n := 6) (Nat.le_of_ble_eq_true rfl)
  rw [lg_entry_eq]
  generalize (lg_sl ([.int 0, .int 0, .int 0, .int 0]) ++ List.replicate (6 - (lg_sl ([.int 0, .int 0, .int 0, .int 0])).length) Slot.unset).toArray = ls at hl ⊢
  have hl : lv_has ls 6 [(0, .int 0), (1, .int 0), (2, .int 0), (3, .int 0)] := hl
  refine zH (A := A) (ws := []) (fun H hP hS => ?_) hP
  have ho := fun w (h : w ∈ ow_c_isBetter0) => hts w (List.mem_cons_of_mem _ (List.mem_append_left _ h))
  refine lv_iload_n hx hb dX11_isBetter_0 rfl (lv_at hl 0 rfl) ?_
  refine lv_iload_n hx hb dX11_isBetter_1 rfl (lv_at hl 2 rfl) ?_
  refine lv_icmp_eq (tgt := 16) hx hb dX11_isBetter_2 (by decide) (fun _ => ?_) (fun cc => absurd (by decide) cc)
  refine lv_iload_n hx hb dX11_isBetter_16 rfl (lv_at hl 1 rfl) ?_
  have hPc := hP.sub (ws' := []) [] rfl
  have hDc := hD.sub (ws' := []) [] (by decide) rfl
  have hKc := hK.sub (tys' := []) [] rfl
  refine zz_i (wr := []) (va_runS (As := [.int 0]) (rest := []) ⟨hx, hb, hml, hown, hts⟩ (c_bitCount0 l dC dI H.size) (va_cwS 1 hts gd_c_isBetter0_321_c_bitCount0 rfl rfl rfl (by decide +kernel) ⟨Nat.le_of_ble_eq_true rfl, Nat.le_of_ble_eq_true rfl⟩) (preS hPc hKc hDc hE) rfl rfl hl.1 rfl (lv_room (Nat.le_of_ble_eq_true rfl)) dX11_isBetter_17 ⟨Nat.le_of_ble_eq_true rfl, Nat.le_of_ble_eq_true rfl⟩) hK hP hD hS hA [] [] rfl rfl (by decide) (by decide) (fun u H locs hK hP hD hS => ?_)
  have hP : va_P (dC, dI) vwCl [] H := hP
  have hD : va_D A [] := hD
  have hK : va_K (dC, dI) vwCl [] s := hK
  refine W.widen (k := 0) (n := 0) (Nat.le_of_ble_eq_true rfl) (Nat.le_of_ble_eq_true rfl) ?_
  refine lv_istore (lv' := [(4, .int 0), (0, .int 0), (1, .int 0), (2, .int 0), (3, .int 0)]) hx hb dX11_isBetter_20 hl (by decide) rfl (fun ls hl => ?_)
  refine lv_iload_n hx hb dX11_isBetter_22 rfl (lv_at hl 4 rfl) ?_
  have hPc := hP.sub (ws' := []) [] rfl
  have hDc := hD.sub (ws' := []) [] (by decide) rfl
  have hKc := hK.sub (tys' := []) [] rfl
  refine zz_i (wr := []) (va_runS (As := [.int 0]) (rest := []) ⟨hx, hb, hml, hown, hts⟩ (c_bitCount0 l dC dI H.size) (va_cwS 1 hts gd_c_isBetter0_321_c_bitCount0 rfl rfl rfl (by decide +kernel) ⟨Nat.le_of_ble_eq_true rfl, Nat.le_of_ble_eq_true rfl⟩) (preS hPc hKc hDc hE) rfl rfl hl.1 rfl (lv_room (Nat.le_of_ble_eq_true rfl)) dX11_isBetter_23 ⟨Nat.le_of_ble_eq_true rfl, Nat.le_of_ble_eq_true rfl⟩) hK hP hD hS hA [] [] rfl rfl (by decide) (by decide) (fun u H locs hK hP hD hS => ?_)
  have hP : va_P (dC, dI) vwCl [] H := hP
  have hD : va_D A [] := hD
  have hK : va_K (dC, dI) vwCl [] s := hK
  refine W.widen (k := 0) (n := 0) (Nat.le_of_ble_eq_true rfl) (Nat.le_of_ble_eq_true rfl) ?_
  refine lv_istore (lv' := [(5, .int 0), (4, .int 0), (0, .int 0), (1, .int 0), (2, .int 0), (3, .int 0)]) hx hb dX11_isBetter_26 hl (by decide) rfl (fun ls hl => ?_)
  refine lv_iload hx hb dX11_isBetter_28 (lv_at hl 1 rfl) ?_
  refine lv_iload hx hb dX11_isBetter_30 (lv_at hl 0 rfl) ?_
  refine lv_icmp_eq (tgt := 50) hx hb dX11_isBetter_32 (by decide) (fun _ => ?_) (fun cc => absurd (by decide) cc)
  refine lv_iload_n hx hb dX11_isBetter_50 rfl (lv_at hl 3 rfl) ?_
  refine lv_iload_n hx hb dX11_isBetter_51 rfl (lv_at hl 5 rfl) ?_
  refine lv_icmp_ge (tgt := 59) hx hb dX11_isBetter_52 (by decide) (fun _ => ?_) (fun cc => absurd (by decide) cc)
  refine lv_iconst (v := 0) hx hb dX11_isBetter_59 (by decide) ?_
  refine W.widen (k := 0) (n := 0) (Nat.le_of_ble_eq_true rfl) (Nat.le_of_ble_eq_true rfl) ?_
  exact W.zret (v := 0) hx hb hr rfl (fun t ht hW => ⟨⟨0, (), rfl, rfl, wEn_of (hP.sub [] rfl) (hK.sub [] rfl) (hD.sub [] (by decide) rfl) ht hW⟩, hS.F ht⟩) hS.2.2 dX11_isBetter_60
