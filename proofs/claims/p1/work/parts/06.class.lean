theorem dX11_forgetFront_0 : decode cX11_forgetFront 0 = .ok (.aload_n 0, 1) := by decide +kernel
theorem dX11_forgetFront_1 : decode cX11_forgetFront 1 = .ok (.getfield 82, 3) := by decide +kernel
theorem dX11_forgetFront_4 : decode cX11_forgetFront 4 = .ok (.ifnull 10, 3) := by decide +kernel
theorem dX11_forgetFront_14 : decode cX11_forgetFront 14 = .ok (.return_, 1) := by decide +kernel
theorem dX11_forgetPlan_0 : decode cX11_forgetPlan 0 = .ok (.aload_n 0, 1) := by decide +kernel
theorem dX11_forgetPlan_1 : decode cX11_forgetPlan 1 = .ok (.getfield 86, 3) := by decide +kernel
theorem dX11_forgetPlan_4 : decode cX11_forgetPlan 4 = .ok (.ifnull 10, 3) := by decide +kernel
theorem dX11_forgetPlan_14 : decode cX11_forgetPlan 14 = .ok (.return_, 1) := by decide +kernel
theorem dX11_lastStep_0 : decode cX11_lastStep 0 = .ok (.aload_n 0, 1) := by decide +kernel
theorem dX11_lastStep_1 : decode cX11_lastStep 1 = .ok (.getfield 26, 3) := by decide +kernel
theorem dX11_lastStep_4 : decode cX11_lastStep 4 = .ok (.getfield 123, 3) := by decide +kernel
theorem dX11_lastStep_7 : decode cX11_lastStep 7 = .ok (.iconst 1, 1) := by decide +kernel
theorem dX11_lastStep_8 : decode cX11_lastStep 8 = .ok (.isub, 1) := by decide +kernel
theorem dX11_lastStep_9 : decode cX11_lastStep 9 = .ok (.ireturn, 1) := by decide +kernel
theorem dX11_append_0 : decode cX11_append 0 = .ok (.bipush 24, 2) := by decide +kernel
theorem dX11_append_2 : decode cX11_append 2 = .ok (.istore_n 2, 1) := by decide +kernel
theorem dX11_append_3 : decode cX11_append 3 = .ok (.iload_n 2, 1) := by decide +kernel
theorem dX11_append_4 : decode cX11_append 4 = .ok (.ifCond .lt 42, 3) := by decide +kernel
theorem dX11_append_7 : decode cX11_append 7 = .ok (.aload_n 0, 1) := by decide +kernel
theorem dX11_append_8 : decode cX11_append 8 = .ok (.getfield 13, 3) := by decide +kernel
theorem dX11_append_11 : decode cX11_append 11 = .ok (.sipush 1000, 3) := by decide +kernel
theorem dX11_append_14 : decode cX11_append 14 = .ok (.if_icmp .ge 32, 3) := by decide +kernel
theorem dX11_append_17 : decode cX11_append 17 = .ok (.aload_n 0, 1) := by decide +kernel
theorem dX11_append_18 : decode cX11_append 18 = .ok (.getfield 9, 3) := by decide +kernel
theorem dX11_append_21 : decode cX11_append 21 = .ok (.aload_n 0, 1) := by decide +kernel
theorem dX11_append_22 : decode cX11_append 22 = .ok (.getfield 13, 3) := by decide +kernel
theorem dX11_append_25 : decode cX11_append 25 = .ok (.iload_n 1, 1) := by decide +kernel
theorem dX11_append_26 : decode cX11_append 26 = .ok (.iload_n 2, 1) := by decide +kernel
theorem dX11_append_27 : decode cX11_append 27 = .ok (.iushr, 1) := by decide +kernel
theorem dX11_append_28 : decode cX11_append 28 = .ok (.i2b, 1) := by decide +kernel
theorem dX11_append_29 : decode cX11_append 29 = .ok (.bastore, 1) := by decide +kernel
theorem dX11_append_30 : decode cX11_append 30 = .ok (.aload_n 0, 1) := by decide +kernel
theorem dX11_append_31 : decode cX11_append 31 = .ok (.dup, 1) := by decide +kernel
theorem dX11_append_32 : decode cX11_append 32 = .ok (.getfield 13, 3) := by decide +kernel
theorem dX11_append_35 : decode cX11_append 35 = .ok (.iconst 1, 1) := by decide +kernel
theorem dX11_append_36 : decode cX11_append 36 = .ok (.iadd, 1) := by decide +kernel
theorem dX11_append_37 : decode cX11_append 37 = .ok (.putfield 13, 3) := by decide +kernel
theorem dX11_append_40 : decode cX11_append 40 = .ok (.iinc 2 (-8), 3) := by decide +kernel
theorem dX11_append_43 : decode cX11_append 43 = .ok (.goto (-40), 3) := by decide +kernel
theorem dX11_append_46 : decode cX11_append 46 = .ok (.return_, 1) := by decide +kernel
theorem dX11_feed_0 : decode cX11_feed 0 = .ok (.aload_n 0, 1) := by decide +kernel
theorem dX11_feed_1 : decode cX11_feed 1 = .ok (.getfield 13, 3) := by decide +kernel
theorem dX11_feed_4 : decode cX11_feed 4 = .ok (.bipush 20, 2) := by decide +kernel
theorem dX11_feed_6 : decode cX11_feed 6 = .ok (.iadd, 1) := by decide +kernel
theorem dX11_feed_7 : decode cX11_feed 7 = .ok (.sipush 1000, 3) := by decide +kernel
theorem dX11_feed_10 : decode cX11_feed 10 = .ok (.if_icmp .le 5, 3) := by decide +kernel
theorem dX11_feed_15 : decode cX11_feed 15 = .ok (.aload_n 0, 1) := by decide +kernel
theorem dX11_feed_16 : decode cX11_feed 16 = .ok (.iload_n 1, 1) := by decide +kernel
theorem dX11_feed_17 : decode cX11_feed 17 = .ok (.invokevirtual 90, 3) := by decide +kernel
theorem dX11_feed_20 : decode cX11_feed 20 = .ok (.aload_n 0, 1) := by decide +kernel
theorem dX11_feed_21 : decode cX11_feed 21 = .ok (.iload_n 2, 1) := by decide +kernel
theorem dX11_feed_22 : decode cX11_feed 22 = .ok (.invokevirtual 90, 3) := by decide +kernel
theorem dX11_feed_25 : decode cX11_feed 25 = .ok (.aload_n 0, 1) := by decide +kernel
theorem dX11_feed_26 : decode cX11_feed 26 = .ok (.iload_n 3, 1) := by decide +kernel
theorem dX11_feed_27 : decode cX11_feed 27 = .ok (.invokevirtual 90, 3) := by decide +kernel
theorem dX11_feed_30 : decode cX11_feed 30 = .ok (.aload_n 0, 1) := by decide +kernel
theorem dX11_feed_31 : decode cX11_feed 31 = .ok (.iload 4, 2) := by decide +kernel
theorem dX11_feed_33 : decode cX11_feed 33 = .ok (.invokevirtual 90, 3) := by decide +kernel
theorem dX11_feed_36 : decode cX11_feed 36 = .ok (.aload_n 0, 1) := by decide +kernel
theorem dX11_feed_37 : decode cX11_feed 37 = .ok (.iload 5, 2) := by decide +kernel
theorem dX11_feed_39 : decode cX11_feed 39 = .ok (.invokevirtual 90, 3) := by decide +kernel
theorem dX11_feed_42 : decode cX11_feed 42 = .ok (.aload_n 0, 1) := by decide +kernel
theorem dX11_feed_43 : decode cX11_feed 43 = .ok (.getfield 13, 3) := by decide +kernel
theorem dX11_feed_46 : decode cX11_feed 46 = .ok (.ireturn, 1) := by decide +kernel
theorem dX11_end_0 : decode cX11_end 0 = .ok (.iload_n 1, 1) := by decide +kernel
theorem dX11_end_1 : decode cX11_end 1 = .ok (.ifCond .lt 11, 3) := by decide +kernel
theorem dX11_end_12 : decode cX11_end 12 = .ok (.iconst (-1), 1) := by decide +kernel
theorem dX11_end_13 : decode cX11_end 13 = .ok (.ireturn, 1) := by decide +kernel
theorem dX11_end_4 : decode cX11_end 4 = .ok (.iload_n 1, 1) := by decide +kernel
theorem dX11_end_5 : decode cX11_end 5 = .ok (.aload_n 0, 1) := by decide +kernel
theorem dX11_end_6 : decode cX11_end 6 = .ok (.getfield 13, 3) := by decide +kernel
theorem dX11_end_9 : decode cX11_end 9 = .ok (.if_icmp .le 5, 3) := by decide +kernel
theorem dX11_end_14 : decode cX11_end 14 = .ok (.aload_n 0, 1) := by decide +kernel
theorem dX11_end_15 : decode cX11_end 15 = .ok (.iload_n 1, 1) := by decide +kernel
theorem dX11_end_16 : decode cX11_end 16 = .ok (.putfield 13, 3) := by decide +kernel
theorem dX11_end_19 : decode cX11_end 19 = .ok (.iload_n 1, 1) := by decide +kernel
theorem dX11_end_20 : decode cX11_end 20 = .ok (.ireturn, 1) := by decide +kernel
theorem dX11_fault_0 : decode cX11_fault 0 = .ok (.iload_n 1, 1) := by decide +kernel
theorem dX11_fault_1 : decode cX11_fault 1 = .ok (.ifCond .ne 8, 3) := by decide +kernel
theorem dX11_fault_9 : decode cX11_fault 9 = .ok (.iload_n 1, 1) := by decide +kernel
theorem dX11_fault_10 : decode cX11_fault 10 = .ok (.iconst 1, 1) := by decide +kernel
theorem dX11_fault_11 : decode cX11_fault 11 = .ok (.if_icmp .ne 10, 3) := by decide +kernel
theorem dX11_fault_21 : decode cX11_fault 21 = .ok (.iconst (-1), 1) := by decide +kernel
theorem dX11_fault_22 : decode cX11_fault 22 = .ok (.ireturn, 1) := by decide +kernel
theorem dX11_fault_14 : decode cX11_fault 14 = .ok (.aload_n 0, 1) := by decide +kernel
theorem dX11_fault_15 : decode cX11_fault 15 = .ok (.getfield 20, 3) := by decide +kernel
theorem dX11_fault_18 : decode cX11_fault 18 = .ok (.goto 4, 3) := by decide +kernel
theorem dX11_fault_4 : decode cX11_fault 4 = .ok (.aload_n 0, 1) := by decide +kernel
theorem dX11_fault_5 : decode cX11_fault 5 = .ok (.getfield 17, 3) := by decide +kernel
theorem dX11_fault_8 : decode cX11_fault 8 = .ok (.ireturn, 1) := by decide +kernel
theorem dX11_span_0 : decode cX11_span 0 = .ok (.aload_n 0, 1) := by decide +kernel
theorem dX11_span_1 : decode cX11_span 1 = .ok (.getfield 26, 3) := by decide +kernel
theorem dX11_span_4 : decode cX11_span 4 = .ok (.iload_n 1, 1) := by decide +kernel
theorem dX11_span_5 : decode cX11_span 5 = .ok (.invokevirtual 134, 3) := by decide +kernel
theorem dX11_span_8 : decode cX11_span 8 = .ok (.ifCond .ne 5, 3) := by decide +kernel
theorem dX11_span_11 : decode cX11_span 11 = .ok (.iconst 0, 1) := by decide +kernel
theorem dX11_span_12 : decode cX11_span 12 = .ok (.ireturn, 1) := by decide +kernel
theorem dX11_sheet_0 : decode cX11_sheet 0 = .ok (.aload_n 0, 1) := by decide +kernel
theorem dX11_sheet_1 : decode cX11_sheet 1 = .ok (.getfield 33, 3) := by decide +kernel
theorem dX11_sheet_4 : decode cX11_sheet 4 = .ok (.getfield 111, 3) := by decide +kernel
theorem dX11_sheet_7 : decode cX11_sheet 7 = .ok (.bipush 40, 2) := by decide +kernel
theorem dX11_sheet_9 : decode cX11_sheet 9 = .ok (.if_icmp .lt 5, 3) := by decide +kernel
theorem dX11_sheet_14 : decode cX11_sheet 14 = .ok (.aload_n 0, 1) := by decide +kernel
theorem dX11_sheet_15 : decode cX11_sheet 15 = .ok (.getfield 33, 3) := by decide +kernel
theorem dX11_sheet_18 : decode cX11_sheet 18 = .ok (.getfield 111, 3) := by decide +kernel
theorem dX11_sheet_21 : decode cX11_sheet 21 = .ok (.istore_n 2, 1) := by decide +kernel
theorem dX11_sheet_22 : decode cX11_sheet 22 = .ok (.aload_n 0, 1) := by decide +kernel
theorem dX11_sheet_23 : decode cX11_sheet 23 = .ok (.getfield 33, 3) := by decide +kernel
theorem dX11_sheet_26 : decode cX11_sheet 26 = .ok (.getfield 151, 3) := by decide +kernel
theorem dX11_sheet_29 : decode cX11_sheet 29 = .ok (.iload_n 2, 1) := by decide +kernel
theorem dX11_sheet_30 : decode cX11_sheet 30 = .ok (.iload_n 1, 1) := by decide +kernel
theorem dX11_sheet_31 : decode cX11_sheet 31 = .ok (.bastore, 1) := by decide +kernel
theorem dX11_sheet_32 : decode cX11_sheet 32 = .ok (.aload_n 0, 1) := by decide +kernel
theorem dX11_sheet_33 : decode cX11_sheet 33 = .ok (.getfield 33, 3) := by decide +kernel
theorem dX11_sheet_36 : decode cX11_sheet 36 = .ok (.iload_n 2, 1) := by decide +kernel
theorem dX11_sheet_37 : decode cX11_sheet 37 = .ok (.iconst 0, 1) := by decide +kernel
theorem dX11_sheet_38 : decode cX11_sheet 38 = .ok (.aload_n 0, 1) := by decide +kernel
theorem dX11_sheet_39 : decode cX11_sheet 39 = .ok (.getfield 26, 3) := by decide +kernel
theorem dX11_sheet_42 : decode cX11_sheet 42 = .ok (.invokevirtual 155, 3) := by decide +kernel
theorem dX11_sheet_45 : decode cX11_sheet 45 = .ok (.aload_n 0, 1) := by decide +kernel
theorem dX11_sheet_46 : decode cX11_sheet 46 = .ok (.getfield 33, 3) := by decide +kernel
theorem dX11_sheet_49 : decode cX11_sheet 49 = .ok (.iload_n 2, 1) := by decide +kernel
theorem dX11_sheet_50 : decode cX11_sheet 50 = .ok (.iconst 1, 1) := by decide +kernel
theorem dX11_sheet_51 : decode cX11_sheet 51 = .ok (.iadd, 1) := by decide +kernel
theorem dX11_sheet_52 : decode cX11_sheet 52 = .ok (.putfield 111, 3) := by decide +kernel
theorem dX11_sheet_55 : decode cX11_sheet 55 = .ok (.aload_n 0, 1) := by decide +kernel
theorem dX11_sheet_56 : decode cX11_sheet 56 = .ok (.getfield 58, 3) := by decide +kernel
theorem dX11_sheet_59 : decode cX11_sheet 59 = .ok (.iload_n 2, 1) := by decide +kernel
theorem dX11_sheet_60 : decode cX11_sheet 60 = .ok (.aload_n 0, 1) := by decide +kernel
theorem dX11_sheet_61 : decode cX11_sheet 61 = .ok (.invokevirtual 159, 3) := by decide +kernel
theorem dX11_sheet_64 : decode cX11_sheet 64 = .ok (.invokevirtual 163, 3) := by decide +kernel
theorem dX11_sheet_67 : decode cX11_sheet 67 = .ok (.aload_n 0, 1) := by decide +kernel
theorem dX11_sheet_68 : decode cX11_sheet 68 = .ok (.invokevirtual 120, 3) := by decide +kernel
theorem dX11_sheet_71 : decode cX11_sheet 71 = .ok (.iload_n 2, 1) := by decide +kernel
theorem dX11_sheet_72 : decode cX11_sheet 72 = .ok (.ireturn, 1) := by decide +kernel
theorem dX11_put_0 : decode cX11_put 0 = .ok (.aload_n 0, 1) := by decide +kernel
theorem dX11_put_1 : decode cX11_put 1 = .ok (.getfield 33, 3) := by decide +kernel
theorem dX11_put_4 : decode cX11_put 4 = .ok (.iload_n 1, 1) := by decide +kernel
theorem dX11_put_5 : decode cX11_put 5 = .ok (.invokevirtual 167, 3) := by decide +kernel
theorem dX11_put_8 : decode cX11_put 8 = .ok (.ifCond .eq 18, 3) := by decide +kernel
theorem dX11_put_26 : decode cX11_put 26 = .ok (.iconst 0, 1) := by decide +kernel
theorem dX11_put_27 : decode cX11_put 27 = .ok (.ireturn, 1) := by decide +kernel
theorem dX11_change_0 : decode cX11_change 0 = .ok (.aload_n 0, 1) := by decide +kernel
theorem dX11_change_1 : decode cX11_change 1 = .ok (.getfield 26, 3) := by decide +kernel
theorem dX11_change_4 : decode cX11_change 4 = .ok (.iload_n 1, 1) := by decide +kernel
theorem dX11_change_5 : decode cX11_change 5 = .ok (.invokevirtual 134, 3) := by decide +kernel
theorem dX11_change_8 : decode cX11_change 8 = .ok (.ifCond .eq 16, 3) := by decide +kernel
theorem dX11_change_24 : decode cX11_change 24 = .ok (.iconst (-1), 1) := by decide +kernel
theorem dX11_change_25 : decode cX11_change 25 = .ok (.ireturn, 1) := by decide +kernel
theorem dX11_value_0 : decode cX11_value 0 = .ok (.aload_n 0, 1) := by decide +kernel
theorem dX11_value_1 : decode cX11_value 1 = .ok (.getfield 26, 3) := by decide +kernel
theorem dX11_value_4 : decode cX11_value 4 = .ok (.iload_n 1, 1) := by decide +kernel
theorem dX11_value_5 : decode cX11_value 5 = .ok (.invokevirtual 134, 3) := by decide +kernel
theorem dX11_value_8 : decode cX11_value 8 = .ok (.ifCond .eq 22, 3) := by decide +kernel
theorem dX11_value_30 : decode cX11_value 30 = .ok (.ldc2_w 212, 3) := by decide +kernel
theorem dX11_value_33 : decode cX11_value 33 = .ok (.lreturn, 1) := by decide +kernel
theorem dX11_error_0 : decode cX11_error 0 = .ok (.aload_n 0, 1) := by decide +kernel
theorem dX11_error_1 : decode cX11_error 1 = .ok (.getfield 26, 3) := by decide +kernel
theorem dX11_error_4 : decode cX11_error 4 = .ok (.iload_n 1, 1) := by decide +kernel
theorem dX11_error_5 : decode cX11_error 5 = .ok (.invokevirtual 134, 3) := by decide +kernel
theorem dX11_error_8 : decode cX11_error 8 = .ok (.ifCond .eq 11, 3) := by decide +kernel
theorem dX11_error_19 : decode cX11_error 19 = .ok (.ldc2_w 221, 3) := by decide +kernel
theorem dX11_error_22 : decode cX11_error 22 = .ok (.lreturn, 1) := by decide +kernel
theorem dX11_off_0 : decode cX11_off 0 = .ok (.aload_n 0, 1) := by decide +kernel
theorem dX11_off_1 : decode cX11_off 1 = .ok (.getfield 26, 3) := by decide +kernel
theorem dX11_off_4 : decode cX11_off 4 = .ok (.iload_n 1, 1) := by decide +kernel
theorem dX11_off_5 : decode cX11_off 5 = .ok (.invokevirtual 227, 3) := by decide +kernel
theorem dX11_off_8 : decode cX11_off 8 = .ok (.ifCond .eq 11, 3) := by decide +kernel
theorem dX11_off_19 : decode cX11_off 19 = .ok (.ldc2_w 212, 3) := by decide +kernel
theorem dX11_off_22 : decode cX11_off 22 = .ok (.lreturn, 1) := by decide +kernel
theorem dX11_barred_0 : decode cX11_barred 0 = .ok (.aload_n 0, 1) := by decide +kernel
theorem dX11_barred_1 : decode cX11_barred 1 = .ok (.getfield 40, 3) := by decide +kernel
theorem dX11_barred_4 : decode cX11_barred 4 = .ok (.iload_n 1, 1) := by decide +kernel
theorem dX11_barred_5 : decode cX11_barred 5 = .ok (.invokevirtual 202, 3) := by decide +kernel
theorem dX11_barred_8 : decode cX11_barred 8 = .ok (.ifCond .eq 14, 3) := by decide +kernel
theorem dX11_barred_22 : decode cX11_barred 22 = .ok (.bipush (-2), 2) := by decide +kernel
theorem dX11_barred_24 : decode cX11_barred 24 = .ok (.ireturn, 1) := by decide +kernel
theorem dX11_barred_11 : decode cX11_barred 11 = .ok (.aload_n 0, 1) := by decide +kernel
theorem dX11_barred_12 : decode cX11_barred 12 = .ok (.getfield 49, 3) := by decide +kernel
theorem dX11_barred_15 : decode cX11_barred 15 = .ok (.iconst 0, 1) := by decide +kernel
theorem dX11_barred_16 : decode cX11_barred 16 = .ok (.invokevirtual 205, 3) := by decide +kernel
theorem dX11_barred_19 : decode cX11_barred 19 = .ok (.goto 5, 3) := by decide +kernel
theorem dX11_measured_0 : decode cX11_measured 0 = .ok (.aload_n 0, 1) := by decide +kernel
theorem dX11_measured_1 : decode cX11_measured 1 = .ok (.getfield 26, 3) := by decide +kernel
theorem dX11_measured_4 : decode cX11_measured 4 = .ok (.iload_n 1, 1) := by decide +kernel
theorem dX11_measured_5 : decode cX11_measured 5 = .ok (.invokevirtual 227, 3) := by decide +kernel
theorem dX11_measured_8 : decode cX11_measured 8 = .ok (.ifCond .eq 11, 3) := by decide +kernel
theorem dX11_measured_19 : decode cX11_measured 19 = .ok (.ldc2_w 212, 3) := by decide +kernel
theorem dX11_measured_22 : decode cX11_measured 22 = .ok (.lreturn, 1) := by decide +kernel
theorem dX11_passed_0 : decode cX11_passed 0 = .ok (.aload_n 0, 1) := by decide +kernel
theorem dX11_passed_1 : decode cX11_passed 1 = .ok (.getfield 26, 3) := by decide +kernel
theorem dX11_passed_4 : decode cX11_passed 4 = .ok (.iload_n 1, 1) := by decide +kernel
theorem dX11_passed_5 : decode cX11_passed 5 = .ok (.invokevirtual 227, 3) := by decide +kernel
theorem dX11_passed_8 : decode cX11_passed 8 = .ok (.ifCond .eq 11, 3) := by decide +kernel
theorem dX11_passed_19 : decode cX11_passed 19 = .ok (.iconst (-1), 1) := by decide +kernel
theorem dX11_passed_20 : decode cX11_passed 20 = .ok (.ireturn, 1) := by decide +kernel
theorem dX11_mean_0 : decode cX11_mean 0 = .ok (.aload_n 0, 1) := by decide +kernel
theorem dX11_mean_1 : decode cX11_mean 1 = .ok (.getfield 26, 3) := by decide +kernel
theorem dX11_mean_4 : decode cX11_mean 4 = .ok (.iload_n 1, 1) := by decide +kernel
theorem dX11_mean_5 : decode cX11_mean 5 = .ok (.invokevirtual 227, 3) := by decide +kernel
theorem dX11_mean_8 : decode cX11_mean 8 = .ok (.ifCond .eq 30, 3) := by decide +kernel
theorem dX11_mean_38 : decode cX11_mean 38 = .ok (.ldc2_w 212, 3) := by decide +kernel
theorem dX11_mean_41 : decode cX11_mean 41 = .ok (.lreturn, 1) := by decide +kernel
theorem dX11_saved_0 : decode cX11_saved 0 = .ok (.aload_n 0, 1) := by decide +kernel
theorem dX11_saved_1 : decode cX11_saved 1 = .ok (.getfield 40, 3) := by decide +kernel
theorem dX11_saved_4 : decode cX11_saved 4 = .ok (.iload_n 1, 1) := by decide +kernel
theorem dX11_saved_5 : decode cX11_saved 5 = .ok (.invokevirtual 202, 3) := by decide +kernel
theorem dX11_saved_8 : decode cX11_saved 8 = .ok (.ifCond .eq 14, 3) := by decide +kernel
theorem dX11_saved_22 : decode cX11_saved 22 = .ok (.iconst (-1), 1) := by decide +kernel
theorem dX11_saved_23 : decode cX11_saved 23 = .ok (.ireturn, 1) := by decide +kernel
theorem dX11_saved_11 : decode cX11_saved 11 = .ok (.aload_n 0, 1) := by decide +kernel
theorem dX11_saved_12 : decode cX11_saved 12 = .ok (.getfield 40, 3) := by decide +kernel
theorem dX11_saved_15 : decode cX11_saved 15 = .ok (.iload_n 1, 1) := by decide +kernel
theorem dX11_saved_16 : decode cX11_saved 16 = .ok (.invokevirtual 260, 3) := by decide +kernel
theorem dX11_saved_19 : decode cX11_saved 19 = .ok (.goto 4, 3) := by decide +kernel
theorem dX11_ticks_0 : decode cX11_ticks 0 = .ok (.aload_n 0, 1) := by decide +kernel
theorem dX11_ticks_1 : decode cX11_ticks 1 = .ok (.getfield 40, 3) := by decide +kernel
theorem dX11_ticks_4 : decode cX11_ticks 4 = .ok (.iload_n 1, 1) := by decide +kernel
theorem dX11_ticks_5 : decode cX11_ticks 5 = .ok (.invokevirtual 202, 3) := by decide +kernel
theorem dX11_ticks_8 : decode cX11_ticks 8 = .ok (.ifCond .ne 5, 3) := by decide +kernel
theorem dX11_ticks_13 : decode cX11_ticks 13 = .ok (.iconst 0, 1) := by decide +kernel
theorem dX11_ticks_14 : decode cX11_ticks 14 = .ok (.istore_n 2, 1) := by decide +kernel
theorem dX11_ticks_15 : decode cX11_ticks 15 = .ok (.iconst 0, 1) := by decide +kernel
theorem dX11_ticks_16 : decode cX11_ticks 16 = .ok (.istore_n 3, 1) := by decide +kernel
theorem dX11_ticks_17 : decode cX11_ticks 17 = .ok (.iload_n 3, 1) := by decide +kernel
theorem dX11_ticks_18 : decode cX11_ticks 18 = .ok (.aload_n 0, 1) := by decide +kernel
theorem dX11_ticks_19 : decode cX11_ticks 19 = .ok (.getfield 26, 3) := by decide +kernel
theorem dX11_ticks_22 : decode cX11_ticks 22 = .ok (.getfield 123, 3) := by decide +kernel
theorem dX11_ticks_25 : decode cX11_ticks 25 = .ok (.if_icmp .ge 17, 3) := by decide +kernel
theorem dX11_ticks_42 : decode cX11_ticks 42 = .ok (.iload_n 2, 1) := by decide +kernel
theorem dX11_ticks_43 : decode cX11_ticks 43 = .ok (.ireturn, 1) := by decide +kernel
theorem dX11_ticks_11 : decode cX11_ticks 11 = .ok (.iconst (-1), 1) := by decide +kernel
theorem dX11_ticks_12 : decode cX11_ticks 12 = .ok (.ireturn, 1) := by decide +kernel
theorem dX11_isLet_0 : decode cX11_isLet 0 = .ok (.iconst 0, 1) := by decide +kernel
theorem dX11_isLet_1 : decode cX11_isLet 1 = .ok (.istore_n 1, 1) := by decide +kernel
theorem dX11_isLet_2 : decode cX11_isLet 2 = .ok (.iconst 0, 1) := by decide +kernel
theorem dX11_isLet_3 : decode cX11_isLet 3 = .ok (.istore_n 2, 1) := by decide +kernel
theorem dX11_isLet_4 : decode cX11_isLet 4 = .ok (.iload_n 2, 1) := by decide +kernel
theorem dX11_isLet_5 : decode cX11_isLet 5 = .ok (.aload_n 0, 1) := by decide +kernel
theorem dX11_isLet_6 : decode cX11_isLet 6 = .ok (.getfield 26, 3) := by decide +kernel
theorem dX11_isLet_9 : decode cX11_isLet 9 = .ok (.getfield 281, 3) := by decide +kernel
theorem dX11_isLet_12 : decode cX11_isLet 12 = .ok (.if_icmp .ge 58, 3) := by decide +kernel
theorem dX11_isLet_70 : decode cX11_isLet 70 = .ok (.iload_n 1, 1) := by decide +kernel
theorem dX11_isLet_71 : decode cX11_isLet 71 = .ok (.ifCond .eq 10, 3) := by decide +kernel
theorem dX11_isLet_81 : decode cX11_isLet 81 = .ok (.iconst 1, 1) := by decide +kernel
theorem dX11_isLet_82 : decode cX11_isLet 82 = .ok (.goto 4, 3) := by decide +kernel
theorem dX11_isLet_86 : decode cX11_isLet 86 = .ok (.ireturn, 1) := by decide +kernel
theorem dX11_let_0 : decode cX11_let 0 = .ok (.aload_n 0, 1) := by decide +kernel
theorem dX11_let_1 : decode cX11_let 1 = .ok (.getfield 40, 3) := by decide +kernel
theorem dX11_let_4 : decode cX11_let 4 = .ok (.iload_n 1, 1) := by decide +kernel
theorem dX11_let_5 : decode cX11_let 5 = .ok (.invokevirtual 202, 3) := by decide +kernel
theorem dX11_let_8 : decode cX11_let 8 = .ok (.ifCond .ne 5, 3) := by decide +kernel
theorem dX11_let_13 : decode cX11_let 13 = .ok (.aload_n 0, 1) := by decide +kernel
theorem dX11_let_14 : decode cX11_let 14 = .ok (.getfield 49, 3) := by decide +kernel
theorem dX11_let_17 : decode cX11_let 17 = .ok (.iconst 0, 1) := by decide +kernel
theorem dX11_let_18 : decode cX11_let 18 = .ok (.invokevirtual 205, 3) := by decide +kernel
theorem dX11_let_21 : decode cX11_let 21 = .ok (.iconst (-1), 1) := by decide +kernel
theorem dX11_let_22 : decode cX11_let 22 = .ok (.if_icmp .ne 14, 3) := by decide +kernel
theorem dX11_let_25 : decode cX11_let 25 = .ok (.aload_n 0, 1) := by decide +kernel
theorem dX11_let_26 : decode cX11_let 26 = .ok (.invokevirtual 277, 3) := by decide +kernel
theorem dX11_let_29 : decode cX11_let 29 = .ok (.ifCond .eq 7, 3) := by decide +kernel
theorem dX11_let_32 : decode cX11_let 32 = .ok (.iconst 1, 1) := by decide +kernel
theorem dX11_let_33 : decode cX11_let 33 = .ok (.goto 4, 3) := by decide +kernel
theorem dX11_let_37 : decode cX11_let 37 = .ok (.ireturn, 1) := by decide +kernel
theorem dX11_let_11 : decode cX11_let 11 = .ok (.iconst (-1), 1) := by decide +kernel
theorem dX11_let_12 : decode cX11_let 12 = .ok (.ireturn, 1) := by decide +kernel
theorem dX11_best_0 : decode cX11_best 0 = .ok (.iconst 0, 1) := by decide +kernel
theorem dX11_best_1 : decode cX11_best 1 = .ok (.istore_n 1, 1) := by decide +kernel
theorem dX11_best_2 : decode cX11_best 2 = .ok (.iconst 0, 1) := by decide +kernel
theorem dX11_best_3 : decode cX11_best 3 = .ok (.istore_n 2, 1) := by decide +kernel
theorem dX11_best_4 : decode cX11_best 4 = .ok (.aload_n 0, 1) := by decide +kernel
theorem dX11_best_5 : decode cX11_best 5 = .ok (.getfield 49, 3) := by decide +kernel
theorem dX11_best_8 : decode cX11_best 8 = .ok (.invokevirtual 308, 3) := by decide +kernel
theorem dX11_best_11 : decode cX11_best 11 = .ok (.iconst 0, 1) := by decide +kernel
theorem dX11_best_12 : decode cX11_best 12 = .ok (.istore_n 3, 1) := by decide +kernel
theorem dX11_best_13 : decode cX11_best 13 = .ok (.iload_n 3, 1) := by decide +kernel
theorem dX11_best_14 : decode cX11_best 14 = .ok (.sipush 4096, 3) := by decide +kernel
theorem dX11_best_17 : decode cX11_best 17 = .ok (.if_icmp .ge 70, 3) := by decide +kernel
theorem dX11_best_20 : decode cX11_best 20 = .ok (.aload_n 0, 1) := by decide +kernel
theorem dX11_best_21 : decode cX11_best 21 = .ok (.getfield 49, 3) := by decide +kernel
theorem dX11_best_24 : decode cX11_best 24 = .ok (.invokevirtual 311, 3) := by decide +kernel
theorem dX11_best_27 : decode cX11_best 27 = .ok (.ifCond .eq 60, 3) := by decide +kernel
theorem dX11_best_30 : decode cX11_best 30 = .ok (.aload_n 0, 1) := by decide +kernel
theorem dX11_best_31 : decode cX11_best 31 = .ok (.getfield 40, 3) := by decide +kernel
theorem dX11_best_34 : decode cX11_best 34 = .ok (.aload_n 0, 1) := by decide +kernel
theorem dX11_best_35 : decode cX11_best 35 = .ok (.getfield 40, 3) := by decide +kernel
theorem dX11_best_38 : decode cX11_best 38 = .ok (.getfield 314, 3) := by decide +kernel
theorem dX11_best_41 : decode cX11_best 41 = .ok (.invokevirtual 260, 3) := by decide +kernel
theorem dX11_best_44 : decode cX11_best 44 = .ok (.istore 4, 2) := by decide +kernel
theorem dX11_best_46 : decode cX11_best 46 = .ok (.iload 4, 2) := by decide +kernel
theorem dX11_best_48 : decode cX11_best 48 = .ok (.aload_n 0, 1) := by decide +kernel
theorem dX11_best_49 : decode cX11_best 49 = .ok (.getfield 40, 3) := by decide +kernel
theorem dX11_best_52 : decode cX11_best 52 = .ok (.getfield 314, 3) := by decide +kernel
theorem dX11_best_55 : decode cX11_best 55 = .ok (.iload_n 2, 1) := by decide +kernel
theorem dX11_best_56 : decode cX11_best 56 = .ok (.iload_n 1, 1) := by decide +kernel
theorem dX11_best_57 : decode cX11_best 57 = .ok (.invokestatic 317, 3) := by decide +kernel
theorem dX11_best_60 : decode cX11_best 60 = .ok (.ifCond .eq 21, 3) := by decide +kernel
theorem dX11_best_81 : decode cX11_best 81 = .ok (.iinc 3 1, 3) := by decide +kernel
theorem dX11_best_84 : decode cX11_best 84 = .ok (.goto (-71), 3) := by decide +kernel
theorem dX11_best_87 : decode cX11_best 87 = .ok (.iload_n 1, 1) := by decide +kernel
theorem dX11_best_88 : decode cX11_best 88 = .ok (.ireturn, 1) := by decide +kernel
theorem dX11_front_0 : decode cX11_front 0 = .ok (.aload_n 0, 1) := by decide +kernel
theorem dX11_front_1 : decode cX11_front 1 = .ok (.getfield 26, 3) := by decide +kernel
theorem dX11_front_4 : decode cX11_front 4 = .ok (.iload_n 1, 1) := by decide +kernel
theorem dX11_front_5 : decode cX11_front 5 = .ok (.invokevirtual 227, 3) := by decide +kernel
theorem dX11_front_8 : decode cX11_front 8 = .ok (.ifCond .ne 5, 3) := by decide +kernel
theorem dX11_front_11 : decode cX11_front 11 = .ok (.iconst (-1), 1) := by decide +kernel
theorem dX11_front_12 : decode cX11_front 12 = .ok (.ireturn, 1) := by decide +kernel
theorem dX11_pair_0 : decode cX11_pair 0 = .ok (.aload_n 0, 1) := by decide +kernel
theorem dX11_pair_1 : decode cX11_pair 1 = .ok (.getfield 26, 3) := by decide +kernel
theorem dX11_pair_4 : decode cX11_pair 4 = .ok (.iload_n 1, 1) := by decide +kernel
theorem dX11_pair_5 : decode cX11_pair 5 = .ok (.invokevirtual 227, 3) := by decide +kernel
theorem dX11_pair_8 : decode cX11_pair 8 = .ok (.ifCond .eq 16, 3) := by decide +kernel
theorem dX11_pair_24 : decode cX11_pair 24 = .ok (.ldc2_w 212, 3) := by decide +kernel
theorem dX11_pair_27 : decode cX11_pair 27 = .ok (.lreturn, 1) := by decide +kernel
theorem dX11_guard_0 : decode cX11_guard 0 = .ok (.aload_n 0, 1) := by decide +kernel
theorem dX11_guard_1 : decode cX11_guard 1 = .ok (.getfield 26, 3) := by decide +kernel
theorem dX11_guard_4 : decode cX11_guard 4 = .ok (.iload_n 1, 1) := by decide +kernel
theorem dX11_guard_5 : decode cX11_guard 5 = .ok (.invokevirtual 227, 3) := by decide +kernel
theorem dX11_guard_8 : decode cX11_guard 8 = .ok (.ifCond .eq 25, 3) := by decide +kernel
theorem dX11_guard_33 : decode cX11_guard 33 = .ok (.iconst (-1), 1) := by decide +kernel
theorem dX11_guard_34 : decode cX11_guard 34 = .ok (.ireturn, 1) := by decide +kernel
theorem dX11_through_0 : decode cX11_through 0 = .ok (.aload_n 0, 1) := by decide +kernel
theorem dX11_through_1 : decode cX11_through 1 = .ok (.getfield 26, 3) := by decide +kernel
theorem dX11_through_4 : decode cX11_through 4 = .ok (.iload_n 1, 1) := by decide +kernel
theorem dX11_through_5 : decode cX11_through 5 = .ok (.invokevirtual 227, 3) := by decide +kernel
theorem dX11_through_8 : decode cX11_through 8 = .ok (.ifCond .eq 11, 3) := by decide +kernel
theorem dX11_through_19 : decode cX11_through 19 = .ok (.iconst (-1), 1) := by decide +kernel
theorem dX11_through_20 : decode cX11_through 20 = .ok (.ireturn, 1) := by decide +kernel
theorem dX11_turned_0 : decode cX11_turned 0 = .ok (.aload_n 0, 1) := by decide +kernel
theorem dX11_turned_1 : decode cX11_turned 1 = .ok (.getfield 26, 3) := by decide +kernel
theorem dX11_turned_4 : decode cX11_turned 4 = .ok (.iload_n 1, 1) := by decide +kernel
theorem dX11_turned_5 : decode cX11_turned 5 = .ok (.invokevirtual 227, 3) := by decide +kernel
theorem dX11_turned_8 : decode cX11_turned 8 = .ok (.ifCond .eq 11, 3) := by decide +kernel
theorem dX11_turned_19 : decode cX11_turned 19 = .ok (.iconst (-1), 1) := by decide +kernel
theorem dX11_turned_20 : decode cX11_turned 20 = .ok (.ireturn, 1) := by decide +kernel
theorem dX11_worst_0 : decode cX11_worst 0 = .ok (.aload_n 0, 1) := by decide +kernel
theorem dX11_worst_1 : decode cX11_worst 1 = .ok (.getfield 26, 3) := by decide +kernel
theorem dX11_worst_4 : decode cX11_worst 4 = .ok (.iload_n 1, 1) := by decide +kernel
theorem dX11_worst_5 : decode cX11_worst 5 = .ok (.invokevirtual 227, 3) := by decide +kernel
theorem dX11_worst_8 : decode cX11_worst 8 = .ok (.ifCond .eq 20, 3) := by decide +kernel
theorem dX11_worst_28 : decode cX11_worst 28 = .ok (.ldc2_w 221, 3) := by decide +kernel
theorem dX11_worst_31 : decode cX11_worst 31 = .ok (.lreturn, 1) := by decide +kernel
theorem dX11_led_0 : decode cX11_led 0 = .ok (.aload_n 0, 1) := by decide +kernel
theorem dX11_led_1 : decode cX11_led 1 = .ok (.getfield 26, 3) := by decide +kernel
theorem dX11_led_4 : decode cX11_led 4 = .ok (.iload_n 1, 1) := by decide +kernel
theorem dX11_led_5 : decode cX11_led 5 = .ok (.invokevirtual 227, 3) := by decide +kernel
theorem dX11_led_8 : decode cX11_led 8 = .ok (.ifCond .eq 25, 3) := by decide +kernel
theorem dX11_led_33 : decode cX11_led 33 = .ok (.ldc2_w 221, 3) := by decide +kernel
theorem dX11_led_36 : decode cX11_led 36 = .ok (.lreturn, 1) := by decide +kernel
theorem dX11_purse_0 : decode cX11_purse 0 = .ok (.iload_n 1, 1) := by decide +kernel
theorem dX11_purse_1 : decode cX11_purse 1 = .ok (.ifCond .lt 10, 3) := by decide +kernel
theorem dX11_purse_11 : decode cX11_purse 11 = .ok (.iconst 0, 1) := by decide +kernel
theorem dX11_purse_12 : decode cX11_purse 12 = .ok (.ireturn, 1) := by decide +kernel
theorem dX11_purse_4 : decode cX11_purse 4 = .ok (.iload_n 1, 1) := by decide +kernel
theorem dX11_purse_5 : decode cX11_purse 5 = .ok (.ldc_w 353, 3) := by decide +kernel
theorem dX11_purse_8 : decode cX11_purse 8 = .ok (.if_icmp .le 5, 3) := by decide +kernel
theorem dX11_purse_13 : decode cX11_purse 13 = .ok (.aload_n 0, 1) := by decide +kernel
theorem dX11_purse_14 : decode cX11_purse 14 = .ok (.iload_n 1, 1) := by decide +kernel
theorem dX11_purse_15 : decode cX11_purse 15 = .ok (.putfield 75, 3) := by decide +kernel
theorem dX11_purse_18 : decode cX11_purse 18 = .ok (.iconst 1, 1) := by decide +kernel
theorem dX11_purse_19 : decode cX11_purse 19 = .ok (.ireturn, 1) := by decide +kernel
theorem dX11_day_0 : decode cX11_day 0 = .ok (.aload_n 0, 1) := by decide +kernel
theorem dX11_day_1 : decode cX11_day 1 = .ok (.getfield 26, 3) := by decide +kernel
theorem dX11_day_4 : decode cX11_day 4 = .ok (.iload_n 1, 1) := by decide +kernel
theorem dX11_day_5 : decode cX11_day 5 = .ok (.invokevirtual 227, 3) := by decide +kernel
theorem dX11_day_8 : decode cX11_day 8 = .ok (.ifCond .eq 22, 3) := by decide +kernel
theorem dX11_day_30 : decode cX11_day 30 = .ok (.iconst (-1), 1) := by decide +kernel
theorem dX11_day_31 : decode cX11_day 31 = .ok (.ireturn, 1) := by decide +kernel
theorem dX11_canPlan_0 : decode cX11_canPlan 0 = .ok (.aload_n 0, 1) := by decide +kernel
theorem dX11_canPlan_1 : decode cX11_canPlan 1 = .ok (.getfield 26, 3) := by decide +kernel
theorem dX11_canPlan_4 : decode cX11_canPlan 4 = .ok (.iload_n 1, 1) := by decide +kernel
theorem dX11_canPlan_5 : decode cX11_canPlan 5 = .ok (.invokevirtual 227, 3) := by decide +kernel
theorem dX11_canPlan_8 : decode cX11_canPlan 8 = .ok (.ifCond .eq 18, 3) := by decide +kernel
theorem dX11_canPlan_26 : decode cX11_canPlan 26 = .ok (.iconst 0, 1) := by decide +kernel
theorem dX11_canPlan_27 : decode cX11_canPlan 27 = .ok (.ireturn, 1) := by decide +kernel
theorem dX11_plan_0 : decode cX11_plan 0 = .ok (.aload_n 0, 1) := by decide +kernel
theorem dX11_plan_1 : decode cX11_plan 1 = .ok (.iload_n 1, 1) := by decide +kernel
theorem dX11_plan_2 : decode cX11_plan 2 = .ok (.iload_n 2, 1) := by decide +kernel
theorem dX11_plan_3 : decode cX11_plan 3 = .ok (.invokevirtual 357, 3) := by decide +kernel
theorem dX11_plan_6 : decode cX11_plan 6 = .ok (.ifCond .ne 5, 3) := by decide +kernel
theorem dX11_plan_9 : decode cX11_plan 9 = .ok (.iconst (-1), 1) := by decide +kernel
theorem dX11_plan_10 : decode cX11_plan 10 = .ok (.ireturn, 1) := by decide +kernel
theorem dX11_planned_0 : decode cX11_planned 0 = .ok (.aload_n 0, 1) := by decide +kernel
theorem dX11_planned_1 : decode cX11_planned 1 = .ok (.iload_n 1, 1) := by decide +kernel
theorem dX11_planned_2 : decode cX11_planned 2 = .ok (.iload_n 2, 1) := by decide +kernel
theorem dX11_planned_3 : decode cX11_planned 3 = .ok (.invokevirtual 357, 3) := by decide +kernel
theorem dX11_planned_6 : decode cX11_planned 6 = .ok (.ifCond .eq 14, 3) := by decide +kernel
theorem dX11_planned_20 : decode cX11_planned 20 = .ok (.iconst (-1), 1) := by decide +kernel
theorem dX11_planned_21 : decode cX11_planned 21 = .ok (.ireturn, 1) := by decide +kernel
def ow_c_forgetFront : List Cond := [.fieldLink RX11 82 "NearEnough" "edge" "LNearEnough$Front;"]
def vs_c_forgetFront : List Cond := .code yX11_forgetFront cX11_forgetFront 1 none :: (ow_c_forgetFront ++ (wsX110))
theorem vg_c_forgetFront : vs_c_forgetFront.all goodWord = true := by decide +kernel
set_option maxHeartbeats 4000000 in
set_option maxRecDepth 100000 in
theorem c_forgetFront (l : Launch) (dC : Nat → ClassId) (dI : Nat → Nat → Nat) (h0 : Nat) (tp : Nat) (td : Nat) (sh : Nat) (ch : Nat) (sw : Nat) (wk : Nat) (g1 : Nat) (g2 : Nat) (g3 : Nat) (tl : Nat) (sz : Nat) : Met l yX11_forgetFront vs_c_forgetFront ({ frames := 0, cells := 0, slots := 0, locals := 0 }) (va_Pc [.ref h0] (wSt dC dI [(h0, .inr (11, [.ref tp, .int 0, .int 0, .int (-1), .ref td, .ref sh, .ref ch, .ref sw, .ref wk, .ref g1, .ref g2, .ref g3, .int 0, .int 0, .ref tl, .null, .null]))] [] sz)) (va_Qv (fun (_ : Unit) => True) (fun (u : Unit) => wEn dC dI (va_A [(h0, .inr (11, [.ref tp, .int 0, .int 0, .int (-1), .ref td, .ref sh, .ref ch, .ref sw, .ref wk, .ref g1, .ref g2, .ref g3, .int 0, .int 0, .ref tl, .null, .null]))] sz) [(h0, .inr (11, [.ref tp, .int 0, .int 0, .int (-1), .ref td, .ref sh, .ref ch, .ref sw, .ref wk, .ref g1, .ref g2, .ref g3, .int 0, .int 0, .ref tl, .null, .null]))] []) (va_A [(h0, .inr (11, [.ref tp, .int 0, .int 0, .int (-1), .ref td, .ref sh, .ref ch, .ref sw, .ref wk, .ref g1, .ref g2, .ref g3, .int 0, .int 0, .ref tl, .null, .null]))] sz)) 0 0 (va_A [(h0, .inr (11, [.ref tp, .int 0, .int 0, .int (-1), .ref td, .ref sh, .ref ch, .ref sw, .ref wk, .ref g1, .ref g2, .ref g3, .int 0, .int 0, .ref tl, .null, .null]))] sz) := by
  refine Met.ofW (cc := cX11_forgetFront) (maxL := 1) (ret := none) (by decide) rfl ?_
  intro p e s m args below meth c s₁ B hml hv
  obtain ⟨rfl, hsz, hP, hK, hD0, hE⟩ := hv
  have hx := B.exec
  have hb := B.bytes
  have hr := B.returns
  have hts := atoms_spec (ws := vs_c_forgetFront) B.pre
  have hown : s.vm.findClass RX11 = some m.cls := findClass_of_methodNamed B.named
  have hlocks := B.notSynchronized
  subst hsz
  have hD := hD0.self (sz := s.heap.size)
  generalize hAe : va_A [(h0, .inr (11, [.ref tp, .int 0, .int 0, .int (-1), .ref td, .ref sh, .ref ch, .ref sw, .ref wk, .ref g1, .ref g2, .ref g3, .int 0, .int 0, .ref tl, .null, .null]))] s.heap.size = A at hD ⊢
  have hA : ∀ q : Nat, s.heap.size ≤ q → A q := fun q h => by rw [← hAe]; exact Or.inr h
  have hl := lv_entry ([.ref h0]) (n := 1) (Nat.le_of_ble_eq_true rfl)
  rw [lg_entry_eq]
  generalize (lg_sl ([.ref h0]) ++ List.replicate (1 - (lg_sl ([.ref h0])).length) Slot.unset).toArray = ls at hl ⊢
  have hl : lv_has ls 1 [(0, .ref h0)] := hl
  refine zH (A := A) (ws := [(h0, .inr (11, [.ref tp, .int 0, .int 0, .int (-1), .ref td, .ref sh, .ref ch, .ref sw, .ref wk, .ref g1, .ref g2, .ref g3, .int 0, .int 0, .ref tl, .null, .null]))]) (fun H hP hS => ?_) hP
  have ho := fun w (h : w ∈ ow_c_forgetFront) => hts w (List.mem_cons_of_mem _ (List.mem_append_left _ h))
  have hin11 : ∀ w ∈ u_ws RX11 TX11 17, w ∈ vs_c_forgetFront := fun w h => (List.mem_cons_of_mem _ (List.mem_append_right _ h))
  refine lv_aload_n hx hb dX11_forgetFront_0 rfl (lv_at hl 0 rfl) ?_
  refine va_get (D := (dC, dI)) (ci := 11) (v := .null) (C := RX11) (T := TX11) (N := 17) hx hb hts hin11 hown hK hP 0 rfl rfl 15 (by decide) (ho (.fieldLink RX11 82 "NearEnough" "edge" "LNearEnough$Front;") (List.mem_of_getElem? (i := 0) rfl)) (fun _ h9 => h9) rfl dX11_forgetFront_1 ?_
  refine lv_ifnullN (tgt := 14) hx hb dX11_forgetFront_4 (by decide) ?_
  refine W.widen (k := 0) (n := 0) (Nat.le_of_ble_eq_true rfl) (Nat.le_of_ble_eq_true rfl) ?_
  exact W.vret hx hb hr (fun t ht hW => ⟨⟨(), rfl, trivial, wEn_of (hP.sub [0] rfl) (hK.sub [] rfl) (hD.sub [0] (by decide) rfl) ht hW⟩, hS.F ht⟩) hS.2.2 dX11_forgetFront_14
def ow_c_forgetPlan : List Cond := [.fieldLink RX11 86 "NearEnough" "planner" "LNearEnough$Plan;"]
def vs_c_forgetPlan : List Cond := .code yX11_forgetPlan cX11_forgetPlan 1 none :: (ow_c_forgetPlan ++ (wsX110))
theorem vg_c_forgetPlan : vs_c_forgetPlan.all goodWord = true := by decide +kernel
set_option maxHeartbeats 4000000 in
set_option maxRecDepth 100000 in
theorem c_forgetPlan (l : Launch) (dC : Nat → ClassId) (dI : Nat → Nat → Nat) (h0 : Nat) (tp : Nat) (td : Nat) (sh : Nat) (ch : Nat) (sw : Nat) (wk : Nat) (g1 : Nat) (g2 : Nat) (g3 : Nat) (tl : Nat) (sz : Nat) : Met l yX11_forgetPlan vs_c_forgetPlan ({ frames := 0, cells := 0, slots := 0, locals := 0 }) (va_Pc [.ref h0] (wSt dC dI [(h0, .inr (11, [.ref tp, .int 0, .int 0, .int (-1), .ref td, .ref sh, .ref ch, .ref sw, .ref wk, .ref g1, .ref g2, .ref g3, .int 0, .int 0, .ref tl, .null, .null]))] [] sz)) (va_Qv (fun (_ : Unit) => True) (fun (u : Unit) => wEn dC dI (va_A [(h0, .inr (11, [.ref tp, .int 0, .int 0, .int (-1), .ref td, .ref sh, .ref ch, .ref sw, .ref wk, .ref g1, .ref g2, .ref g3, .int 0, .int 0, .ref tl, .null, .null]))] sz) [(h0, .inr (11, [.ref tp, .int 0, .int 0, .int (-1), .ref td, .ref sh, .ref ch, .ref sw, .ref wk, .ref g1, .ref g2, .ref g3, .int 0, .int 0, .ref tl, .null, .null]))] []) (va_A [(h0, .inr (11, [.ref tp, .int 0, .int 0, .int (-1), .ref td, .ref sh, .ref ch, .ref sw, .ref wk, .ref g1, .ref g2, .ref g3, .int 0, .int 0, .ref tl, .null, .null]))] sz)) 0 0 (va_A [(h0, .inr (11, [.ref tp, .int 0, .int 0, .int (-1), .ref td, .ref sh, .ref ch, .ref sw, .ref wk, .ref g1, .ref g2, .ref g3, .int 0, .int 0, .ref tl, .null, .null]))] sz) := by
  refine Met.ofW (cc := cX11_forgetPlan) (maxL := 1) (ret := none) (by decide) rfl ?_
  intro p e s m args below meth c s₁ B hml hv
  obtain ⟨rfl, hsz, hP, hK, hD0, hE⟩ := hv
  have hx := B.exec
  have hb := B.bytes
  have hr := B.returns
  have hts := atoms_spec (ws := vs_c_forgetPlan) B.pre
  have hown : s.vm.findClass RX11 = some m.cls := findClass_of_methodNamed B.named
  have hlocks := B.notSynchronized
  subst hsz
  have hD := hD0.self (sz := s.heap.size)
  generalize hAe : va_A [(h0, .inr (11, [.ref tp, .int 0, .int 0, .int (-1), .ref td, .ref sh, .ref ch, .ref sw, .ref wk, .ref g1, .ref g2, .ref g3, .int 0, .int 0, .ref tl, .null, .null]))] s.heap.size = A at hD ⊢
  have hA : ∀ q : Nat, s.heap.size ≤ q → A q := fun q h => by rw [← hAe]; exact Or.inr h
  have hl := lv_entry ([.ref h0]) (n := 1) (Nat.le_of_ble_eq_true rfl)
  rw [lg_entry_eq]
  generalize (lg_sl ([.ref h0]) ++ List.replicate (1 - (lg_sl ([.ref h0])).length) Slot.unset).toArray = ls at hl ⊢
  have hl : lv_has ls 1 [(0, .ref h0)] := hl
  refine zH (A := A) (ws := [(h0, .inr (11, [.ref tp, .int 0, .int 0, .int (-1), .ref td, .ref sh, .ref ch, .ref sw, .ref wk, .ref g1, .ref g2, .ref g3, .int 0, .int 0, .ref tl, .null, .null]))]) (fun H hP hS => ?_) hP
  have ho := fun w (h : w ∈ ow_c_forgetPlan) => hts w (List.mem_cons_of_mem _ (List.mem_append_left _ h))
  have hin11 : ∀ w ∈ u_ws RX11 TX11 17, w ∈ vs_c_forgetPlan := fun w h => (List.mem_cons_of_mem _ (List.mem_append_right _ h))
  refine lv_aload_n hx hb dX11_forgetPlan_0 rfl (lv_at hl 0 rfl) ?_
  refine va_get (D := (dC, dI)) (ci := 11) (v := .null) (C := RX11) (T := TX11) (N := 17) hx hb hts hin11 hown hK hP 0 rfl rfl 16 (by decide) (ho (.fieldLink RX11 86 "NearEnough" "planner" "LNearEnough$Plan;") (List.mem_of_getElem? (i := 0) rfl)) (fun _ h9 => h9) rfl dX11_forgetPlan_1 ?_
  refine lv_ifnullN (tgt := 14) hx hb dX11_forgetPlan_4 (by decide) ?_
  refine W.widen (k := 0) (n := 0) (Nat.le_of_ble_eq_true rfl) (Nat.le_of_ble_eq_true rfl) ?_
  exact W.vret hx hb hr (fun t ht hW => ⟨⟨(), rfl, trivial, wEn_of (hP.sub [0] rfl) (hK.sub [] rfl) (hD.sub [0] (by decide) rfl) ht hW⟩, hS.F ht⟩) hS.2.2 dX11_forgetPlan_14
def ow_c_lastStep : List Cond := [.fieldLink RX11 26 "NearEnough" "told" "LNearEnough$Program;", .fieldLink RX11 123 "NearEnough$Program" "stepCount" "I"]
def vs_c_lastStep : List Cond := .code yX11_lastStep cX11_lastStep 1 (some .int) :: (ow_c_lastStep ++ (wsX30 ++ (wsX110)))
theorem vg_c_lastStep : vs_c_lastStep.all goodWord = true := by decide +kernel
set_option maxHeartbeats 4000000 in
set_option maxRecDepth 100000 in
theorem c_lastStep (l : Launch) (dC : Nat → ClassId) (dI : Nat → Nat → Nat) (h0 : Nat) (tp : Nat) (td : Nat) (sh : Nat) (ch : Nat) (sw : Nat) (wk : Nat) (g1 : Nat) (g2 : Nat) (g3 : Nat) (tl : Nat) (r1 : Nat) (r2 : Nat) (r3 : Nat) (r4 : Nat) (r5 : Nat) (sz : Nat) : Met l yX11_lastStep vs_c_lastStep ({ frames := 0, cells := 0, slots := 0, locals := 0 }) (va_Pc [.ref h0] (wSt dC dI [(h0, .inr (11, [.ref tp, .int 0, .int 0, .int (-1), .ref td, .ref sh, .ref ch, .ref sw, .ref wk, .ref g1, .ref g2, .ref g3, .int 0, .int 0, .ref tl, .null, .null])), (td, .inr (3, [.ref r1, .ref r2, .ref r3, .ref r4, .ref r5, .int 0, .int 0, .int 0]))] [] sz)) (va_Qi (fun (r : Int32) (_ : Unit) => r = (-1)) (fun (u : Unit) => wEn dC dI (va_A [(h0, .inr (11, [.ref tp, .int 0, .int 0, .int (-1), .ref td, .ref sh, .ref ch, .ref sw, .ref wk, .ref g1, .ref g2, .ref g3, .int 0, .int 0, .ref tl, .null, .null])), (td, .inr (3, [.ref r1, .ref r2, .ref r3, .ref r4, .ref r5, .int 0, .int 0, .int 0]))] sz) [(h0, .inr (11, [.ref tp, .int 0, .int 0, .int (-1), .ref td, .ref sh, .ref ch, .ref sw, .ref wk, .ref g1, .ref g2, .ref g3, .int 0, .int 0, .ref tl, .null, .null])), (td, .inr (3, [.ref r1, .ref r2, .ref r3, .ref r4, .ref r5, .int 0, .int 0, .int 0]))] []) (va_A [(h0, .inr (11, [.ref tp, .int 0, .int 0, .int (-1), .ref td, .ref sh, .ref ch, .ref sw, .ref wk, .ref g1, .ref g2, .ref g3, .int 0, .int 0, .ref tl, .null, .null])), (td, .inr (3, [.ref r1, .ref r2, .ref r3, .ref r4, .ref r5, .int 0, .int 0, .int 0]))] sz)) 0 0 (va_A [(h0, .inr (11, [.ref tp, .int 0, .int 0, .int (-1), .ref td, .ref sh, .ref ch, .ref sw, .ref wk, .ref g1, .ref g2, .ref g3, .int 0, .int 0, .ref tl, .null, .null])), (td, .inr (3, [.ref r1, .ref r2, .ref r3, .ref r4, .ref r5, .int 0, .int 0, .int 0]))] sz) := by
  refine Met.ofW (cc := cX11_lastStep) (maxL := 1) (ret := (some .int)) (by decide) rfl ?_
  intro p e s m args below meth c s₁ B hml hv
  obtain ⟨rfl, hsz, hP, hK, hD0, hE⟩ := hv
  have hx := B.exec
  have hb := B.bytes
  have hr := B.returns
  have hts := atoms_spec (ws := vs_c_lastStep) B.pre
  have hown : s.vm.findClass RX11 = some m.cls := findClass_of_methodNamed B.named
  have hlocks := B.notSynchronized
  subst hsz
  have hD := hD0.self (sz := s.heap.size)
  generalize hAe : va_A [(h0, .inr (11, [.ref tp, .int 0, .int 0, .int (-1), .ref td, .ref sh, .ref ch, .ref sw, .ref wk, .ref g1, .ref g2, .ref g3, .int 0, .int 0, .ref tl, .null, .null])), (td, .inr (3, [.ref r1, .ref r2, .ref r3, .ref r4, .ref r5, .int 0, .int 0, .int 0]))] s.heap.size = A at hD ⊢
  have hA : ∀ q : Nat, s.heap.size ≤ q → A q := fun q h => by rw [← hAe]; exact Or.inr h
  have hl := lv_entry ([.ref h0]) (n := 1) (Nat.le_of_ble_eq_true rfl)
  rw [lg_entry_eq]
  generalize (lg_sl ([.ref h0]) ++ List.replicate (1 - (lg_sl ([.ref h0])).length) Slot.unset).toArray = ls at hl ⊢
  have hl : lv_has ls 1 [(0, .ref h0)] := hl
  refine zH (A := A) (ws := [(h0, .inr (11, [.ref tp, .int 0, .int 0, .int (-1), .ref td, .ref sh, .ref ch, .ref sw, .ref wk, .ref g1, .ref g2, .ref g3, .int 0, .int 0, .ref tl, .null, .null])), (td, .inr (3, [.ref r1, .ref r2, .ref r3, .ref r4, .ref r5, .int 0, .int 0, .int 0]))]) (fun H hP hS => ?_) hP
  have ho := fun w (h : w ∈ ow_c_lastStep) => hts w (List.mem_cons_of_mem _ (List.mem_append_left _ h))
  have hin3 : ∀ w ∈ u_ws RX3 TX3 8, w ∈ vs_c_lastStep := fun w h => (List.mem_cons_of_mem _ (List.mem_append_right _ (List.mem_append_left _ h)))
  have hin11 : ∀ w ∈ u_ws RX11 TX11 17, w ∈ vs_c_lastStep := fun w h => (List.mem_cons_of_mem _ (List.mem_append_right _ (List.mem_append_right _ h)))
  refine lv_aload_n hx hb dX11_lastStep_0 rfl (lv_at hl 0 rfl) ?_
  refine va_get (D := (dC, dI)) (ci := 11) (v := .ref td) (C := RX11) (T := TX11) (N := 17) hx hb hts hin11 hown hK hP 0 rfl rfl 4 (by decide) (ho (.fieldLink RX11 26 "NearEnough" "told" "LNearEnough$Program;") (List.mem_of_getElem? (i := 0) rfl)) (fun _ h9 => h9) rfl dX11_lastStep_1 ?_
  refine va_get (D := (dC, dI)) (ci := 3) (v := .int 0) (C := RX3) (T := TX3) (N := 8) hx hb hts hin3 hown hK hP 1 rfl rfl 6 (by decide) (ho (.fieldLink RX11 123 "NearEnough$Program" "stepCount" "I") (List.mem_of_getElem? (i := 1) rfl)) (fun _ h9 => h9) rfl dX11_lastStep_4 ?_
  refine lv_iconst (v := 1) hx hb dX11_lastStep_7 (by decide) ?_
  refine lv_isub hx hb dX11_lastStep_8 ?_
  refine zi (v := (-1)) (by decide) ?_
  refine W.widen (k := 0) (n := 0) (Nat.le_of_ble_eq_true rfl) (Nat.le_of_ble_eq_true rfl) ?_
  exact W.iret (v := (-1)) hx hb hr (fun t ht hW => ⟨⟨(-1), (), rfl, rfl, wEn_of (hP.sub [0, 1] rfl) (hK.sub [] rfl) (hD.sub [0, 1] (by decide) rfl) ht hW⟩, hS.F ht⟩) hS.2.2 dX11_lastStep_9
def ow_c_append0 : List Cond := [.fieldLink RX11 13 "NearEnough" "bytes" "I", .fieldLink RX11 9 "NearEnough" "tape" "[B"]
def vs_c_append0 : List Cond := .code yX11_append cX11_append 3 none :: (ow_c_append0 ++ (wsX110))
theorem vg_c_append0 : vs_c_append0.all goodWord = true := by decide +kernel
set_option maxHeartbeats 4000000 in
set_option maxRecDepth 100000 in
theorem c_append0 (l : Launch) (dC : Nat → ClassId) (dI : Nat → Nat → Nat) (h0 : Nat) (tp : Nat) (td : Nat) (sh : Nat) (ch : Nat) (sw : Nat) (wk : Nat) (g1 : Nat) (g2 : Nat) (g3 : Nat) (tl : Nat) (kt : ClassId) (f0 : Nat → Int32) (x : Int32) (sz : Nat) : Met l yX11_append vs_c_append0 ({ frames := 0, cells := 0, slots := 0, locals := 0 }) (va_Pc [.ref h0, .int x] (wSt dC dI [(h0, .inr (11, [.ref tp, .int 0, .int 0, .int (-1), .ref td, .ref sh, .ref ch, .ref sw, .ref wk, .ref g1, .ref g2, .ref g3, .int 0, .int 0, .ref tl, .null, .null])), (tp, .inl (kt, 1000, .inl f0))] [(kt, .byte)] sz)) (va_Qv (fun (_ : (Nat → Int32)) => True) (fun (u : (Nat → Int32)) => wEn dC dI (va_A [(h0, .inr (11, [.ref tp, .int 0, .int 0, .int (-1), .ref td, .ref sh, .ref ch, .ref sw, .ref wk, .ref g1, .ref g2, .ref g3, .int 0, .int 0, .ref tl, .null, .null])), (tp, .inl (kt, 1000, .inl f0))] sz) [(h0, .inr (11, [.ref tp, .int 4, .int 0, .int (-1), .ref td, .ref sh, .ref ch, .ref sw, .ref wk, .ref g1, .ref g2, .ref g3, .int 0, .int 0, .ref tl, .null, .null])), (tp, .inl (kt, 1000, .inl u))] []) (va_A [(h0, .inr (11, [.ref tp, .int 0, .int 0, .int (-1), .ref td, .ref sh, .ref ch, .ref sw, .ref wk, .ref g1, .ref g2, .ref g3, .int 0, .int 0, .ref tl, .null, .null])), (tp, .inl (kt, 1000, .inl f0))] sz)) 0 0 (va_A [(h0, .inr (11, [.ref tp, .int 0, .int 0, .int (-1), .ref td, .ref sh, .ref ch, .ref sw, .ref wk, .ref g1, .ref g2, .ref g3, .int 0, .int 0, .ref tl, .null, .null])), (tp, .inl (kt, 1000, .inl f0))] sz) := by
  refine Met.ofW (cc := cX11_append) (maxL := 3) (ret := none) (by decide) rfl ?_
  intro p e s m args below meth c s₁ B hml hv
  obtain ⟨rfl, hsz, hP, hK, hD0, hE⟩ := hv
  have hx := B.exec
  have hb := B.bytes
  have hr := B.returns
  have hts := atoms_spec (ws := vs_c_append0) B.pre
  have hown : s.vm.findClass RX11 = some m.cls := findClass_of_methodNamed B.named
  have hlocks := B.notSynchronized
  subst hsz
  have hD := hD0.self (sz := s.heap.size)
  generalize hAe : va_A [(h0, .inr (11, [.ref tp, .int 0, .int 0, .int (-1), .ref td, .ref sh, .ref ch, .ref sw, .ref wk, .ref g1, .ref g2, .ref g3, .int 0, .int 0, .ref tl, .null, .null])), (tp, .inl (kt, 1000, .inl f0))] s.heap.size = A at hD ⊢
  have hA : ∀ q : Nat, s.heap.size ≤ q → A q := fun q h => by rw [← hAe]; exact Or.inr h
  have hl := lv_entry ([.ref h0, .int x]) (n := 3) (Nat.le_of_ble_eq_true rfl)
  rw [lg_entry_eq]
  generalize (lg_sl ([.ref h0, .int x]) ++ List.replicate (3 - (lg_sl ([.ref h0, .int x])).length) Slot.unset).toArray = ls at hl ⊢
  have hl : lv_has ls 3 [(0, .ref h0), (1, .int x)] := hl
  refine zH (A := A) (ws := [(h0, .inr (11, [.ref tp, .int 0, .int 0, .int (-1), .ref td, .ref sh, .ref ch, .ref sw, .ref wk, .ref g1, .ref g2, .ref g3, .int 0, .int 0, .ref tl, .null, .null])), (tp, .inl (kt, 1000, .inl f0))]) (fun H hP hS => ?_) hP
  have ho := fun w (h : w ∈ ow_c_append0) => hts w (List.mem_cons_of_mem _ (List.mem_append_left _ h))
  have hin11 : ∀ w ∈ u_ws RX11 TX11 17, w ∈ vs_c_append0 := fun w h => (List.mem_cons_of_mem _ (List.mem_append_right _ h))
  refine lv_bipush (v := 24) hx hb dX11_append_0 (by decide) ?_
  refine lv_istore_n (lv' := [(2, .int 24), (0, .ref h0), (1, .int x)]) hx hb dX11_append_2 rfl hl (by decide) rfl (fun ls hl => ?_)
  refine lv_iload_n hx hb dX11_append_3 rfl (lv_at hl 0 rfl) ?_
  refine lv_if_lt (tgt := 46) hx hb dX11_append_4 (by decide) (fun cc => absurd cc (by decide)) (fun _ => ?_)
  refine lv_aload_n hx hb dX11_append_7 rfl (lv_at hl 1 rfl) ?_
  refine va_get (D := (dC, dI)) (ci := 11) (v := .int 0) (C := RX11) (T := TX11) (N := 17) hx hb hts hin11 hown hK hP 0 rfl rfl 1 (by decide) (ho (.fieldLink RX11 13 "NearEnough" "bytes" "I") (List.mem_of_getElem? (i := 0) rfl)) (fun _ h9 => h9) rfl dX11_append_8 ?_
  refine lv_sipush (v := 1000) hx hb dX11_append_11 (by decide) ?_
  refine lv_icmp_ge (tgt := 46) hx hb dX11_append_14 (by decide) (fun cc => absurd cc (by decide)) (fun _ => ?_)
  refine lv_aload_n hx hb dX11_append_17 rfl (lv_at hl 1 rfl) ?_
  refine va_get (D := (dC, dI)) (ci := 11) (v := .ref tp) (C := RX11) (T := TX11) (N := 17) hx hb hts hin11 hown hK hP 0 rfl rfl 0 (by decide) (ho (.fieldLink RX11 9 "NearEnough" "tape" "[B") (List.mem_of_getElem? (i := 1) rfl)) (fun _ h9 => h9) rfl dX11_append_18 ?_
  refine lv_aload_n hx hb dX11_append_21 rfl (lv_at hl 1 rfl) ?_
  refine va_get (D := (dC, dI)) (ci := 11) (v := .int 0) (C := RX11) (T := TX11) (N := 17) hx hb hts hin11 hown hK hP 0 rfl rfl 1 (by decide) (ho (.fieldLink RX11 13 "NearEnough" "bytes" "I") (List.mem_of_getElem? (i := 0) rfl)) (fun _ h9 => h9) rfl dX11_append_22 ?_
  refine lv_iload_n hx hb dX11_append_25 rfl (lv_at hl 2 rfl) ?_
  refine lv_iload_n hx hb dX11_append_26 rfl (lv_at hl 0 rfl) ?_
  refine lv_iushr hx hb dX11_append_27 rfl ?_
  refine lv_topi (fun z1 ez1 => ?_)
  refine lv_i2b hx hb dX11_append_28 rfl ?_
  refine lv_topi (fun z2 ez2 => ?_)
  refine va_bast hx hb hK hP hD hS 1 0 rfl rfl (by unfold vp_in; decide) dX11_append_29 (fun H locs hP hD hS => ?_)
  have hP : va_P (dC, dI) vwCl [(h0, .inr (11, [.ref tp, .int 0, .int 0, .int (-1), .ref td, .ref sh, .ref ch, .ref sw, .ref wk, .ref g1, .ref g2, .ref g3, .int 0, .int 0, .ref tl, .null, .null])), (tp, .inl (kt, 1000, .inl (upd f0 (Int32.toNatClampNeg 0) (vp_nar .byte z2))))] H := hP
  have hD : va_D A [(h0, .inr (11, [.ref tp, .int 0, .int 0, .int (-1), .ref td, .ref sh, .ref ch, .ref sw, .ref wk, .ref g1, .ref g2, .ref g3, .int 0, .int 0, .ref tl, .null, .null])), (tp, .inl (kt, 1000, .inl (upd f0 (Int32.toNatClampNeg 0) (vp_nar .byte z2))))] := hD
  generalize upd f0 (Int32.toNatClampNeg 0) (vp_nar .byte z2) = f4 at hP hD
  have hP : va_P (dC, dI) vwCl [(h0, .inr (11, [.ref tp, .int 0, .int 0, .int (-1), .ref td, .ref sh, .ref ch, .ref sw, .ref wk, .ref g1, .ref g2, .ref g3, .int 0, .int 0, .ref tl, .null, .null])), (tp, .inl (kt, 1000, .inl f4))] H := hP
  have hD : va_D A [(h0, .inr (11, [.ref tp, .int 0, .int 0, .int (-1), .ref td, .ref sh, .ref ch, .ref sw, .ref wk, .ref g1, .ref g2, .ref g3, .int 0, .int 0, .ref tl, .null, .null])), (tp, .inl (kt, 1000, .inl f4))] := hD
  refine lv_aload_n hx hb dX11_append_30 rfl (lv_at hl 1 rfl) ?_
  refine lv_dup hx hb dX11_append_31 rfl ?_
  refine va_get (D := (dC, dI)) (ci := 11) (v := .int 0) (C := RX11) (T := TX11) (N := 17) hx hb hts hin11 hown hK hP 0 rfl rfl 1 (by decide) (ho (.fieldLink RX11 13 "NearEnough" "bytes" "I") (List.mem_of_getElem? (i := 0) rfl)) (fun _ h9 => h9) rfl dX11_append_32 ?_
  refine lv_iconst (v := 1) hx hb dX11_append_35 (by decide) ?_
  refine lv_iadd hx hb dX11_append_36 ?_
  refine zi (v := 1) (by decide) ?_
  refine va_put (D := (dC, dI)) (ci := 11) (v := .int 1) (ty := tyX11 1) (C := RX11) (T := TX11) (N := 17) hx hb hts hin11 tyX11 tyX11_ok nmX11 hown hK hP hD hS 0 rfl rfl 1 (by decide) (ho (.fieldLink RX11 13 "NearEnough" "bytes" "I") (List.mem_of_getElem? (i := 0) rfl)) (fun _ h9 => h9) rfl (by decide +kernel) rfl rfl (Nat.le_of_ble_eq_true rfl) dX11_append_37 (fun H locs hP hD hS => ?_)
  have hP : va_P (dC, dI) vwCl [(h0, .inr (11, [.ref tp, .int 1, .int 0, .int (-1), .ref td, .ref sh, .ref ch, .ref sw, .ref wk, .ref g1, .ref g2, .ref g3, .int 0, .int 0, .ref tl, .null, .null])), (tp, .inl (kt, 1000, .inl f4))] H := hP
  have hD : va_D A [(h0, .inr (11, [.ref tp, .int 1, .int 0, .int (-1), .ref td, .ref sh, .ref ch, .ref sw, .ref wk, .ref g1, .ref g2, .ref g3, .int 0, .int 0, .ref tl, .null, .null])), (tp, .inl (kt, 1000, .inl f4))] := hD
  refine lv_iinc (v := 16) (lv' := [(2, .int 16), (0, .ref h0), (1, .int x)]) hx hb dX11_append_40 hl (k := 0) rfl (by decide) (by decide) rfl (fun ls hl => ?_)
  refine lv_goto (tgt := 3) hx hb dX11_append_43 (by decide) ?_
  refine lv_iload_n hx hb dX11_append_3 rfl (lv_at hl 0 rfl) ?_
  refine lv_if_lt (tgt := 46) hx hb dX11_append_4 (by decide) (fun cc => absurd cc (by decide)) (fun _ => ?_)
  refine lv_aload_n hx hb dX11_append_7 rfl (lv_at hl 1 rfl) ?_
  refine va_get (D := (dC, dI)) (ci := 11) (v := .int 1) (C := RX11) (T := TX11) (N := 17) hx hb hts hin11 hown hK hP 0 rfl rfl 1 (by decide) (ho (.fieldLink RX11 13 "NearEnough" "bytes" "I") (List.mem_of_getElem? (i := 0) rfl)) (fun _ h9 => h9) rfl dX11_append_8 ?_
  refine lv_sipush (v := 1000) hx hb dX11_append_11 (by decide) ?_
  refine lv_icmp_ge (tgt := 46) hx hb dX11_append_14 (by decide) (fun cc => absurd cc (by decide)) (fun _ => ?_)
  refine lv_aload_n hx hb dX11_append_17 rfl (lv_at hl 1 rfl) ?_
  refine va_get (D := (dC, dI)) (ci := 11) (v := .ref tp) (C := RX11) (T := TX11) (N := 17) hx hb hts hin11 hown hK hP 0 rfl rfl 0 (by decide) (ho (.fieldLink RX11 9 "NearEnough" "tape" "[B") (List.mem_of_getElem? (i := 1) rfl)) (fun _ h9 => h9) rfl dX11_append_18 ?_
  refine lv_aload_n hx hb dX11_append_21 rfl (lv_at hl 1 rfl) ?_
  refine va_get (D := (dC, dI)) (ci := 11) (v := .int 1) (C := RX11) (T := TX11) (N := 17) hx hb hts hin11 hown hK hP 0 rfl rfl 1 (by decide) (ho (.fieldLink RX11 13 "NearEnough" "bytes" "I") (List.mem_of_getElem? (i := 0) rfl)) (fun _ h9 => h9) rfl dX11_append_22 ?_
  refine lv_iload_n hx hb dX11_append_25 rfl (lv_at hl 2 rfl) ?_
  refine lv_iload_n hx hb dX11_append_26 rfl (lv_at hl 0 rfl) ?_
  refine lv_iushr hx hb dX11_append_27 rfl ?_
  refine lv_topi (fun z5 ez5 => ?_)
  refine lv_i2b hx hb dX11_append_28 rfl ?_
  refine lv_topi (fun z6 ez6 => ?_)
  refine va_bast hx hb hK hP hD hS 1 0 rfl rfl (by unfold vp_in; decide) dX11_append_29 (fun H locs hP hD hS => ?_)
  have hP : va_P (dC, dI) vwCl [(h0, .inr (11, [.ref tp, .int 1, .int 0, .int (-1), .ref td, .ref sh, .ref ch, .ref sw, .ref wk, .ref g1, .ref g2, .ref g3, .int 0, .int 0, .ref tl, .null, .null])), (tp, .inl (kt, 1000, .inl (upd f4 (Int32.toNatClampNeg 1) (vp_nar .byte z6))))] H := hP
  have hD : va_D A [(h0, .inr (11, [.ref tp, .int 1, .int 0, .int (-1), .ref td, .ref sh, .ref ch, .ref sw, .ref wk, .ref g1, .ref g2, .ref g3, .int 0, .int 0, .ref tl, .null, .null])), (tp, .inl (kt, 1000, .inl (upd f4 (Int32.toNatClampNeg 1) (vp_nar .byte z6))))] := hD
  generalize upd f4 (Int32.toNatClampNeg 1) (vp_nar .byte z6) = f8 at hP hD
  have hP : va_P (dC, dI) vwCl [(h0, .inr (11, [.ref tp, .int 1, .int 0, .int (-1), .ref td, .ref sh, .ref ch, .ref sw, .ref wk, .ref g1, .ref g2, .ref g3, .int 0, .int 0, .ref tl, .null, .null])), (tp, .inl (kt, 1000, .inl f8))] H := hP
  have hD : va_D A [(h0, .inr (11, [.ref tp, .int 1, .int 0, .int (-1), .ref td, .ref sh, .ref ch, .ref sw, .ref wk, .ref g1, .ref g2, .ref g3, .int 0, .int 0, .ref tl, .null, .null])), (tp, .inl (kt, 1000, .inl f8))] := hD
  refine lv_aload_n hx hb dX11_append_30 rfl (lv_at hl 1 rfl) ?_
  refine lv_dup hx hb dX11_append_31 rfl ?_
  refine va_get (D := (dC, dI)) (ci := 11) (v := .int 1) (C := RX11) (T := TX11) (N := 17) hx hb hts hin11 hown hK hP 0 rfl rfl 1 (by decide) (ho (.fieldLink RX11 13 "NearEnough" "bytes" "I") (List.mem_of_getElem? (i := 0) rfl)) (fun _ h9 => h9) rfl dX11_append_32 ?_
  refine lv_iconst (v := 1) hx hb dX11_append_35 (by decide) ?_
  refine lv_iadd hx hb dX11_append_36 ?_
  refine zi (v := 2) (by decide) ?_
  refine va_put (D := (dC, dI)) (ci := 11) (v := .int 2) (ty := tyX11 1) (C := RX11) (T := TX11) (N := 17) hx hb hts hin11 tyX11 tyX11_ok nmX11 hown hK hP hD hS 0 rfl rfl 1 (by decide) (ho (.fieldLink RX11 13 "NearEnough" "bytes" "I") (List.mem_of_getElem? (i := 0) rfl)) (fun _ h9 => h9) rfl (by decide +kernel) rfl rfl (Nat.le_of_ble_eq_true rfl) dX11_append_37 (fun H locs hP hD hS => ?_)
  have hP : va_P (dC, dI) vwCl [(h0, .inr (11, [.ref tp, .int 2, .int 0, .int (-1), .ref td, .ref sh, .ref ch, .ref sw, .ref wk, .ref g1, .ref g2, .ref g3, .int 0, .int 0, .ref tl, .null, .null])), (tp, .inl (kt, 1000, .inl f8))] H := hP
  have hD : va_D A [(h0, .inr (11, [.ref tp, .int 2, .int 0, .int (-1), .ref td, .ref sh, .ref ch, .ref sw, .ref wk, .ref g1, .ref g2, .ref g3, .int 0, .int 0, .ref tl, .null, .null])), (tp, .inl (kt, 1000, .inl f8))] := hD
  refine lv_iinc (v := 8) (lv' := [(2, .int 8), (0, .ref h0), (1, .int x)]) hx hb dX11_append_40 hl (k := 0) rfl (by decide) (by decide) rfl (fun ls hl => ?_)
  refine lv_goto (tgt := 3) hx hb dX11_append_43 (by decide) ?_
  refine lv_iload_n hx hb dX11_append_3 rfl (lv_at hl 0 rfl) ?_
  refine lv_if_lt (tgt := 46) hx hb dX11_append_4 (by decide) (fun cc => absurd cc (by decide)) (fun _ => ?_)
  refine lv_aload_n hx hb dX11_append_7 rfl (lv_at hl 1 rfl) ?_
  refine va_get (D := (dC, dI)) (ci := 11) (v := .int 2) (C := RX11) (T := TX11) (N := 17) hx hb hts hin11 hown hK hP 0 rfl rfl 1 (by decide) (ho (.fieldLink RX11 13 "NearEnough" "bytes" "I") (List.mem_of_getElem? (i := 0) rfl)) (fun _ h9 => h9) rfl dX11_append_8 ?_
  refine lv_sipush (v := 1000) hx hb dX11_append_11 (by decide) ?_
  refine lv_icmp_ge (tgt := 46) hx hb dX11_append_14 (by decide) (fun cc => absurd cc (by decide)) (fun _ => ?_)
  refine lv_aload_n hx hb dX11_append_17 rfl (lv_at hl 1 rfl) ?_
  refine va_get (D := (dC, dI)) (ci := 11) (v := .ref tp) (C := RX11) (T := TX11) (N := 17) hx hb hts hin11 hown hK hP 0 rfl rfl 0 (by decide) (ho (.fieldLink RX11 9 "NearEnough" "tape" "[B") (List.mem_of_getElem? (i := 1) rfl)) (fun _ h9 => h9) rfl dX11_append_18 ?_
  refine lv_aload_n hx hb dX11_append_21 rfl (lv_at hl 1 rfl) ?_
  refine va_get (D := (dC, dI)) (ci := 11) (v := .int 2) (C := RX11) (T := TX11) (N := 17) hx hb hts hin11 hown hK hP 0 rfl rfl 1 (by decide) (ho (.fieldLink RX11 13 "NearEnough" "bytes" "I") (List.mem_of_getElem? (i := 0) rfl)) (fun _ h9 => h9) rfl dX11_append_22 ?_
  refine lv_iload_n hx hb dX11_append_25 rfl (lv_at hl 2 rfl) ?_
  refine lv_iload_n hx hb dX11_append_26 rfl (lv_at hl 0 rfl) ?_
  refine lv_iushr hx hb dX11_append_27 rfl ?_
  refine lv_topi (fun z9 ez9 => ?_)
  refine lv_i2b hx hb dX11_append_28 rfl ?_
  refine lv_topi (fun z10 ez10 => ?_)
  refine va_bast hx hb hK hP hD hS 1 0 rfl rfl (by unfold vp_in; decide) dX11_append_29 (fun H locs hP hD hS => ?_)
  have hP : va_P (dC, dI) vwCl [(h0, .inr (11, [.ref tp, .int 2, .int 0, .int (-1), .ref td, .ref sh, .ref ch, .ref sw, .ref wk, .ref g1, .ref g2, .ref g3, .int 0, .int 0, .ref tl, .null, .null])), (tp, .inl (kt, 1000, .inl (upd f8 (Int32.toNatClampNeg 2) (vp_nar .byte z10))))] H := hP
  have hD : va_D A [(h0, .inr (11, [.ref tp, .int 2, .int 0, .int (-1), .ref td, .ref sh, .ref ch, .ref sw, .ref wk, .ref g1, .ref g2, .ref g3, .int 0, .int 0, .ref tl, .null, .null])), (tp, .inl (kt, 1000, .inl (upd f8 (Int32.toNatClampNeg 2) (vp_nar .byte z10))))] := hD
  generalize upd f8 (Int32.toNatClampNeg 2) (vp_nar .byte z10) = f12 at hP hD
  have hP : va_P (dC, dI) vwCl [(h0, .inr (11, [.ref tp, .int 2, .int 0, .int (-1), .ref td, .ref sh, .ref ch, .ref sw, .ref wk, .ref g1, .ref g2, .ref g3, .int 0, .int 0, .ref tl, .null, .null])), (tp, .inl (kt, 1000, .inl f12))] H := hP
  have hD : va_D A [(h0, .inr (11, [.ref tp, .int 2, .int 0, .int (-1), .ref td, .ref sh, .ref ch, .ref sw, .ref wk, .ref g1, .ref g2, .ref g3, .int 0, .int 0, .ref tl, .null, .null])), (tp, .inl (kt, 1000, .inl f12))] := hD
  refine lv_aload_n hx hb dX11_append_30 rfl (lv_at hl 1 rfl) ?_
  refine lv_dup hx hb dX11_append_31 rfl ?_
  refine va_get (D := (dC, dI)) (ci := 11) (v := .int 2) (C := RX11) (T := TX11) (N := 17) hx hb hts hin11 hown hK hP 0 rfl rfl 1 (by decide) (ho (.fieldLink RX11 13 "NearEnough" "bytes" "I") (List.mem_of_getElem? (i := 0) rfl)) (fun _ h9 => h9) rfl dX11_append_32 ?_
  refine lv_iconst (v := 1) hx hb dX11_append_35 (by decide) ?_
  refine lv_iadd hx hb dX11_append_36 ?_
  refine zi (v := 3) (by decide) ?_
  refine va_put (D := (dC, dI)) (ci := 11) (v := .int 3) (ty := tyX11 1) (C := RX11) (T := TX11) (N := 17) hx hb hts hin11 tyX11 tyX11_ok nmX11 hown hK hP hD hS 0 rfl rfl 1 (by decide) (ho (.fieldLink RX11 13 "NearEnough" "bytes" "I") (List.mem_of_getElem? (i := 0) rfl)) (fun _ h9 => h9) rfl (by decide +kernel) rfl rfl (Nat.le_of_ble_eq_true rfl) dX11_append_37 (fun H locs hP hD hS => ?_)
  have hP : va_P (dC, dI) vwCl [(h0, .inr (11, [.ref tp, .int 3, .int 0, .int (-1), .ref td, .ref sh, .ref ch, .ref sw, .ref wk, .ref g1, .ref g2, .ref g3, .int 0, .int 0, .ref tl, .null, .null])), (tp, .inl (kt, 1000, .inl f12))] H := hP
  have hD : va_D A [(h0, .inr (11, [.ref tp, .int 3, .int 0, .int (-1), .ref td, .ref sh, .ref ch, .ref sw, .ref wk, .ref g1, .ref g2, .ref g3, .int 0, .int 0, .ref tl, .null, .null])), (tp, .inl (kt, 1000, .inl f12))] := hD
  refine lv_iinc (v := 0) (lv' := [(2, .int 0), (0, .ref h0), (1, .int x)]) hx hb dX11_append_40 hl (k := 0) rfl (by decide) (by decide) rfl (fun ls hl => ?_)
  refine lv_goto (tgt := 3) hx hb dX11_append_43 (by decide) ?_
  refine lv_iload_n hx hb dX11_append_3 rfl (lv_at hl 0 rfl) ?_
  refine lv_if_lt (tgt := 46) hx hb dX11_append_4 (by decide) (fun cc => absurd cc (by decide)) (fun _ => ?_)
  refine lv_aload_n hx hb dX11_append_7 rfl (lv_at hl 1 rfl) ?_
  refine va_get (D := (dC, dI)) (ci := 11) (v := .int 3) (C := RX11) (T := TX11) (N := 17) hx hb hts hin11 hown hK hP 0 rfl rfl 1 (by decide) (ho (.fieldLink RX11 13 "NearEnough" "bytes" "I") (List.mem_of_getElem? (i := 0) rfl)) (fun _ h9 => h9) rfl dX11_append_8 ?_
  refine lv_sipush (v := 1000) hx hb dX11_append_11 (by decide) ?_
  refine lv_icmp_ge (tgt := 46) hx hb dX11_append_14 (by decide) (fun cc => absurd cc (by decide)) (fun _ => ?_)
  refine lv_aload_n hx hb dX11_append_17 rfl (lv_at hl 1 rfl) ?_
  refine va_get (D := (dC, dI)) (ci := 11) (v := .ref tp) (C := RX11) (T := TX11) (N := 17) hx hb hts hin11 hown hK hP 0 rfl rfl 0 (by decide) (ho (.fieldLink RX11 9 "NearEnough" "tape" "[B") (List.mem_of_getElem? (i := 1) rfl)) (fun _ h9 => h9) rfl dX11_append_18 ?_
  refine lv_aload_n hx hb dX11_append_21 rfl (lv_at hl 1 rfl) ?_
  refine va_get (D := (dC, dI)) (ci := 11) (v := .int 3) (C := RX11) (T := TX11) (N := 17) hx hb hts hin11 hown hK hP 0 rfl rfl 1 (by decide) (ho (.fieldLink RX11 13 "NearEnough" "bytes" "I") (List.mem_of_getElem? (i := 0) rfl)) (fun _ h9 => h9) rfl dX11_append_22 ?_
  refine lv_iload_n hx hb dX11_append_25 rfl (lv_at hl 2 rfl) ?_
  refine lv_iload_n hx hb dX11_append_26 rfl (lv_at hl 0 rfl) ?_
  refine lv_iushr hx hb dX11_append_27 rfl ?_
  refine lv_topi (fun z13 ez13 => ?_)
  refine lv_i2b hx hb dX11_append_28 rfl ?_
  refine lv_topi (fun z14 ez14 => ?_)
  refine va_bast hx hb hK hP hD hS 1 0 rfl rfl (by unfold vp_in; decide) dX11_append_29 (fun H locs hP hD hS => ?_)
  have hP : va_P (dC, dI) vwCl [(h0, .inr (11, [.ref tp, .int 3, .int 0, .int (-1), .ref td, .ref sh, .ref ch, .ref sw, .ref wk, .ref g1, .ref g2, .ref g3, .int 0, .int 0, .ref tl, .null, .null])), (tp, .inl (kt, 1000, .inl (upd f12 (Int32.toNatClampNeg 3) (vp_nar .byte z14))))] H := hP
  have hD : va_D A [(h0, .inr (11, [.ref tp, .int 3, .int 0, .int (-1), .ref td, .ref sh, .ref ch, .ref sw, .ref wk, .ref g1, .ref g2, .ref g3, .int 0, .int 0, .ref tl, .null, .null])), (tp, .inl (kt, 1000, .inl (upd f12 (Int32.toNatClampNeg 3) (vp_nar .byte z14))))] := hD
  generalize upd f12 (Int32.toNatClampNeg 3) (vp_nar .byte z14) = f16 at hP hD
  have hP : va_P (dC, dI) vwCl [(h0, .inr (11, [.ref tp, .int 3, .int 0, .int (-1), .ref td, .ref sh, .ref ch, .ref sw, .ref wk, .ref g1, .ref g2, .ref g3, .int 0, .int 0, .ref tl, .null, .null])), (tp, .inl (kt, 1000, .inl f16))] H := hP
  have hD : va_D A [(h0, .inr (11, [.ref tp, .int 3, .int 0, .int (-1), .ref td, .ref sh, .ref ch, .ref sw, .ref wk, .ref g1, .ref g2, .ref g3, .int 0, .int 0, .ref tl, .null, .null])), (tp, .inl (kt, 1000, .inl f16))] := hD
  refine lv_aload_n hx hb dX11_append_30 rfl (lv_at hl 1 rfl) ?_
  refine lv_dup hx hb dX11_append_31 rfl ?_
  refine va_get (D := (dC, dI)) (ci := 11) (v := .int 3) (C := RX11) (T := TX11) (N := 17) hx hb hts hin11 hown hK hP 0 rfl rfl 1 (by decide) (ho (.fieldLink RX11 13 "NearEnough" "bytes" "I") (List.mem_of_getElem? (i := 0) rfl)) (fun _ h9 => h9) rfl dX11_append_32 ?_
  refine lv_iconst (v := 1) hx hb dX11_append_35 (by decide) ?_
  refine lv_iadd hx hb dX11_append_36 ?_
  refine zi (v := 4) (by decide) ?_
  refine va_put (D := (dC, dI)) (ci := 11) (v := .int 4) (ty := tyX11 1) (C := RX11) (T := TX11) (N := 17) hx hb hts hin11 tyX11 tyX11_ok nmX11 hown hK hP hD hS 0 rfl rfl 1 (by decide) (ho (.fieldLink RX11 13 "NearEnough" "bytes" "I") (List.mem_of_getElem? (i := 0) rfl)) (fun _ h9 => h9) rfl (by decide +kernel) rfl rfl (Nat.le_of_ble_eq_true rfl) dX11_append_37 (fun H locs hP hD hS => ?_)
  have hP : va_P (dC, dI) vwCl [(h0, .inr (11, [.ref tp, .int 4, .int 0, .int (-1), .ref td, .ref sh, .ref ch, .ref sw, .ref wk, .ref g1, .ref g2, .ref g3, .int 0, .int 0, .ref tl, .null, .null])), (tp, .inl (kt, 1000, .inl f16))] H := hP
  have hD : va_D A [(h0, .inr (11, [.ref tp, .int 4, .int 0, .int (-1), .ref td, .ref sh, .ref ch, .ref sw, .ref wk, .ref g1, .ref g2, .ref g3, .int 0, .int 0, .ref tl, .null, .null])), (tp, .inl (kt, 1000, .inl f16))] := hD
  refine lv_iinc (v := (-8)) (lv' := [(2, .int (-8)), (0, .ref h0), (1, .int x)]) hx hb dX11_append_40 hl (k := 0) rfl (by decide) (by decide) rfl (fun ls hl => ?_)
  refine lv_goto (tgt := 3) hx hb dX11_append_43 (by decide) ?_
  refine lv_iload_n hx hb dX11_append_3 rfl (lv_at hl 0 rfl) ?_
  refine lv_if_lt (tgt := 46) hx hb dX11_append_4 (by decide) (fun _ => ?_) (fun cc => absurd (by decide) cc)
  refine W.widen (k := 0) (n := 0) (Nat.le_of_ble_eq_true rfl) (Nat.le_of_ble_eq_true rfl) ?_
  exact W.vret hx hb hr (fun t ht hW => ⟨⟨f16, rfl, trivial, wEn_of (hP.sub [0, 1] rfl) (hK.sub [] rfl) (hD.sub [0, 1] (by decide) rfl) ht hW⟩, hS.F ht⟩) hS.2.2 dX11_append_46
def ow_c_append4 : List Cond := [.fieldLink RX11 13 "NearEnough" "bytes" "I", .fieldLink RX11 9 "NearEnough" "tape" "[B"]
def vs_c_append4 : List Cond := .code yX11_append cX11_append 3 none :: (ow_c_append4 ++ (wsX110))
theorem vg_c_append4 : vs_c_append4.all goodWord = true := by decide +kernel
set_option maxHeartbeats 4000000 in
set_option maxRecDepth 100000 in
theorem c_append4 (l : Launch) (dC : Nat → ClassId) (dI : Nat → Nat → Nat) (h0 : Nat) (tp : Nat) (td : Nat) (sh : Nat) (ch : Nat) (sw : Nat) (wk : Nat) (g1 : Nat) (g2 : Nat) (g3 : Nat) (tl : Nat) (kt : ClassId) (f0 : Nat → Int32) (x : Int32) (sz : Nat) : Met l yX11_append vs_c_append4 ({ frames := 0, cells := 0, slots := 0, locals := 0 }) (va_Pc [.ref h0, .int x] (wSt dC dI [(h0, .inr (11, [.ref tp, .int 4, .int 0, .int (-1), .ref td, .ref sh, .ref ch, .ref sw, .ref wk, .ref g1, .ref g2, .ref g3, .int 0, .int 0, .ref tl, .null, .null])), (tp, .inl (kt, 1000, .inl f0))] [(kt, .byte)] sz)) (va_Qv (fun (_ : (Nat → Int32)) => True) (fun (u : (Nat → Int32)) => wEn dC dI (va_A [(h0, .inr (11, [.ref tp, .int 4, .int 0, .int (-1), .ref td, .ref sh, .ref ch, .ref sw, .ref wk, .ref g1, .ref g2, .ref g3, .int 0, .int 0, .ref tl, .null, .null])), (tp, .inl (kt, 1000, .inl f0))] sz) [(h0, .inr (11, [.ref tp, .int 8, .int 0, .int (-1), .ref td, .ref sh, .ref ch, .ref sw, .ref wk, .ref g1, .ref g2, .ref g3, .int 0, .int 0, .ref tl, .null, .null])), (tp, .inl (kt, 1000, .inl u))] []) (va_A [(h0, .inr (11, [.ref tp, .int 4, .int 0, .int (-1), .ref td, .ref sh, .ref ch, .ref sw, .ref wk, .ref g1, .ref g2, .ref g3, .int 0, .int 0, .ref tl, .null, .null])), (tp, .inl (kt, 1000, .inl f0))] sz)) 0 0 (va_A [(h0, .inr (11, [.ref tp, .int 4, .int 0, .int (-1), .ref td, .ref sh, .ref ch, .ref sw, .ref wk, .ref g1, .ref g2, .ref g3, .int 0, .int 0, .ref tl, .null, .null])), (tp, .inl (kt, 1000, .inl f0))] sz) := by
  refine Met.ofW (cc := cX11_append) (maxL := 3) (ret := none) (by decide) rfl ?_
  intro p e s m args below meth c s₁ B hml hv
  obtain ⟨rfl, hsz, hP, hK, hD0, hE⟩ := hv
  have hx := B.exec
  have hb := B.bytes
  have hr := B.returns
  have hts := atoms_spec (ws := vs_c_append4) B.pre
  have hown : s.vm.findClass RX11 = some m.cls := findClass_of_methodNamed B.named
  have hlocks := B.notSynchronized
  subst hsz
  have hD := hD0.self (sz := s.heap.size)
  generalize hAe : va_A [(h0, .inr (11, [.ref tp, .int 4, .int 0, .int (-1), .ref td, .ref sh, .ref ch, .ref sw, .ref wk, .ref g1, .ref g2, .ref g3, .int 0, .int 0, .ref tl, .null, .null])), (tp, .inl (kt, 1000, .inl f0))] s.heap.size = A at hD ⊢
  have hA : ∀ q : Nat, s.heap.size ≤ q → A q := fun q h => by rw [← hAe]; exact Or.inr h
  have hl := lv_entry ([.ref h0, .int x]) (n := 3) (Nat.le_of_ble_eq_true rfl)
  rw [lg_entry_eq]
  generalize (lg_sl ([.ref h0, .int x]) ++ List.replicate (3 - (lg_sl ([.ref h0, .int x])).length) Slot.unset).toArray = ls at hl ⊢
  have hl : lv_has ls 3 [(0, .ref h0), (1, .int x)] := hl
  refine zH (A := A) (ws := [(h0, .inr (11, [.ref tp, .int 4, .int 0, .int (-1), .ref td, .ref sh, .ref ch, .ref sw, .ref wk, .ref g1, .ref g2, .ref g3, .int 0, .int 0, .ref tl, .null, .null])), (tp, .inl (kt, 1000, .inl f0))]) (fun H hP hS => ?_) hP
  have ho := fun w (h : w ∈ ow_c_append4) => hts w (List.mem_cons_of_mem _ (List.mem_append_left _ h))
  have hin11 : ∀ w ∈ u_ws RX11 TX11 17, w ∈ vs_c_append4 := fun w h => (List.mem_cons_of_mem _ (List.mem_append_right _ h))
  refine lv_bipush (v := 24) hx hb dX11_append_0 (by decide) ?_
  refine lv_istore_n (lv' := [(2, .int 24), (0, .ref h0), (1, .int x)]) hx hb dX11_append_2 rfl hl (by decide) rfl (fun ls hl => ?_)
  refine lv_iload_n hx hb dX11_append_3 rfl (lv_at hl 0 rfl) ?_
  refine lv_if_lt (tgt := 46) hx hb dX11_append_4 (by decide) (fun cc => absurd cc (by decide)) (fun _ => ?_)
  refine lv_aload_n hx hb dX11_append_7 rfl (lv_at hl 1 rfl) ?_
  refine va_get (D := (dC, dI)) (ci := 11) (v := .int 4) (C := RX11) (T := TX11) (N := 17) hx hb hts hin11 hown hK hP 0 rfl rfl 1 (by decide) (ho (.fieldLink RX11 13 "NearEnough" "bytes" "I") (List.mem_of_getElem? (i := 0) rfl)) (fun _ h9 => h9) rfl dX11_append_8 ?_
  refine lv_sipush (v := 1000) hx hb dX11_append_11 (by decide) ?_
  refine lv_icmp_ge (tgt := 46) hx hb dX11_append_14 (by decide) (fun cc => absurd cc (by decide)) (fun _ => ?_)
  refine lv_aload_n hx hb dX11_append_17 rfl (lv_at hl 1 rfl) ?_
  refine va_get (D := (dC, dI)) (ci := 11) (v := .ref tp) (C := RX11) (T := TX11) (N := 17) hx hb hts hin11 hown hK hP 0 rfl rfl 0 (by decide) (ho (.fieldLink RX11 9 "NearEnough" "tape" "[B") (List.mem_of_getElem? (i := 1) rfl)) (fun _ h9 => h9) rfl dX11_append_18 ?_
  refine lv_aload_n hx hb dX11_append_21 rfl (lv_at hl 1 rfl) ?_
  refine va_get (D := (dC, dI)) (ci := 11) (v := .int 4) (C := RX11) (T := TX11) (N := 17) hx hb hts hin11 hown hK hP 0 rfl rfl 1 (by decide) (ho (.fieldLink RX11 13 "NearEnough" "bytes" "I") (List.mem_of_getElem? (i := 0) rfl)) (fun _ h9 => h9) rfl dX11_append_22 ?_
  refine lv_iload_n hx hb dX11_append_25 rfl (lv_at hl 2 rfl) ?_
  refine lv_iload_n hx hb dX11_append_26 rfl (lv_at hl 0 rfl) ?_
  refine lv_iushr hx hb dX11_append_27 rfl ?_
  refine lv_topi (fun z1 ez1 => ?_)
  refine lv_i2b hx hb dX11_append_28 rfl ?_
  refine lv_topi (fun z2 ez2 => ?_)
  refine va_bast hx hb hK hP hD hS 1 0 rfl rfl (by unfold vp_in; decide) dX11_append_29 (fun H locs hP hD hS => ?_)
  have hP : va_P (dC, dI) vwCl [(h0, .inr (11, [.ref tp, .int 4, .int 0, .int (-1), .ref td, .ref sh, .ref ch, .ref sw, .ref wk, .ref g1, .ref g2, .ref g3, .int 0, .int 0, .ref tl, .null, .null])), (tp, .inl (kt, 1000, .inl (upd f0 (Int32.toNatClampNeg 4) (vp_nar .byte z2))))] H := hP
  have hD : va_D A [(h0, .inr (11, [.ref tp, .int 4, .int 0, .int (-1), .ref td, .ref sh, .ref ch, .ref sw, .ref wk, .ref g1, .ref g2, .ref g3, .int 0, .int 0, .ref tl, .null, .null])), (tp, .inl (kt, 1000, .inl (upd f0 (Int32.toNatClampNeg 4) (vp_nar .byte z2))))] := hD
  generalize upd f0 (Int32.toNatClampNeg 4) (vp_nar .byte z2) = f4 at hP hD
  have hP : va_P (dC, dI) vwCl [(h0, .inr (11, [.ref tp, .int 4, .int 0, .int (-1), .ref td, .ref sh, .ref ch, .ref sw, .ref wk, .ref g1, .ref g2, .ref g3, .int 0, .int 0, .ref tl, .null, .null])), (tp, .inl (kt, 1000, .inl f4))] H := hP
  have hD : va_D A [(h0, .inr (11, [.ref tp, .int 4, .int 0, .int (-1), .ref td, .ref sh, .ref ch, .ref sw, .ref wk, .ref g1, .ref g2, .ref g3, .int 0, .int 0, .ref tl, .null, .null])), (tp, .inl (kt, 1000, .inl f4))] := hD
  refine lv_aload_n hx hb dX11_append_30 rfl (lv_at hl 1 rfl) ?_
  refine lv_dup hx hb dX11_append_31 rfl ?_
  refine va_get (D := (dC, dI)) (ci := 11) (v := .int 4) (C := RX11) (T := TX11) (N := 17) hx hb hts hin11 hown hK hP 0 rfl rfl 1 (by decide) (ho (.fieldLink RX11 13 "NearEnough" "bytes" "I") (List.mem_of_getElem? (i := 0) rfl)) (fun _ h9 => h9) rfl dX11_append_32 ?_
  refine lv_iconst (v := 1) hx hb dX11_append_35 (by decide) ?_
  refine lv_iadd hx hb dX11_append_36 ?_
  refine zi (v := 5) (by decide) ?_
  refine va_put (D := (dC, dI)) (ci := 11) (v := .int 5) (ty := tyX11 1) (C := RX11) (T := TX11) (N := 17) hx hb hts hin11 tyX11 tyX11_ok nmX11 hown hK hP hD hS 0 rfl rfl 1 (by decide) (ho (.fieldLink RX11 13 "NearEnough" "bytes" "I") (List.mem_of_getElem? (i := 0) rfl)) (fun _ h9 => h9) rfl (by decide +kernel) rfl rfl (Nat.le_of_ble_eq_true rfl) dX11_append_37 (fun H locs hP hD hS => ?_)
  have hP : va_P (dC, dI) vwCl [(h0, .inr (11, [.ref tp, .int 5, .int 0, .int (-1), .ref td, .ref sh, .ref ch, .ref sw, .ref wk, .ref g1, .ref g2, .ref g3, .int 0, .int 0, .ref tl, .null, .null])), (tp, .inl (kt, 1000, .inl f4))] H := hP
  have hD : va_D A [(h0, .inr (11, [.ref tp, .int 5, .int 0, .int (-1), .ref td, .ref sh, .ref ch, .ref sw, .ref wk, .ref g1, .ref g2, .ref g3, .int 0, .int 0, .ref tl, .null, .null])), (tp, .inl (kt, 1000, .inl f4))] := hD
  refine lv_iinc (v := 16) (lv' := [(2, .int 16), (0, .ref h0), (1, .int x)]) hx hb dX11_append_40 hl (k := 0) rfl (by decide) (by decide) rfl (fun ls hl => ?_)
  refine lv_goto (tgt := 3) hx hb dX11_append_43 (by decide) ?_
  refine lv_iload_n hx hb dX11_append_3 rfl (lv_at hl 0 rfl) ?_
  refine lv_if_lt (tgt := 46) hx hb dX11_append_4 (by decide) (fun cc => absurd cc (by decide)) (fun _ => ?_)
  refine lv_aload_n hx hb dX11_append_7 rfl (lv_at hl 1 rfl) ?_
  refine va_get (D := (dC, dI)) (ci := 11) (v := .int 5) (C := RX11) (T := TX11) (N := 17) hx hb hts hin11 hown hK hP 0 rfl rfl 1 (by decide) (ho (.fieldLink RX11 13 "NearEnough" "bytes" "I") (List.mem_of_getElem? (i := 0) rfl)) (fun _ h9 => h9) rfl dX11_append_8 ?_
  refine lv_sipush (v := 1000) hx hb dX11_append_11 (by decide) ?_
  refine lv_icmp_ge (tgt := 46) hx hb dX11_append_14 (by decide) (fun cc => absurd cc (by decide)) (fun _ => ?_)
  refine lv_aload_n hx hb dX11_append_17 rfl (lv_at hl 1 rfl) ?_
  refine va_get (D := (dC, dI)) (ci := 11) (v := .ref tp) (C := RX11) (T := TX11) (N := 17) hx hb hts hin11 hown hK hP 0 rfl rfl 0 (by decide) (ho (.fieldLink RX11 9 "NearEnough" "tape" "[B") (List.mem_of_getElem? (i := 1) rfl)) (fun _ h9 => h9) rfl dX11_append_18 ?_
  refine lv_aload_n hx hb dX11_append_21 rfl (lv_at hl 1 rfl) ?_
  refine va_get (D := (dC, dI)) (ci := 11) (v := .int 5) (C := RX11) (T := TX11) (N := 17) hx hb hts hin11 hown hK hP 0 rfl rfl 1 (by decide) (ho (.fieldLink RX11 13 "NearEnough" "bytes" "I") (List.mem_of_getElem? (i := 0) rfl)) (fun _ h9 => h9) rfl dX11_append_22 ?_
  refine lv_iload_n hx hb dX11_append_25 rfl (lv_at hl 2 rfl) ?_
  refine lv_iload_n hx hb dX11_append_26 rfl (lv_at hl 0 rfl) ?_
  refine lv_iushr hx hb dX11_append_27 rfl ?_
  refine lv_topi (fun z5 ez5 => ?_)
  refine lv_i2b hx hb dX11_append_28 rfl ?_
  refine lv_topi (fun z6 ez6 => ?_)
  refine va_bast hx hb hK hP hD hS 1 0 rfl rfl (by unfold vp_in; decide) dX11_append_29 (fun H locs hP hD hS => ?_)
  have hP : va_P (dC, dI) vwCl [(h0, .inr (11, [.ref tp, .int 5, .int 0, .int (-1), .ref td, .ref sh, .ref ch, .ref sw, .ref wk, .ref g1, .ref g2, .ref g3, .int 0, .int 0, .ref tl, .null, .null])), (tp, .inl (kt, 1000, .inl (upd f4 (Int32.toNatClampNeg 5) (vp_nar .byte z6))))] H := hP
  have hD : va_D A [(h0, .inr (11, [.ref tp, .int 5, .int 0, .int (-1), .ref td, .ref sh, .ref ch, .ref sw, .ref wk, .ref g1, .ref g2, .ref g3, .int 0, .int 0, .ref tl, .null, .null])), (tp, .inl (kt, 1000, .inl (upd f4 (Int32.toNatClampNeg 5) (vp_nar .byte z6))))] := hD
  generalize upd f4 (Int32.toNatClampNeg 5) (vp_nar .byte z6) = f8 at hP hD
  have hP : va_P (dC, dI) vwCl [(h0, .inr (11, [.ref tp, .int 5, .int 0, .int (-1), .ref td, .ref sh, .ref ch, .ref sw, .ref wk, .ref g1, .ref g2, .ref g3, .int 0, .int 0, .ref tl, .null, .null])), (tp, .inl (kt, 1000, .inl f8))] H := hP
  have hD : va_D A [(h0, .inr (11, [.ref tp, .int 5, .int 0, .int (-1), .ref td, .ref sh, .ref ch, .ref sw, .ref wk, .ref g1, .ref g2, .ref g3, .int 0, .int 0, .ref tl, .null, .null])), (tp, .inl (kt, 1000, .inl f8))] := hD
  refine lv_aload_n hx hb dX11_append_30 rfl (lv_at hl 1 rfl) ?_
  refine lv_dup hx hb dX11_append_31 rfl ?_
  refine va_get (D := (dC, dI)) (ci := 11) (v := .int 5) (C := RX11) (T := TX11) (N := 17) hx hb hts hin11 hown hK hP 0 rfl rfl 1 (by decide) (ho (.fieldLink RX11 13 "NearEnough" "bytes" "I") (List.mem_of_getElem? (i := 0) rfl)) (fun _ h9 => h9) rfl dX11_append_32 ?_
  refine lv_iconst (v := 1) hx hb dX11_append_35 (by decide) ?_
  refine lv_iadd hx hb dX11_append_36 ?_
  refine zi (v := 6) (by decide) ?_
  refine va_put (D := (dC, dI)) (ci := 11) (v := .int 6) (ty := tyX11 1) (C := RX11) (T := TX11) (N := 17) hx hb hts hin11 tyX11 tyX11_ok nmX11 hown hK hP hD hS 0 rfl rfl 1 (by decide) (ho (.fieldLink RX11 13 "NearEnough" "bytes" "I") (List.mem_of_getElem? (i := 0) rfl)) (fun _ h9 => h9) rfl (by decide +kernel) rfl rfl (Nat.le_of_ble_eq_true rfl) dX11_append_37 (fun H locs hP hD hS => ?_)
  have hP : va_P (dC, dI) vwCl [(h0, .inr (11, [.ref tp, .int 6, .int 0, .int (-1), .ref td, .ref sh, .ref ch, .ref sw, .ref wk, .ref g1, .ref g2, .ref g3, .int 0, .int 0, .ref tl, .null, .null])), (tp, .inl (kt, 1000, .inl f8))] H := hP
  have hD : va_D A [(h0, .inr (11, [.ref tp, .int 6, .int 0, .int (-1), .ref td, .ref sh, .ref ch, .ref sw, .ref wk, .ref g1, .ref g2, .ref g3, .int 0, .int 0, .ref tl, .null, .null])), (tp, .inl (kt, 1000, .inl f8))] := hD
  refine lv_iinc (v := 8) (lv' := [(2, .int 8), (0, .ref h0), (1, .int x)]) hx hb dX11_append_40 hl (k := 0) rfl (by decide) (by decide) rfl (fun ls hl => ?_)
  refine lv_goto (tgt := 3) hx hb dX11_append_43 (by decide) ?_
  refine lv_iload_n hx hb dX11_append_3 rfl (lv_at hl 0 rfl) ?_
  refine lv_if_lt (tgt := 46) hx hb dX11_append_4 (by decide) (fun cc => absurd cc (by decide)) (fun _ => ?_)
  refine lv_aload_n hx hb dX11_append_7 rfl (lv_at hl 1 rfl) ?_
  refine va_get (D := (dC, dI)) (ci := 11) (v := .int 6) (C := RX11) (T := TX11) (N := 17) hx hb hts hin11 hown hK hP 0 rfl rfl 1 (by decide) (ho (.fieldLink RX11 13 "NearEnough" "bytes" "I") (List.mem_of_getElem? (i := 0) rfl)) (fun _ h9 => h9) rfl dX11_append_8 ?_
  refine lv_sipush (v := 1000) hx hb dX11_append_11 (by decide) ?_
  refine lv_icmp_ge (tgt := 46) hx hb dX11_append_14 (by decide) (fun cc => absurd cc (by decide)) (fun _ => ?_)
  refine lv_aload_n hx hb dX11_append_17 rfl (lv_at hl 1 rfl) ?_
  refine va_get (D := (dC, dI)) (ci := 11) (v := .ref tp) (C := RX11) (T := TX11) (N := 17) hx hb hts hin11 hown hK hP 0 rfl rfl 0 (by decide) (ho (.fieldLink RX11 9 "NearEnough" "tape" "[B") (List.mem_of_getElem? (i := 1) rfl)) (fun _ h9 => h9) rfl dX11_append_18 ?_
  refine lv_aload_n hx hb dX11_append_21 rfl (lv_at hl 1 rfl) ?_
  refine va_get (D := (dC, dI)) (ci := 11) (v := .int 6) (C := RX11) (T := TX11) (N := 17) hx hb hts hin11 hown hK hP 0 rfl rfl 1 (by decide) (ho (.fieldLink RX11 13 "NearEnough" "bytes" "I") (List.mem_of_getElem? (i := 0) rfl)) (fun _ h9 => h9) rfl dX11_append_22 ?_
  refine lv_iload_n hx hb dX11_append_25 rfl (lv_at hl 2 rfl) ?_
  refine lv_iload_n hx hb dX11_append_26 rfl (lv_at hl 0 rfl) ?_
  refine lv_iushr hx hb dX11_append_27 rfl ?_
  refine lv_topi (fun z9 ez9 => ?_)
  refine lv_i2b hx hb dX11_append_28 rfl ?_
  refine lv_topi (fun z10 ez10 => ?_)
  refine va_bast hx hb hK hP hD hS 1 0 rfl rfl (by unfold vp_in; decide) dX11_append_29 (fun H locs hP hD hS => ?_)
  have hP : va_P (dC, dI) vwCl [(h0, .inr (11, [.ref tp, .int 6, .int 0, .int (-1), .ref td, .ref sh, .ref ch, .ref sw, .ref wk, .ref g1, .ref g2, .ref g3, .int 0, .int 0, .ref tl, .null, .null])), (tp, .inl (kt, 1000, .inl (upd f8 (Int32.toNatClampNeg 6) (vp_nar .byte z10))))] H := hP
  have hD : va_D A [(h0, .inr (11, [.ref tp, .int 6, .int 0, .int (-1), .ref td, .ref sh, .ref ch, .ref sw, .ref wk, .ref g1, .ref g2, .ref g3, .int 0, .int 0, .ref tl, .null, .null])), (tp, .inl (kt, 1000, .inl (upd f8 (Int32.toNatClampNeg 6) (vp_nar .byte z10))))] := hD
  generalize upd f8 (Int32.toNatClampNeg 6) (vp_nar .byte z10) = f12 at hP hD
  have hP : va_P (dC, dI) vwCl [(h0, .inr (11, [.ref tp, .int 6, .int 0, .int (-1), .ref td, .ref sh, .ref ch, .ref sw, .ref wk, .ref g1, .ref g2, .ref g3, .int 0, .int 0, .ref tl, .null, .null])), (tp, .inl (kt, 1000, .inl f12))] H := hP
  have hD : va_D A [(h0, .inr (11, [.ref tp, .int 6, .int 0, .int (-1), .ref td, .ref sh, .ref ch, .ref sw, .ref wk, .ref g1, .ref g2, .ref g3, .int 0, .int 0, .ref tl, .null, .null])), (tp, .inl (kt, 1000, .inl f12))] := hD
  refine lv_aload_n hx hb dX11_append_30 rfl (lv_at hl 1 rfl) ?_
  refine lv_dup hx hb dX11_append_31 rfl ?_
  refine va_get (D := (dC, dI)) (ci := 11) (v := .int 6) (C := RX11) (T := TX11) (N := 17) hx hb hts hin11 hown hK hP 0 rfl rfl 1 (by decide) (ho (.fieldLink RX11 13 "NearEnough" "bytes" "I") (List.mem_of_getElem? (i := 0) rfl)) (fun _ h9 => h9) rfl dX11_append_32 ?_
  refine lv_iconst (v := 1) hx hb dX11_append_35 (by decide) ?_
  refine lv_iadd hx hb dX11_append_36 ?_
  refine zi (v := 7) (by decide) ?_
  refine va_put (D := (dC, dI)) (ci := 11) (v := .int 7) (ty := tyX11 1) (C := RX11) (T := TX11) (N := 17) hx hb hts hin11 tyX11 tyX11_ok nmX11 hown hK hP hD hS 0 rfl rfl 1 (by decide) (ho (.fieldLink RX11 13 "NearEnough" "bytes" "I") (List.mem_of_getElem? (i := 0) rfl)) (fun _ h9 => h9) rfl (by decide +kernel) rfl rfl (Nat.le_of_ble_eq_true rfl) dX11_append_37 (fun H locs hP hD hS => ?_)
  have hP : va_P (dC, dI) vwCl [(h0, .inr (11, [.ref tp, .int 7, .int 0, .int (-1), .ref td, .ref sh, .ref ch, .ref sw, .ref wk, .ref g1, .ref g2, .ref g3, .int 0, .int 0, .ref tl, .null, .null])), (tp, .inl (kt, 1000, .inl f12))] H := hP
  have hD : va_D A [(h0, .inr (11, [.ref tp, .int 7, .int 0, .int (-1), .ref td, .ref sh, .ref ch, .ref sw, .ref wk, .ref g1, .ref g2, .ref g3, .int 0, .int 0, .ref tl, .null, .null])), (tp, .inl (kt, 1000, .inl f12))] := hD
  refine lv_iinc (v := 0) (lv' := [(2, .int 0), (0, .ref h0), (1, .int x)]) hx hb dX11_append_40 hl (k := 0) rfl (by decide) (by decide) rfl (fun ls hl => ?_)
  refine lv_goto (tgt := 3) hx hb dX11_append_43 (by decide) ?_
  refine lv_iload_n hx hb dX11_append_3 rfl (lv_at hl 0 rfl) ?_
  refine lv_if_lt (tgt := 46) hx hb dX11_append_4 (by decide) (fun cc => absurd cc (by decide)) (fun _ => ?_)
  refine lv_aload_n hx hb dX11_append_7 rfl (lv_at hl 1 rfl) ?_
  refine va_get (D := (dC, dI)) (ci := 11) (v := .int 7) (C := RX11) (T := TX11) (N := 17) hx hb hts hin11 hown hK hP 0 rfl rfl 1 (by decide) (ho (.fieldLink RX11 13 "NearEnough" "bytes" "I") (List.mem_of_getElem? (i := 0) rfl)) (fun _ h9 => h9) rfl dX11_append_8 ?_
  refine lv_sipush (v := 1000) hx hb dX11_append_11 (by decide) ?_
  refine lv_icmp_ge (tgt := 46) hx hb dX11_append_14 (by decide) (fun cc => absurd cc (by decide)) (fun _ => ?_)
  refine lv_aload_n hx hb dX11_append_17 rfl (lv_at hl 1 rfl) ?_
  refine va_get (D := (dC, dI)) (ci := 11) (v := .ref tp) (C := RX11) (T := TX11) (N := 17) hx hb hts hin11 hown hK hP 0 rfl rfl 0 (by decide) (ho (.fieldLink RX11 9 "NearEnough" "tape" "[B") (List.mem_of_getElem? (i := 1) rfl)) (fun _ h9 => h9) rfl dX11_append_18 ?_
  refine lv_aload_n hx hb dX11_append_21 rfl (lv_at hl 1 rfl) ?_
  refine va_get (D := (dC, dI)) (ci := 11) (v := .int 7) (C := RX11) (T := TX11) (N := 17) hx hb hts hin11 hown hK hP 0 rfl rfl 1 (by decide) (ho (.fieldLink RX11 13 "NearEnough" "bytes" "I") (List.mem_of_getElem? (i := 0) rfl)) (fun _ h9 => h9) rfl dX11_append_22 ?_
  refine lv_iload_n hx hb dX11_append_25 rfl (lv_at hl 2 rfl) ?_
  refine lv_iload_n hx hb dX11_append_26 rfl (lv_at hl 0 rfl) ?_
  refine lv_iushr hx hb dX11_append_27 rfl ?_
  refine lv_topi (fun z13 ez13 => ?_)
  refine lv_i2b hx hb dX11_append_28 rfl ?_
  refine lv_topi (fun z14 ez14 => ?_)
  refine va_bast hx hb hK hP hD hS 1 0 rfl rfl (by unfold vp_in; decide) dX11_append_29 (fun H locs hP hD hS => ?_)
  have hP : va_P (dC, dI) vwCl [(h0, .inr (11, [.ref tp, .int 7, .int 0, .int (-1), .ref td, .ref sh, .ref ch, .ref sw, .ref wk, .ref g1, .ref g2, .ref g3, .int 0, .int 0, .ref tl, .null, .null])), (tp, .inl (kt, 1000, .inl (upd f12 (Int32.toNatClampNeg 7) (vp_nar .byte z14))))] H := hP
  have hD : va_D A [(h0, .inr (11, [.ref tp, .int 7, .int 0, .int (-1), .ref td, .ref sh, .ref ch, .ref sw, .ref wk, .ref g1, .ref g2, .ref g3, .int 0, .int 0, .ref tl, .null, .null])), (tp, .inl (kt, 1000, .inl (upd f12 (Int32.toNatClampNeg 7) (vp_nar .byte z14))))] := hD
  generalize upd f12 (Int32.toNatClampNeg 7) (vp_nar .byte z14) = f16 at hP hD
  have hP : va_P (dC, dI) vwCl [(h0, .inr (11, [.ref tp, .int 7, .int 0, .int (-1), .ref td, .ref sh, .ref ch, .ref sw, .ref wk, .ref g1, .ref g2, .ref g3, .int 0, .int 0, .ref tl, .null, .null])), (tp, .inl (kt, 1000, .inl f16))] H := hP
  have hD : va_D A [(h0, .inr (11, [.ref tp, .int 7, .int 0, .int (-1), .ref td, .ref sh, .ref ch, .ref sw, .ref wk, .ref g1, .ref g2, .ref g3, .int 0, .int 0, .ref tl, .null, .null])), (tp, .inl (kt, 1000, .inl f16))] := hD
  refine lv_aload_n hx hb dX11_append_30 rfl (lv_at hl 1 rfl) ?_
  refine lv_dup hx hb dX11_append_31 rfl ?_
  refine va_get (D := (dC, dI)) (ci := 11) (v := .int 7) (C := RX11) (T := TX11) (N := 17) hx hb hts hin11 hown hK hP 0 rfl rfl 1 (by decide) (ho (.fieldLink RX11 13 "NearEnough" "bytes" "I") (List.mem_of_getElem? (i := 0) rfl)) (fun _ h9 => h9) rfl dX11_append_32 ?_
  refine lv_iconst (v := 1) hx hb dX11_append_35 (by decide) ?_
  refine lv_iadd hx hb dX11_append_36 ?_
  refine zi (v := 8) (by decide) ?_
  refine va_put (D := (dC, dI)) (ci := 11) (v := .int 8) (ty := tyX11 1) (C := RX11) (T := TX11) (N := 17) hx hb hts hin11 tyX11 tyX11_ok nmX11 hown hK hP hD hS 0 rfl rfl 1 (by decide) (ho (.fieldLink RX11 13 "NearEnough" "bytes" "I") (List.mem_of_getElem? (i := 0) rfl)) (fun _ h9 => h9) rfl (by decide +kernel) rfl rfl (Nat.le_of_ble_eq_true rfl) dX11_append_37 (fun H locs hP hD hS => ?_)
  have hP : va_P (dC, dI) vwCl [(h0, .inr (11, [.ref tp, .int 8, .int 0, .int (-1), .ref td, .ref sh, .ref ch, .ref sw, .ref wk, .ref g1, .ref g2, .ref g3, .int 0, .int 0, .ref tl, .null, .null])), (tp, .inl (kt, 1000, .inl f16))] H := hP
  have hD : va_D A [(h0, .inr (11, [.ref tp, .int 8, .int 0, .int (-1), .ref td, .ref sh, .ref ch, .ref sw, .ref wk, .ref g1, .ref g2, .ref g3, .int 0, .int 0, .ref tl, .null, .null])), (tp, .inl (kt, 1000, .inl f16))] := hD
  refine lv_iinc (v := (-8)) (lv' := [(2, .int (-8)), (0, .ref h0), (1, .int x)]) hx hb dX11_append_40 hl (k := 0) rfl (by decide) (by decide) rfl (fun ls hl => ?_)
  refine lv_goto (tgt := 3) hx hb dX11_append_43 (by decide) ?_
  refine lv_iload_n hx hb dX11_append_3 rfl (lv_at hl 0 rfl) ?_
  refine lv_if_lt (tgt := 46) hx hb dX11_append_4 (by decide) (fun _ => ?_) (fun cc => absurd (by decide) cc)
  refine W.widen (k := 0) (n := 0) (Nat.le_of_ble_eq_true rfl) (Nat.le_of_ble_eq_true rfl) ?_
  exact W.vret hx hb hr (fun t ht hW => ⟨⟨f16, rfl, trivial, wEn_of (hP.sub [0, 1] rfl) (hK.sub [] rfl) (hD.sub [0, 1] (by decide) rfl) ht hW⟩, hS.F ht⟩) hS.2.2 dX11_append_46
def ow_c_append8 : List Cond := [.fieldLink RX11 13 "NearEnough" "bytes" "I", .fieldLink RX11 9 "NearEnough" "tape" "[B"]
def vs_c_append8 : List Cond := .code yX11_append cX11_append 3 none :: (ow_c_append8 ++ (wsX110))
theorem vg_c_append8 : vs_c_append8.all goodWord = true := by decide +kernel
set_option maxHeartbeats 4000000 in
set_option maxRecDepth 100000 in
theorem c_append8 (l : Launch) (dC : Nat → ClassId) (dI : Nat → Nat → Nat) (h0 : Nat) (tp : Nat) (td : Nat) (sh : Nat) (ch : Nat) (sw : Nat) (wk : Nat) (g1 : Nat) (g2 : Nat) (g3 : Nat) (tl : Nat) (kt : ClassId) (f0 : Nat → Int32) (x : Int32) (sz : Nat) : Met l yX11_append vs_c_append8 ({ frames := 0, cells := 0, slots := 0, locals := 0 }) (va_Pc [.ref h0, .int x] (wSt dC dI [(h0, .inr (11, [.ref tp, .int 8, .int 0, .int (-1), .ref td, .ref sh, .ref ch, .ref sw, .ref wk, .ref g1, .ref g2, .ref g3, .int 0, .int 0, .ref tl, .null, .null])), (tp, .inl (kt, 1000, .inl f0))] [(kt, .byte)] sz)) (va_Qv (fun (_ : (Nat → Int32)) => True) (fun (u : (Nat → Int32)) => wEn dC dI (va_A [(h0, .inr (11, [.ref tp, .int 8, .int 0, .int (-1), .ref td, .ref sh, .ref ch, .ref sw, .ref wk, .ref g1, .ref g2, .ref g3, .int 0, .int 0, .ref tl, .null, .null])), (tp, .inl (kt, 1000, .inl f0))] sz) [(h0, .inr (11, [.ref tp, .int 12, .int 0, .int (-1), .ref td, .ref sh, .ref ch, .ref sw, .ref wk, .ref g1, .ref g2, .ref g3, .int 0, .int 0, .ref tl, .null, .null])), (tp, .inl (kt, 1000, .inl u))] []) (va_A [(h0, .inr (11, [.ref tp, .int 8, .int 0, .int (-1), .ref td, .ref sh, .ref ch, .ref sw, .ref wk, .ref g1, .ref g2, .ref g3, .int 0, .int 0, .ref tl, .null, .null])), (tp, .inl (kt, 1000, .inl f0))] sz)) 0 0 (va_A [(h0, .inr (11, [.ref tp, .int 8, .int 0, .int (-1), .ref td, .ref sh, .ref ch, .ref sw, .ref wk, .ref g1, .ref g2, .ref g3, .int 0, .int 0, .ref tl, .null, .null])), (tp, .inl (kt, 1000, .inl f0))] sz) := by
  refine Met.ofW (cc := cX11_append) (maxL := 3) (ret := none) (by decide) rfl ?_
  intro p e s m args below meth c s₁ B hml hv
  obtain ⟨rfl, hsz, hP, hK, hD0, hE⟩ := hv
  have hx := B.exec
  have hb := B.bytes
  have hr := B.returns
  have hts := atoms_spec (ws := vs_c_append8) B.pre
  have hown : s.vm.findClass RX11 = some m.cls := findClass_of_methodNamed B.named
  have hlocks := B.notSynchronized
  subst hsz
  have hD := hD0.self (sz := s.heap.size)
  generalize hAe : va_A [(h0, .inr (11, [.ref tp, .int 8, .int 0, .int (-1), .ref td, .ref sh, .ref ch, .ref sw, .ref wk, .ref g1, .ref g2, .ref g3, .int 0, .int 0, .ref tl, .null, .null])), (tp, .inl (kt, 1000, .inl f0))] s.heap.size = A at hD ⊢
  have hA : ∀ q : Nat, s.heap.size ≤ q → A q := fun q h => by rw [← hAe]; exact Or.inr h
  have hl := lv_entry ([.ref h0, .int x]) (n := 3) (Nat.le_of_ble_eq_true rfl)
  rw [lg_entry_eq]
  generalize (lg_sl ([.ref h0, .int x]) ++ List.replicate (3 - (lg_sl ([.ref h0, .int x])).length) Slot.unset).toArray = ls at hl ⊢
  have hl : lv_has ls 3 [(0, .ref h0), (1, .int x)] := hl
  refine zH (A := A) (ws := [(h0, .inr (11, [.ref tp, .int 8, .int 0, .int (-1), .ref td, .ref sh, .ref ch, .ref sw, .ref wk, .ref g1, .ref g2, .ref g3, .int 0, .int 0, .ref tl, .null, .null])), (tp, .inl (kt, 1000, .inl f0))]) (fun H hP hS => ?_) hP
  have ho := fun w (h : w ∈ ow_c_append8) => hts w (List.mem_cons_of_mem _ (List.mem_append_left _ h))
  have hin11 : ∀ w ∈ u_ws RX11 TX11 17, w ∈ vs_c_append8 := fun w h => (List.mem_cons_of_mem _ (List.mem_append_right _ h))
  refine lv_bipush (v := 24) hx hb dX11_append_0 (by decide) ?_
  refine lv_istore_n (lv' := [(2, .int 24), (0, .ref h0), (1, .int x)]) hx hb dX11_append_2 rfl hl (by decide) rfl (fun ls hl => ?_)
  refine lv_iload_n hx hb dX11_append_3 rfl (lv_at hl 0 rfl) ?_
  refine lv_if_lt (tgt := 46) hx hb dX11_append_4 (by decide) (fun cc => absurd cc (by decide)) (fun _ => ?_)
  refine lv_aload_n hx hb dX11_append_7 rfl (lv_at hl 1 rfl) ?_
  refine va_get (D := (dC, dI)) (ci := 11) (v := .int 8) (C := RX11) (T := TX11) (N := 17) hx hb hts hin11 hown hK hP 0 rfl rfl 1 (by decide) (ho (.fieldLink RX11 13 "NearEnough" "bytes" "I") (List.mem_of_getElem? (i := 0) rfl)) (fun _ h9 => h9) rfl dX11_append_8 ?_
  refine lv_sipush (v := 1000) hx hb dX11_append_11 (by decide) ?_
  refine lv_icmp_ge (tgt := 46) hx hb dX11_append_14 (by decide) (fun cc => absurd cc (by decide)) (fun _ => ?_)
  refine lv_aload_n hx hb dX11_append_17 rfl (lv_at hl 1 rfl) ?_
  refine va_get (D := (dC, dI)) (ci := 11) (v := .ref tp) (C := RX11) (T := TX11) (N := 17) hx hb hts hin11 hown hK hP 0 rfl rfl 0 (by decide) (ho (.fieldLink RX11 9 "NearEnough" "tape" "[B") (List.mem_of_getElem? (i := 1) rfl)) (fun _ h9 => h9) rfl dX11_append_18 ?_
  refine lv_aload_n hx hb dX11_append_21 rfl (lv_at hl 1 rfl) ?_
  refine va_get (D := (dC, dI)) (ci := 11) (v := .int 8) (C := RX11) (T := TX11) (N := 17) hx hb hts hin11 hown hK hP 0 rfl rfl 1 (by decide) (ho (.fieldLink RX11 13 "NearEnough" "bytes" "I") (List.mem_of_getElem? (i := 0) rfl)) (fun _ h9 => h9) rfl dX11_append_22 ?_
  refine lv_iload_n hx hb dX11_append_25 rfl (lv_at hl 2 rfl) ?_
  refine lv_iload_n hx hb dX11_append_26 rfl (lv_at hl 0 rfl) ?_
  refine lv_iushr hx hb dX11_append_27 rfl ?_
  refine lv_topi (fun z1 ez1 => ?_)
  refine lv_i2b hx hb dX11_append_28 rfl ?_
  refine lv_topi (fun z2 ez2 => ?_)
  refine va_bast hx hb hK hP hD hS 1 0 rfl rfl (by unfold vp_in; decide) dX11_append_29 (fun H locs hP hD hS => ?_)
  have hP : va_P (dC, dI) vwCl [(h0, .inr (11, [.ref tp, .int 8, .int 0, .int (-1), .ref td, .ref sh, .ref ch, .ref sw, .ref wk, .ref g1, .ref g2, .ref g3, .int 0, .int 0, .ref tl, .null, .null])), (tp, .inl (kt, 1000, .inl (upd f0 (Int32.toNatClampNeg 8) (vp_nar .byte z2))))] H := hP
  have hD : va_D A [(h0, .inr (11, [.ref tp, .int 8, .int 0, .int (-1), .ref td, .ref sh, .ref ch, .ref sw, .ref wk, .ref g1, .ref g2, .ref g3, .int 0, .int 0, .ref tl, .null, .null])), (tp, .inl (kt, 1000, .inl (upd f0 (Int32.toNatClampNeg 8) (vp_nar .byte z2))))] := hD
  generalize upd f0 (Int32.toNatClampNeg 8) (vp_nar .byte z2) = f4 at hP hD
  have hP : va_P (dC, dI) vwCl [(h0, .inr (11, [.ref tp, .int 8, .int 0, .int (-1), .ref td, .ref sh, .ref ch, .ref sw, .ref wk, .ref g1, .ref g2, .ref g3, .int 0, .int 0, .ref tl, .null, .null])), (tp, .inl (kt, 1000, .inl f4))] H := hP
  have hD : va_D A [(h0, .inr (11, [.ref tp, .int 8, .int 0, .int (-1), .ref td, .ref sh, .ref ch, .ref sw, .ref wk, .ref g1, .ref g2, .ref g3, .int 0, .int 0, .ref tl, .null, .null])), (tp, .inl (kt, 1000, .inl f4))] := hD
  refine lv_aload_n hx hb dX11_append_30 rfl (lv_at hl 1 rfl) ?_
  refine lv_dup hx hb dX11_append_31 rfl ?_
  refine va_get (D := (dC, dI)) (ci := 11) (v := .int 8) (C := RX11) (T := TX11) (N := 17) hx hb hts hin11 hown hK hP 0 rfl rfl 1 (by decide) (ho (.fieldLink RX11 13 "NearEnough" "bytes" "I") (List.mem_of_getElem? (i := 0) rfl)) (fun _ h9 => h9) rfl dX11_append_32 ?_
  refine lv_iconst (v := 1) hx hb dX11_append_35 (by decide) ?_
  refine lv_iadd hx hb dX11_append_36 ?_
  refine zi (v := 9) (by decide) ?_
  refine va_put (D := (dC, dI)) (ci := 11) (v := .int 9) (ty := tyX11 1) (C := RX11) (T := TX11) (N := 17) hx hb hts hin11 tyX11 tyX11_ok nmX11 hown hK hP hD hS 0 rfl rfl 1 (by decide) (ho (.fieldLink RX11 13 "NearEnough" "bytes" "I") (List.mem_of_getElem? (i := 0) rfl)) (fun _ h9 => h9) rfl (by decide +kernel) rfl rfl (Nat.le_of_ble_eq_true rfl) dX11_append_37 (fun H locs hP hD hS => ?_)
  have hP : va_P (dC, dI) vwCl [(h0, .inr (11, [.ref tp, .int 9, .int 0, .int (-1), .ref td, .ref sh, .ref ch, .ref sw, .ref wk, .ref g1, .ref g2, .ref g3, .int 0, .int 0, .ref tl, .null, .null])), (tp, .inl (kt, 1000, .inl f4))] H := hP
  have hD : va_D A [(h0, .inr (11, [.ref tp, .int 9, .int 0, .int (-1), .ref td, .ref sh, .ref ch, .ref sw, .ref wk, .ref g1, .ref g2, .ref g3, .int 0, .int 0, .ref tl, .null, .null])), (tp, .inl (kt, 1000, .inl f4))] := hD
  refine lv_iinc (v := 16) (lv' := [(2, .int 16), (0, .ref h0), (1, .int x)]) hx hb dX11_append_40 hl (k := 0) rfl (by decide) (by decide) rfl (fun ls hl => ?_)
  refine lv_goto (tgt := 3) hx hb dX11_append_43 (by decide) ?_
  refine lv_iload_n hx hb dX11_append_3 rfl (lv_at hl 0 rfl) ?_
  refine lv_if_lt (tgt := 46) hx hb dX11_append_4 (by decide) (fun cc => absurd cc (by decide)) (fun _ => ?_)
  refine lv_aload_n hx hb dX11_append_7 rfl (lv_at hl 1 rfl) ?_
  refine va_get (D := (dC, dI)) (ci := 11) (v := .int 9) (C := RX11) (T := TX11) (N := 17) hx hb hts hin11 hown hK hP 0 rfl rfl 1 (by decide) (ho (.fieldLink RX11 13 "NearEnough" "bytes" "I") (List.mem_of_getElem? (i := 0) rfl)) (fun _ h9 => h9) rfl dX11_append_8 ?_
  refine lv_sipush (v := 1000) hx hb dX11_append_11 (by decide) ?_
  refine lv_icmp_ge (tgt := 46) hx hb dX11_append_14 (by decide) (fun cc => absurd cc (by decide)) (fun _ => ?_)
  refine lv_aload_n hx hb dX11_append_17 rfl (lv_at hl 1 rfl) ?_
  refine va_get (D := (dC, dI)) (ci := 11) (v := .ref tp) (C := RX11) (T := TX11) (N := 17) hx hb hts hin11 hown hK hP 0 rfl rfl 0 (by decide) (ho (.fieldLink RX11 9 "NearEnough" "tape" "[B") (List.mem_of_getElem? (i := 1) rfl)) (fun _ h9 => h9) rfl dX11_append_18 ?_
  refine lv_aload_n hx hb dX11_append_21 rfl (lv_at hl 1 rfl) ?_
  refine va_get (D := (dC, dI)) (ci := 11) (v := .int 9) (C := RX11) (T := TX11) (N := 17) hx hb hts hin11 hown hK hP 0 rfl rfl 1 (by decide) (ho (.fieldLink RX11 13 "NearEnough" "bytes" "I") (List.mem_of_getElem? (i := 0) rfl)) (fun _ h9 => h9) rfl dX11_append_22 ?_
  refine lv_iload_n hx hb dX11_append_25 rfl (lv_at hl 2 rfl) ?_
  refine lv_iload_n hx hb dX11_append_26 rfl (lv_at hl 0 rfl) ?_
  refine lv_iushr hx hb dX11_append_27 rfl ?_
  refine lv_topi (fun z5 ez5 => ?_)
  refine lv_i2b hx hb dX11_append_28 rfl ?_
  refine lv_topi (fun z6 ez6 => ?_)
  refine va_bast hx hb hK hP hD hS 1 0 rfl rfl (by unfold vp_in; decide) dX11_append_29 (fun H locs hP hD hS => ?_)
  have hP : va_P (dC, dI) vwCl [(h0, .inr (11, [.ref tp, .int 9, .int 0, .int (-1), .ref td, .ref sh, .ref ch, .ref sw, .ref wk, .ref g1, .ref g2, .ref g3, .int 0, .int 0, .ref tl, .null, .null])), (tp, .inl (kt, 1000, .inl (upd f4 (Int32.toNatClampNeg 9) (vp_nar .byte z6))))] H := hP
  have hD : va_D A [(h0, .inr (11, [.ref tp, .int 9, .int 0, .int (-1), .ref td, .ref sh, .ref ch, .ref sw, .ref wk, .ref g1, .ref g2, .ref g3, .int 0, .int 0, .ref tl, .null, .null])), (tp, .inl (kt, 1000, .inl (upd f4 (Int32.toNatClampNeg 9) (vp_nar .byte z6))))] := hD
  generalize upd f4 (Int32.toNatClampNeg 9) (vp_nar .byte z6) = f8 at hP hD
  have hP : va_P (dC, dI) vwCl [(h0, .inr (11, [.ref tp, .int 9, .int 0, .int (-1), .ref td, .ref sh, .ref ch, .ref sw, .ref wk, .ref g1, .ref g2, .ref g3, .int 0, .int 0, .ref tl, .null, .null])), (tp, .inl (kt, 1000, .inl f8))] H := hP
  have hD : va_D A [(h0, .inr (11, [.ref tp, .int 9, .int 0, .int (-1), .ref td, .ref sh, .ref ch, .ref sw, .ref wk, .ref g1, .ref g2, .ref g3, .int 0, .int 0, .ref tl, .null, .null])), (tp, .inl (kt, 1000, .inl f8))] := hD
  refine lv_aload_n hx hb dX11_append_30 rfl (lv_at hl 1 rfl) ?_
  refine lv_dup hx hb dX11_append_31 rfl ?_
  refine va_get (D := (dC, dI)) (ci := 11) (v := .int 9) (C := RX11) (T := TX11) (N := 17) hx hb hts hin11 hown hK hP 0 rfl rfl 1 (by decide) (ho (.fieldLink RX11 13 "NearEnough" "bytes" "I") (List.mem_of_getElem? (i := 0) rfl)) (fun _ h9 => h9) rfl dX11_append_32 ?_
  refine lv_iconst (v := 1) hx hb dX11_append_35 (by decide) ?_
  refine lv_iadd hx hb dX11_append_36 ?_
  refine zi (v := 10) (by decide) ?_
  refine va_put (D := (dC, dI)) (ci := 11) (v := .int 10) (ty := tyX11 1) (C := RX11) (T := TX11) (N := 17) hx hb hts hin11 tyX11 tyX11_ok nmX11 hown hK hP hD hS 0 rfl rfl 1 (by decide) (ho (.fieldLink RX11 13 "NearEnough" "bytes" "I") (List.mem_of_getElem? (i := 0) rfl)) (fun _ h9 => h9) rfl (by decide +kernel) rfl rfl (Nat.le_of_ble_eq_true rfl) dX11_append_37 (fun H locs hP hD hS => ?_)
  have hP : va_P (dC, dI) vwCl [(h0, .inr (11, [.ref tp, .int 10, .int 0, .int (-1), .ref td, .ref sh, .ref ch, .ref sw, .ref wk, .ref g1, .ref g2, .ref g3, .int 0, .int 0, .ref tl, .null, .null])), (tp, .inl (kt, 1000, .inl f8))] H := hP
  have hD : va_D A [(h0, .inr (11, [.ref tp, .int 10, .int 0, .int (-1), .ref td, .ref sh, .ref ch, .ref sw, .ref wk, .ref g1, .ref g2, .ref g3, .int 0, .int 0, .ref tl, .null, .null])), (tp, .inl (kt, 1000, .inl f8))] := hD
  refine lv_iinc (v := 8) (lv' := [(2, .int 8), (0, .ref h0), (1, .int x)]) hx hb dX11_append_40 hl (k := 0) rfl (by decide) (by decide) rfl (fun ls hl => ?_)
  refine lv_goto (tgt := 3) hx hb dX11_append_43 (by decide) ?_
  refine lv_iload_n hx hb dX11_append_3 rfl (lv_at hl 0 rfl) ?_
  refine lv_if_lt (tgt := 46) hx hb dX11_append_4 (by decide) (fun cc => absurd cc (by decide)) (fun _ => ?_)
  refine lv_aload_n hx hb dX11_append_7 rfl (lv_at hl 1 rfl) ?_
  refine va_get (D := (dC, dI)) (ci := 11) (v := .int 10) (C := RX11) (T := TX11) (N := 17) hx hb hts hin11 hown hK hP 0 rfl rfl 1 (by decide) (ho (.fieldLink RX11 13 "NearEnough" "bytes" "I") (List.mem_of_getElem? (i := 0) rfl)) (fun _ h9 => h9) rfl dX11_append_8 ?_
  refine lv_sipush (v := 1000) hx hb dX11_append_11 (by decide) ?_
  refine lv_icmp_ge (tgt := 46) hx hb dX11_append_14 (by decide) (fun cc => absurd cc (by decide)) (fun _ => ?_)
  refine lv_aload_n hx hb dX11_append_17 rfl (lv_at hl 1 rfl) ?_
  refine va_get (D := (dC, dI)) (ci := 11) (v := .ref tp) (C := RX11) (T := TX11) (N := 17) hx hb hts hin11 hown hK hP 0 rfl rfl 0 (by decide) (ho (.fieldLink RX11 9 "NearEnough" "tape" "[B") (List.mem_of_getElem? (i := 1) rfl)) (fun _ h9 => h9) rfl dX11_append_18 ?_
  refine lv_aload_n hx hb dX11_append_21 rfl (lv_at hl 1 rfl) ?_
  refine va_get (D := (dC, dI)) (ci := 11) (v := .int 10) (C := RX11) (T := TX11) (N := 17) hx hb hts hin11 hown hK hP 0 rfl rfl 1 (by decide) (ho (.fieldLink RX11 13 "NearEnough" "bytes" "I") (List.mem_of_getElem? (i := 0) rfl)) (fun _ h9 => h9) rfl dX11_append_22 ?_
  refine lv_iload_n hx hb dX11_append_25 rfl (lv_at hl 2 rfl) ?_
  refine lv_iload_n hx hb dX11_append_26 rfl (lv_at hl 0 rfl) ?_
  refine lv_iushr hx hb dX11_append_27 rfl ?_
  refine lv_topi (fun z9 ez9 => ?_)
  refine lv_i2b hx hb dX11_append_28 rfl ?_
  refine lv_topi (fun z10 ez10 => ?_)
  refine va_bast hx hb hK hP hD hS 1 0 rfl rfl (by unfold vp_in; decide) dX11_append_29 (fun H locs hP hD hS => ?_)
  have hP : va_P (dC, dI) vwCl [(h0, .inr (11, [.ref tp, .int 10, .int 0, .int (-1), .ref td, .ref sh, .ref ch, .ref sw, .ref wk, .ref g1, .ref g2, .ref g3, .int 0, .int 0, .ref tl, .null, .null])), (tp, .inl (kt, 1000, .inl (upd f8 (Int32.toNatClampNeg 10) (vp_nar .byte z10))))] H := hP
  have hD : va_D A [(h0, .inr (11, [.ref tp, .int 10, .int 0, .int (-1), .ref td, .ref sh, .ref ch, .ref sw, .ref wk, .ref g1, .ref g2, .ref g3, .int 0, .int 0, .ref tl, .null, .null])), (tp, .inl (kt, 1000, .inl (upd f8 (Int32.toNatClampNeg 10) (vp_nar .byte z10))))] := hD
  generalize upd f8 (Int32.toNatClampNeg 10) (vp_nar .byte z10) = f12 at hP hD
  have hP : va_P (dC, dI) vwCl [(h0, .inr (11, [.ref tp, .int 10, .int 0, .int (-1), .ref td, .ref sh, .ref ch, .ref sw, .ref wk, .ref g1, .ref g2, .ref g3, .int 0, .int 0, .ref tl, .null, .null])), (tp, .inl (kt, 1000, .inl f12))] H := hP
  have hD : va_D A [(h0, .inr (11, [.ref tp, .int 10, .int 0, .int (-1), .ref td, .ref sh, .ref ch, .ref sw, .ref wk, .ref g1, .ref g2, .ref g3, .int 0, .int 0, .ref tl, .null, .null])), (tp, .inl (kt, 1000, .inl f12))] := hD
  refine lv_aload_n hx hb dX11_append_30 rfl (lv_at hl 1 rfl) ?_
  refine lv_dup hx hb dX11_append_31 rfl ?_
  refine va_get (D := (dC, dI)) (ci := 11) (v := .int 10) (C := RX11) (T := TX11) (N := 17) hx hb hts hin11 hown hK hP 0 rfl rfl 1 (by decide) (ho (.fieldLink RX11 13 "NearEnough" "bytes" "I") (List.mem_of_getElem? (i := 0) rfl)) (fun _ h9 => h9) rfl dX11_append_32 ?_
  refine lv_iconst (v := 1) hx hb dX11_append_35 (by decide) ?_
  refine lv_iadd hx hb dX11_append_36 ?_
  refine zi (v := 11) (by decide) ?_
  refine va_put (D := (dC, dI)) (ci := 11) (v := .int 11) (ty := tyX11 1) (C := RX11) (T := TX11) (N := 17) hx hb hts hin11 tyX11 tyX11_ok nmX11 hown hK hP hD hS 0 rfl rfl 1 (by decide) (ho (.fieldLink RX11 13 "NearEnough" "bytes" "I") (List.mem_of_getElem? (i := 0) rfl)) (fun _ h9 => h9) rfl (by decide +kernel) rfl rfl (Nat.le_of_ble_eq_true rfl) dX11_append_37 (fun H locs hP hD hS => ?_)
  have hP : va_P (dC, dI) vwCl [(h0, .inr (11, [.ref tp, .int 11, .int 0, .int (-1), .ref td, .ref sh, .ref ch, .ref sw, .ref wk, .ref g1, .ref g2, .ref g3, .int 0, .int 0, .ref tl, .null, .null])), (tp, .inl (kt, 1000, .inl f12))] H := hP
  have hD : va_D A [(h0, .inr (11, [.ref tp, .int 11, .int 0, .int (-1), .ref td, .ref sh, .ref ch, .ref sw, .ref wk, .ref g1, .ref g2, .ref g3, .int 0, .int 0, .ref tl, .null, .null])), (tp, .inl (kt, 1000, .inl f12))] := hD
  refine lv_iinc (v := 0) (lv' := [(2, .int 0), (0, .ref h0), (1, .int x)]) hx hb dX11_append_40 hl (k := 0) rfl (by decide) (by decide) rfl (fun ls hl => ?_)
  refine lv_goto (tgt := 3) hx hb dX11_append_43 (by decide) ?_
  refine lv_iload_n hx hb dX11_append_3 rfl (lv_at hl 0 rfl) ?_
  refine lv_if_lt (tgt := 46) hx hb dX11_append_4 (by decide) (fun cc => absurd cc (by decide)) (fun _ => ?_)
  refine lv_aload_n hx hb dX11_append_7 rfl (lv_at hl 1 rfl) ?_
  refine va_get (D := (dC, dI)) (ci := 11) (v := .int 11) (C := RX11) (T := TX11) (N := 17) hx hb hts hin11 hown hK hP 0 rfl rfl 1 (by decide) (ho (.fieldLink RX11 13 "NearEnough" "bytes" "I") (List.mem_of_getElem? (i := 0) rfl)) (fun _ h9 => h9) rfl dX11_append_8 ?_
  refine lv_sipush (v := 1000) hx hb dX11_append_11 (by decide) ?_
  refine lv_icmp_ge (tgt := 46) hx hb dX11_append_14 (by decide) (fun cc => absurd cc (by decide)) (fun _ => ?_)
  refine lv_aload_n hx hb dX11_append_17 rfl (lv_at hl 1 rfl) ?_
  refine va_get (D := (dC, dI)) (ci := 11) (v := .ref tp) (C := RX11) (T := TX11) (N := 17) hx hb hts hin11 hown hK hP 0 rfl rfl 0 (by decide) (ho (.fieldLink RX11 9 "NearEnough" "tape" "[B") (List.mem_of_getElem? (i := 1) rfl)) (fun _ h9 => h9) rfl dX11_append_18 ?_
  refine lv_aload_n hx hb dX11_append_21 rfl (lv_at hl 1 rfl) ?_
  refine va_get (D := (dC, dI)) (ci := 11) (v := .int 11) (C := RX11) (T := TX11) (N := 17) hx hb hts hin11 hown hK hP 0 rfl rfl 1 (by decide) (ho (.fieldLink RX11 13 "NearEnough" "bytes" "I") (List.mem_of_getElem? (i := 0) rfl)) (fun _ h9 => h9) rfl dX11_append_22 ?_
  refine lv_iload_n hx hb dX11_append_25 rfl (lv_at hl 2 rfl) ?_
  refine lv_iload_n hx hb dX11_append_26 rfl (lv_at hl 0 rfl) ?_
  refine lv_iushr hx hb dX11_append_27 rfl ?_
  refine lv_topi (fun z13 ez13 => ?_)
  refine lv_i2b hx hb dX11_append_28 rfl ?_
  refine lv_topi (fun z14 ez14 => ?_)
  refine va_bast hx hb hK hP hD hS 1 0 rfl rfl (by unfold vp_in; decide) dX11_append_29 (fun H locs hP hD hS => ?_)
  have hP : va_P (dC, dI) vwCl [(h0, .inr (11, [.ref tp, .int 11, .int 0, .int (-1), .ref td, .ref sh, .ref ch, .ref sw, .ref wk, .ref g1, .ref g2, .ref g3, .int 0, .int 0, .ref tl, .null, .null])), (tp, .inl (kt, 1000, .inl (upd f12 (Int32.toNatClampNeg 11) (vp_nar .byte z14))))] H := hP
  have hD : va_D A [(h0, .inr (11, [.ref tp, .int 11, .int 0, .int (-1), .ref td, .ref sh, .ref ch, .ref sw, .ref wk, .ref g1, .ref g2, .ref g3, .int 0, .int 0, .ref tl, .null, .null])), (tp, .inl (kt, 1000, .inl (upd f12 (Int32.toNatClampNeg 11) (vp_nar .byte z14))))] := hD
  generalize upd f12 (Int32.toNatClampNeg 11) (vp_nar .byte z14) = f16 at hP hD
  have hP : va_P (dC, dI) vwCl [(h0, .inr (11, [.ref tp, .int 11, .int 0, .int (-1), .ref td, .ref sh, .ref ch, .ref sw, .ref wk, .ref g1, .ref g2, .ref g3, .int 0, .int 0, .ref tl, .null, .null])), (tp, .inl (kt, 1000, .inl f16))] H := hP
  have hD : va_D A [(h0, .inr (11, [.ref tp, .int 11, .int 0, .int (-1), .ref td, .ref sh, .ref ch, .ref sw, .ref wk, .ref g1, .ref g2, .ref g3, .int 0, .int 0, .ref tl, .null, .null])), (tp, .inl (kt, 1000, .inl f16))] := hD
  refine lv_aload_n hx hb dX11_append_30 rfl (lv_at hl 1 rfl) ?_
  refine lv_dup hx hb dX11_append_31 rfl ?_
  refine va_get (D := (dC, dI)) (ci := 11) (v := .int 11) (C := RX11) (T := TX11) (N := 17) hx hb hts hin11 hown hK hP 0 rfl rfl 1 (by decide) (ho (.fieldLink RX11 13 "NearEnough" "bytes" "I") (List.mem_of_getElem? (i := 0) rfl)) (fun _ h9 => h9) rfl dX11_append_32 ?_
  refine lv_iconst (v := 1) hx hb dX11_append_35 (by decide) ?_
  refine lv_iadd hx hb dX11_append_36 ?_
  refine zi (v := 12) (by decide) ?_
  refine va_put (D := (dC, dI)) (ci := 11) (v := .int 12) (ty := tyX11 1) (C := RX11) (T := TX11) (N := 17) hx hb hts hin11 tyX11 tyX11_ok nmX11 hown hK hP hD hS 0 rfl rfl 1 (by decide) (ho (.fieldLink RX11 13 "NearEnough" "bytes" "I") (List.mem_of_getElem? (i := 0) rfl)) (fun _ h9 => h9) rfl (by decide +kernel) rfl rfl (Nat.le_of_ble_eq_true rfl) dX11_append_37 (fun H locs hP hD hS => ?_)
  have hP : va_P (dC, dI) vwCl [(h0, .inr (11, [.ref tp, .int 12, .int 0, .int (-1), .ref td, .ref sh, .ref ch, .ref sw, .ref wk, .ref g1, .ref g2, .ref g3, .int 0, .int 0, .ref tl, .null, .null])), (tp, .inl (kt, 1000, .inl f16))] H := hP
  have hD : va_D A [(h0, .inr (11, [.ref tp, .int 12, .int 0, .int (-1), .ref td, .ref sh, .ref ch, .ref sw, .ref wk, .ref g1, .ref g2, .ref g3, .int 0, .int 0, .ref tl, .null, .null])), (tp, .inl (kt, 1000, .inl f16))] := hD
  refine lv_iinc (v := (-8)) (lv' := [(2, .int (-8)), (0, .ref h0), (1, .int x)]) hx hb dX11_append_40 hl (k := 0) rfl (by decide) (by decide) rfl (fun ls hl => ?_)
  refine lv_goto (tgt := 3) hx hb dX11_append_43 (by decide) ?_
  refine lv_iload_n hx hb dX11_append_3 rfl (lv_at hl 0 rfl) ?_
  refine lv_if_lt (tgt := 46) hx hb dX11_append_4 (by decide) (fun _ => ?_) (fun cc => absurd (by decide) cc)
  refine W.widen (k := 0) (n := 0) (Nat.le_of_ble_eq_true rfl) (Nat.le_of_ble_eq_true rfl) ?_
  exact W.vret hx hb hr (fun t ht hW => ⟨⟨f16, rfl, trivial, wEn_of (hP.sub [0, 1] rfl) (hK.sub [] rfl) (hD.sub [0, 1] (by decide) rfl) ht hW⟩, hS.F ht⟩) hS.2.2 dX11_append_46
def ow_c_append12 : List Cond := [.fieldLink RX11 13 "NearEnough" "bytes" "I", .fieldLink RX11 9 "NearEnough" "tape" "[B"]
def vs_c_append12 : List Cond := .code yX11_append cX11_append 3 none :: (ow_c_append12 ++ (wsX110))
theorem vg_c_append12 : vs_c_append12.all goodWord = true := by decide +kernel
set_option maxHeartbeats 4000000 in
set_option maxRecDepth 100000 in
theorem c_append12 (l : Launch) (dC : Nat → ClassId) (dI : Nat → Nat → Nat) (h0 : Nat) (tp : Nat) (td : Nat) (sh : Nat) (ch : Nat) (sw : Nat) (wk : Nat) (g1 : Nat) (g2 : Nat) (g3 : Nat) (tl : Nat) (kt : ClassId) (f0 : Nat → Int32) (x : Int32) (sz : Nat) : Met l yX11_append vs_c_append12 ({ frames := 0, cells := 0, slots := 0, locals := 0 }) (va_Pc [.ref h0, .int x] (wSt dC dI [(h0, .inr (11, [.ref tp, .int 12, .int 0, .int (-1), .ref td, .ref sh, .ref ch, .ref sw, .ref wk, .ref g1, .ref g2, .ref g3, .int 0, .int 0, .ref tl, .null, .null])), (tp, .inl (kt, 1000, .inl f0))] [(kt, .byte)] sz)) (va_Qv (fun (_ : (Nat → Int32)) => True) (fun (u : (Nat → Int32)) => wEn dC dI (va_A [(h0, .inr (11, [.ref tp, .int 12, .int 0, .int (-1), .ref td, .ref sh, .ref ch, .ref sw, .ref wk, .ref g1, .ref g2, .ref g3, .int 0, .int 0, .ref tl, .null, .null])), (tp, .inl (kt, 1000, .inl f0))] sz) [(h0, .inr (11, [.ref tp, .int 16, .int 0, .int (-1), .ref td, .ref sh, .ref ch, .ref sw, .ref wk, .ref g1, .ref g2, .ref g3, .int 0, .int 0, .ref tl, .null, .null])), (tp, .inl (kt, 1000, .inl u))] []) (va_A [(h0, .inr (11, [.ref tp, .int 12, .int 0, .int (-1), .ref td, .ref sh, .ref ch, .ref sw, .ref wk, .ref g1, .ref g2, .ref g3, .int 0, .int 0, .ref tl, .null, .null])), (tp, .inl (kt, 1000, .inl f0))] sz)) 0 0 (va_A [(h0, .inr (11, [.ref tp, .int 12, .int 0, .int (-1), .ref td, .ref sh, .ref ch, .ref sw, .ref wk, .ref g1, .ref g2, .ref g3, .int 0, .int 0, .ref tl, .null, .null])), (tp, .inl (kt, 1000, .inl f0))] sz) := by
  refine Met.ofW (cc := cX11_append) (maxL := 3) (ret := none) (by decide) rfl ?_
  intro p e s m args below meth c s₁ B hml hv
  obtain ⟨rfl, hsz, hP, hK, hD0, hE⟩ := hv
  have hx := B.exec
  have hb := B.bytes
  have hr := B.returns
  have hts := atoms_spec (ws := vs_c_append12) B.pre
  have hown : s.vm.findClass RX11 = some m.cls := findClass_of_methodNamed B.named
  have hlocks := B.notSynchronized
  subst hsz
  have hD := hD0.self (sz := s.heap.size)
  generalize hAe : va_A [(h0, .inr (11, [.ref tp, .int 12, .int 0, .int (-1), .ref td, .ref sh, .ref ch, .ref sw, .ref wk, .ref g1, .ref g2, .ref g3, .int 0, .int 0, .ref tl, .null, .null])), (tp, .inl (kt, 1000, .inl f0))] s.heap.size = A at hD ⊢
  have hA : ∀ q : Nat, s.heap.size ≤ q → A q := fun q h => by rw [← hAe]; exact Or.inr h
  have hl := lv_entry ([.ref h0, .int x]) (n := 3) (Nat.le_of_ble_eq_true rfl)
  rw [lg_entry_eq]
  generalize (lg_sl ([.ref h0, .int x]) ++ List.replicate (3 - (lg_sl ([.ref h0, .int x])).length) Slot.unset).toArray = ls at hl ⊢
  have hl : lv_has ls 3 [(0, .ref h0), (1, .int x)] := hl
  refine zH (A := A) (ws := [(h0, .inr (11, [.ref tp, .int 12, .int 0, .int (-1), .ref td, .ref sh, .ref ch, .ref sw, .ref wk, .ref g1, .ref g2, .ref g3, .int 0, .int 0, .ref tl, .null, .null])), (tp, .inl (kt, 1000, .inl f0))]) (fun H hP hS => ?_) hP
  have ho := fun w (h : w ∈ ow_c_append12) => hts w (List.mem_cons_of_mem _ (List.mem_append_left _ h))
  have hin11 : ∀ w ∈ u_ws RX11 TX11 17, w ∈ vs_c_append12 := fun w h => (List.mem_cons_of_mem _ (List.mem_append_right _ h))
  refine lv_bipush (v := 24) hx hb dX11_append_0 (by decide) ?_
  refine lv_istore_n (lv' := [(2, .int 24), (0, .ref h0), (1, .int x)]) hx hb dX11_append_2 rfl hl (by decide) rfl (fun ls hl => ?_)
  refine lv_iload_n hx hb dX11_append_3 rfl (lv_at hl 0 rfl) ?_
  refine lv_if_lt (tgt := 46) hx hb dX11_append_4 (by decide) (fun cc => absurd cc (by decide)) (fun _ => ?_)
  refine lv_aload_n hx hb dX11_append_7 rfl (lv_at hl 1 rfl) ?_
  refine va_get (D := (dC, dI)) (ci := 11) (v := .int 12) (C := RX11) (T := TX11) (N := 17) hx hb hts hin11 hown hK hP 0 rfl rfl 1 (by decide) (ho (.fieldLink RX11 13 "NearEnough" "bytes" "I") (List.mem_of_getElem? (i := 0) rfl)) (fun _ h9 => h9) rfl dX11_append_8 ?_
  refine lv_sipush (v := 1000) hx hb dX11_append_11 (by decide) ?_
  refine lv_icmp_ge (tgt := 46) hx hb dX11_append_14 (by decide) (fun cc => absurd cc (by decide)) (fun _ => ?_)
  refine lv_aload_n hx hb dX11_append_17 rfl (lv_at hl 1 rfl) ?_
  refine va_get (D := (dC, dI)) (ci := 11) (v := .ref tp) (C := RX11) (T := TX11) (N := 17) hx hb hts hin11 hown hK hP 0 rfl rfl 0 (by decide) (ho (.fieldLink RX11 9 "NearEnough" "tape" "[B") (List.mem_of_getElem? (i := 1) rfl)) (fun _ h9 => h9) rfl dX11_append_18 ?_
  refine lv_aload_n hx hb dX11_append_21 rfl (lv_at hl 1 rfl) ?_
  refine va_get (D := (dC, dI)) (ci := 11) (v := .int 12) (C := RX11) (T := TX11) (N := 17) hx hb hts hin11 hown hK hP 0 rfl rfl 1 (by decide) (ho (.fieldLink RX11 13 "NearEnough" "bytes" "I") (List.mem_of_getElem? (i := 0) rfl)) (fun _ h9 => h9) rfl dX11_append_22 ?_
  refine lv_iload_n hx hb dX11_append_25 rfl (lv_at hl 2 rfl) ?_
  refine lv_iload_n hx hb dX11_append_26 rfl (lv_at hl 0 rfl) ?_
  refine lv_iushr hx hb dX11_append_27 rfl ?_
  refine lv_topi (fun z1 ez1 => ?_)
  refine lv_i2b hx hb dX11_append_28 rfl ?_
  refine lv_topi (fun z2 ez2 => ?_)
  refine va_bast hx hb hK hP hD hS 1 0 rfl rfl (by unfold vp_in; decide) dX11_append_29 (fun H locs hP hD hS => ?_)
  have hP : va_P (dC, dI) vwCl [(h0, .inr (11, [.ref tp, .int 12, .int 0, .int (-1), .ref td, .ref sh, .ref ch, .ref sw, .ref wk, .ref g1, .ref g2, .ref g3, .int 0, .int 0, .ref tl, .null, .null])), (tp, .inl (kt, 1000, .inl (upd f0 (Int32.toNatClampNeg 12) (vp_nar .byte z2))))] H := hP
  have hD : va_D A [(h0, .inr (11, [.ref tp, .int 12, .int 0, .int (-1), .ref td, .ref sh, .ref ch, .ref sw, .ref wk, .ref g1, .ref g2, .ref g3, .int 0, .int 0, .ref tl, .null, .null])), (tp, .inl (kt, 1000, .inl (upd f0 (Int32.toNatClampNeg 12) (vp_nar .byte z2))))] := hD
  generalize upd f0 (Int32.toNatClampNeg 12) (vp_nar .byte z2) = f4 at hP hD
  have hP : va_P (dC, dI) vwCl [(h0, .inr (11, [.ref tp, .int 12, .int 0, .int (-1), .ref td, .ref sh, .ref ch, .ref sw, .ref wk, .ref g1, .ref g2, .ref g3, .int 0, .int 0, .ref tl, .null, .null])), (tp, .inl (kt, 1000, .inl f4))] H := hP
  have hD : va_D A [(h0, .inr (11, [.ref tp, .int 12, .int 0, .int (-1), .ref td, .ref sh, .ref ch, .ref sw, .ref wk, .ref g1, .ref g2, .ref g3, .int 0, .int 0, .ref tl, .null, .null])), (tp, .inl (kt, 1000, .inl f4))] := hD
  refine lv_aload_n hx hb dX11_append_30 rfl (lv_at hl 1 rfl) ?_
  refine lv_dup hx hb dX11_append_31 rfl ?_
  refine va_get (D := (dC, dI)) (ci := 11) (v := .int 12) (C := RX11) (T := TX11) (N := 17) hx hb hts hin11 hown hK hP 0 rfl rfl 1 (by decide) (ho (.fieldLink RX11 13 "NearEnough" "bytes" "I") (List.mem_of_getElem? (i := 0) rfl)) (fun _ h9 => h9) rfl dX11_append_32 ?_
  refine lv_iconst (v := 1) hx hb dX11_append_35 (by decide) ?_
  refine lv_iadd hx hb dX11_append_36 ?_
  refine zi (v := 13) (by decide) ?_
  refine va_put (D := (dC, dI)) (ci := 11) (v := .int 13) (ty := tyX11 1) (C := RX11) (T := TX11) (N := 17) hx hb hts hin11 tyX11 tyX11_ok nmX11 hown hK hP hD hS 0 rfl rfl 1 (by decide) (ho (.fieldLink RX11 13 "NearEnough" "bytes" "I") (List.mem_of_getElem? (i := 0) rfl)) (fun _ h9 => h9) rfl (by decide +kernel) rfl rfl (Nat.le_of_ble_eq_true rfl) dX11_append_37 (fun H locs hP hD hS => ?_)
  have hP : va_P (dC, dI) vwCl [(h0, .inr (11, [.ref tp, .int 13, .int 0, .int (-1), .ref td, .ref sh, .ref ch, .ref sw, .ref wk, .ref g1, .ref g2, .ref g3, .int 0, .int 0, .ref tl, .null, .null])), (tp, .inl (kt, 1000, .inl f4))] H := hP
  have hD : va_D A [(h0, .inr (11, [.ref tp, .int 13, .int 0, .int (-1), .ref td, .ref sh, .ref ch, .ref sw, .ref wk, .ref g1, .ref g2, .ref g3, .int 0, .int 0, .ref tl, .null, .null])), (tp, .inl (kt, 1000, .inl f4))] := hD
  refine lv_iinc (v := 16) (lv' := [(2, .int 16), (0, .ref h0), (1, .int x)]) hx hb dX11_append_40 hl (k := 0) rfl (by decide) (by decide) rfl (fun ls hl => ?_)
  refine lv_goto (tgt := 3) hx hb dX11_append_43 (by decide) ?_
  refine lv_iload_n hx hb dX11_append_3 rfl (lv_at hl 0 rfl) ?_
  refine lv_if_lt (tgt := 46) hx hb dX11_append_4 (by decide) (fun cc => absurd cc (by decide)) (fun _ => ?_)
  refine lv_aload_n hx hb dX11_append_7 rfl (lv_at hl 1 rfl) ?_
  refine va_get (D := (dC, dI)) (ci := 11) (v := .int 13) (C := RX11) (T := TX11) (N := 17) hx hb hts hin11 hown hK hP 0 rfl rfl 1 (by decide) (ho (.fieldLink RX11 13 "NearEnough" "bytes" "I") (List.mem_of_getElem? (i := 0) rfl)) (fun _ h9 => h9) rfl dX11_append_8 ?_
  refine lv_sipush (v := 1000) hx hb dX11_append_11 (by decide) ?_
  refine lv_icmp_ge (tgt := 46) hx hb dX11_append_14 (by decide) (fun cc => absurd cc (by decide)) (fun _ => ?_)
  refine lv_aload_n hx hb dX11_append_17 rfl (lv_at hl 1 rfl) ?_
  refine va_get (D := (dC, dI)) (ci := 11) (v := .ref tp) (C := RX11) (T := TX11) (N := 17) hx hb hts hin11 hown hK hP 0 rfl rfl 0 (by decide) (ho (.fieldLink RX11 9 "NearEnough" "tape" "[B") (List.mem_of_getElem? (i := 1) rfl)) (fun _ h9 => h9) rfl dX11_append_18 ?_
  refine lv_aload_n hx hb dX11_append_21 rfl (lv_at hl 1 rfl) ?_
  refine va_get (D := (dC, dI)) (ci := 11) (v := .int 13) (C := RX11) (T := TX11) (N := 17) hx hb hts hin11 hown hK hP 0 rfl rfl 1 (by decide) (ho (.fieldLink RX11 13 "NearEnough" "bytes" "I") (List.mem_of_getElem? (i := 0) rfl)) (fun _ h9 => h9) rfl dX11_append_22 ?_
  refine lv_iload_n hx hb dX11_append_25 rfl (lv_at hl 2 rfl) ?_
  refine lv_iload_n hx hb dX11_append_26 rfl (lv_at hl 0 rfl) ?_
  refine lv_iushr hx hb dX11_append_27 rfl ?_
  refine lv_topi (fun z5 ez5 => ?_)
  refine lv_i2b hx hb dX11_append_28 rfl ?_
  refine lv_topi (fun z6 ez6 => ?_)
  refine va_bast hx hb hK hP hD hS 1 0 rfl rfl (by unfold vp_in; decide) dX11_append_29 (fun H locs hP hD hS => ?_)
  have hP : va_P (dC, dI) vwCl [(h0, .inr (11, [.ref tp, .int 13, .int 0, .int (-1), .ref td, .ref sh, .ref ch, .ref sw, .ref wk, .ref g1, .ref g2, .ref g3, .int 0, .int 0, .ref tl, .null, .null])), (tp, .inl (kt, 1000, .inl (upd f4 (Int32.toNatClampNeg 13) (vp_nar .byte z6))))] H := hP
  have hD : va_D A [(h0, .inr (11, [.ref tp, .int 13, .int 0, .int (-1), .ref td, .ref sh, .ref ch, .ref sw, .ref wk, .ref g1, .ref g2, .ref g3, .int 0, .int 0, .ref tl, .null, .null])), (tp, .inl (kt, 1000, .inl (upd f4 (Int32.toNatClampNeg 13) (vp_nar .byte z6))))] := hD
  generalize upd f4 (Int32.toNatClampNeg 13) (vp_nar .byte z6) = f8 at hP hD
  have hP : va_P (dC, dI) vwCl [(h0, .inr (11, [.ref tp, .int 13, .int 0, .int (-1), .ref td, .ref sh, .ref ch, .ref sw, .ref wk, .ref g1, .ref g2, .ref g3, .int 0, .int 0, .ref tl, .null, .null])), (tp, .inl (kt, 1000, .inl f8))] H := hP
  have hD : va_D A [(h0, .inr (11, [.ref tp, .int 13, .int 0, .int (-1), .ref td, .ref sh, .ref ch, .ref sw, .ref wk, .ref g1, .ref g2, .ref g3, .int 0, .int 0, .ref tl, .null, .null])), (tp, .inl (kt, 1000, .inl f8))] := hD
  refine lv_aload_n hx hb dX11_append_30 rfl (lv_at hl 1 rfl) ?_
  refine lv_dup hx hb dX11_append_31 rfl ?_
  refine va_get (D := (dC, dI)) (ci := 11) (v := .int 13) (C := RX11) (T := TX11) (N := 17) hx hb hts hin11 hown hK hP 0 rfl rfl 1 (by decide) (ho (.fieldLink RX11 13 "NearEnough" "bytes" "I") (List.mem_of_getElem? (i := 0) rfl)) (fun _ h9 => h9) rfl dX11_append_32 ?_
  refine lv_iconst (v := 1) hx hb dX11_append_35 (by decide) ?_
  refine lv_iadd hx hb dX11_append_36 ?_
  refine zi (v := 14) (by decide) ?_
  refine va_put (D := (dC, dI)) (ci := 11) (v := .int 14) (ty := tyX11 1) (C := RX11) (T := TX11) (N := 17) hx hb hts hin11 tyX11 tyX11_ok nmX11 hown hK hP hD hS 0 rfl rfl 1 (by decide) (ho (.fieldLink RX11 13 "NearEnough" "bytes" "I") (List.mem_of_getElem? (i := 0) rfl)) (fun _ h9 => h9) rfl (by decide +kernel) rfl rfl (Nat.le_of_ble_eq_true rfl) dX11_append_37 (fun H locs hP hD hS => ?_)
  have hP : va_P (dC, dI) vwCl [(h0, .inr (11, [.ref tp, .int 14, .int 0, .int (-1), .ref td, .ref sh, .ref ch, .ref sw, .ref wk, .ref g1, .ref g2, .ref g3, .int 0, .int 0, .ref tl, .null, .null])), (tp, .inl (kt, 1000, .inl f8))] H := hP
  have hD : va_D A [(h0, .inr (11, [.ref tp, .int 14, .int 0, .int (-1), .ref td, .ref sh, .ref ch, .ref sw, .ref wk, .ref g1, .ref g2, .ref g3, .int 0, .int 0, .ref tl, .null, .null])), (tp, .inl (kt, 1000, .inl f8))] := hD
  refine lv_iinc (v := 8) (lv' := [(2, .int 8), (0, .ref h0), (1, .int x)]) hx hb dX11_append_40 hl (k := 0) rfl (by decide) (by decide) rfl (fun ls hl => ?_)
  refine lv_goto (tgt := 3) hx hb dX11_append_43 (by decide) ?_
  refine lv_iload_n hx hb dX11_append_3 rfl (lv_at hl 0 rfl) ?_
  refine lv_if_lt (tgt := 46) hx hb dX11_append_4 (by decide) (fun cc => absurd cc (by decide)) (fun _ => ?_)
  refine lv_aload_n hx hb dX11_append_7 rfl (lv_at hl 1 rfl) ?_
  refine va_get (D := (dC, dI)) (ci := 11) (v := .int 14) (C := RX11) (T := TX11) (N := 17) hx hb hts hin11 hown hK hP 0 rfl rfl 1 (by decide) (ho (.fieldLink RX11 13 "NearEnough" "bytes" "I") (List.mem_of_getElem? (i := 0) rfl)) (fun _ h9 => h9) rfl dX11_append_8 ?_
  refine lv_sipush (v := 1000) hx hb dX11_append_11 (by decide) ?_
  refine lv_icmp_ge (tgt := 46) hx hb dX11_append_14 (by decide) (fun cc => absurd cc (by decide)) (fun _ => ?_)
  refine lv_aload_n hx hb dX11_append_17 rfl (lv_at hl 1 rfl) ?_
  refine va_get (D := (dC, dI)) (ci := 11) (v := .ref tp) (C := RX11) (T := TX11) (N := 17) hx hb hts hin11 hown hK hP 0 rfl rfl 0 (by decide) (ho (.fieldLink RX11 9 "NearEnough" "tape" "[B") (List.mem_of_getElem? (i := 1) rfl)) (fun _ h9 => h9) rfl dX11_append_18 ?_
  refine lv_aload_n hx hb dX11_append_21 rfl (lv_at hl 1 rfl) ?_
  refine va_get (D := (dC, dI)) (ci := 11) (v := .int 14) (C := RX11) (T := TX11) (N := 17) hx hb hts hin11 hown hK hP 0 rfl rfl 1 (by decide) (ho (.fieldLink RX11 13 "NearEnough" "bytes" "I") (List.mem_of_getElem? (i := 0) rfl)) (fun _ h9 => h9) rfl dX11_append_22 ?_
  refine lv_iload_n hx hb dX11_append_25 rfl (lv_at hl 2 rfl) ?_
  refine lv_iload_n hx hb dX11_append_26 rfl (lv_at hl 0 rfl) ?_
  refine lv_iushr hx hb dX11_append_27 rfl ?_
  refine lv_topi (fun z9 ez9 => ?_)
  refine lv_i2b hx hb dX11_append_28 rfl ?_
  refine lv_topi (fun z10 ez10 => ?_)
  refine va_bast hx hb hK hP hD hS 1 0 rfl rfl (by unfold vp_in; decide) dX11_append_29 (fun H locs hP hD hS => ?_)
  have hP : va_P (dC, dI) vwCl [(h0, .inr (11, [.ref tp, .int 14, .int 0, .int (-1), .ref td, .ref sh, .ref ch, .ref sw, .ref wk, .ref g1, .ref g2, .ref g3, .int 0, .int 0, .ref tl, .null, .null])), (tp, .inl (kt, 1000, .inl (upd f8 (Int32.toNatClampNeg 14) (vp_nar .byte z10))))] H := hP
  have hD : va_D A [(h0, .inr (11, [.ref tp, .int 14, .int 0, .int (-1), .ref td, .ref sh, .ref ch, .ref sw, .ref wk, .ref g1, .ref g2, .ref g3, .int 0, .int 0, .ref tl, .null, .null])), (tp, .inl (kt, 1000, .inl (upd f8 (Int32.toNatClampNeg 14) (vp_nar .byte z10))))] := hD
  generalize upd f8 (Int32.toNatClampNeg 14) (vp_nar .byte z10) = f12 at hP hD
  have hP : va_P (dC, dI) vwCl [(h0, .inr (11, [.ref tp, .int 14, .int 0, .int (-1), .ref td, .ref sh, .ref ch, .ref sw, .ref wk, .ref g1, .ref g2, .ref g3, .int 0, .int 0, .ref tl, .null, .null])), (tp, .inl (kt, 1000, .inl f12))] H := hP
  have hD : va_D A [(h0, .inr (11, [.ref tp, .int 14, .int 0, .int (-1), .ref td, .ref sh, .ref ch, .ref sw, .ref wk, .ref g1, .ref g2, .ref g3, .int 0, .int 0, .ref tl, .null, .null])), (tp, .inl (kt, 1000, .inl f12))] := hD
  refine lv_aload_n hx hb dX11_append_30 rfl (lv_at hl 1 rfl) ?_
  refine lv_dup hx hb dX11_append_31 rfl ?_
  refine va_get (D := (dC, dI)) (ci := 11) (v := .int 14) (C := RX11) (T := TX11) (N := 17) hx hb hts hin11 hown hK hP 0 rfl rfl 1 (by decide) (ho (.fieldLink RX11 13 "NearEnough" "bytes" "I") (List.mem_of_getElem? (i := 0) rfl)) (fun _ h9 => h9) rfl dX11_append_32 ?_
  refine lv_iconst (v := 1) hx hb dX11_append_35 (by decide) ?_
  refine lv_iadd hx hb dX11_append_36 ?_
  refine zi (v := 15) (by decide) ?_
  refine va_put (D := (dC, dI)) (ci := 11) (v := .int 15) (ty := tyX11 1) (C := RX11) (T := TX11) (N := 17) hx hb hts hin11 tyX11 tyX11_ok nmX11 hown hK hP hD hS 0 rfl rfl 1 (by decide) (ho (.fieldLink RX11 13 "NearEnough" "bytes" "I") (List.mem_of_getElem? (i := 0) rfl)) (fun _ h9 => h9) rfl (by decide +kernel) rfl rfl (Nat.le_of_ble_eq_true rfl) dX11_append_37 (fun H locs hP hD hS => ?_)
  have hP : va_P (dC, dI) vwCl [(h0, .inr (11, [.ref tp, .int 15, .int 0, .int (-1), .ref td, .ref sh, .ref ch, .ref sw, .ref wk, .ref g1, .ref g2, .ref g3, .int 0, .int 0, .ref tl, .null, .null])), (tp, .inl (kt, 1000, .inl f12))] H := hP
  have hD : va_D A [(h0, .inr (11, [.ref tp, .int 15, .int 0, .int (-1), .ref td, .ref sh, .ref ch, .ref sw, .ref wk, .ref g1, .ref g2, .ref g3, .int 0, .int 0, .ref tl, .null, .null])), (tp, .inl (kt, 1000, .inl f12))] := hD
  refine lv_iinc (v := 0) (lv' := [(2, .int 0), (0, .ref h0), (1, .int x)]) hx hb dX11_append_40 hl (k := 0) rfl (by decide) (by decide) rfl (fun ls hl => ?_)
  refine lv_goto (tgt := 3) hx hb dX11_append_43 (by decide) ?_
  refine lv_iload_n hx hb dX11_append_3 rfl (lv_at hl 0 rfl) ?_
  refine lv_if_lt (tgt := 46) hx hb dX11_append_4 (by decide) (fun cc => absurd cc (by decide)) (fun _ => ?_)
  refine lv_aload_n hx hb dX11_append_7 rfl (lv_at hl 1 rfl) ?_
  refine va_get (D := (dC, dI)) (ci := 11) (v := .int 15) (C := RX11) (T := TX11) (N := 17) hx hb hts hin11 hown hK hP 0 rfl rfl 1 (by decide) (ho (.fieldLink RX11 13 "NearEnough" "bytes" "I") (List.mem_of_getElem? (i := 0) rfl)) (fun _ h9 => h9) rfl dX11_append_8 ?_
  refine lv_sipush (v := 1000) hx hb dX11_append_11 (by decide) ?_
  refine lv_icmp_ge (tgt := 46) hx hb dX11_append_14 (by decide) (fun cc => absurd cc (by decide)) (fun _ => ?_)
  refine lv_aload_n hx hb dX11_append_17 rfl (lv_at hl 1 rfl) ?_
  refine va_get (D := (dC, dI)) (ci := 11) (v := .ref tp) (C := RX11) (T := TX11) (N := 17) hx hb hts hin11 hown hK hP 0 rfl rfl 0 (by decide) (ho (.fieldLink RX11 9 "NearEnough" "tape" "[B") (List.mem_of_getElem? (i := 1) rfl)) (fun _ h9 => h9) rfl dX11_append_18 ?_
  refine lv_aload_n hx hb dX11_append_21 rfl (lv_at hl 1 rfl) ?_
  refine va_get (D := (dC, dI)) (ci := 11) (v := .int 15) (C := RX11) (T := TX11) (N := 17) hx hb hts hin11 hown hK hP 0 rfl rfl 1 (by decide) (ho (.fieldLink RX11 13 "NearEnough" "bytes" "I") (List.mem_of_getElem? (i := 0) rfl)) (fun _ h9 => h9) rfl dX11_append_22 ?_
  refine lv_iload_n hx hb dX11_append_25 rfl (lv_at hl 2 rfl) ?_
  refine lv_iload_n hx hb dX11_append_26 rfl (lv_at hl 0 rfl) ?_
  refine lv_iushr hx hb dX11_append_27 rfl ?_
  refine lv_topi (fun z13 ez13 => ?_)
  refine lv_i2b hx hb dX11_append_28 rfl ?_
  refine lv_topi (fun z14 ez14 => ?_)
  refine va_bast hx hb hK hP hD hS 1 0 rfl rfl (by unfold vp_in; decide) dX11_append_29 (fun H locs hP hD hS => ?_)
  have hP : va_P (dC, dI) vwCl [(h0, .inr (11, [.ref tp, .int 15, .int 0, .int (-1), .ref td, .ref sh, .ref ch, .ref sw, .ref wk, .ref g1, .ref g2, .ref g3, .int 0, .int 0, .ref tl, .null, .null])), (tp, .inl (kt, 1000, .inl (upd f12 (Int32.toNatClampNeg 15) (vp_nar .byte z14))))] H := hP
  have hD : va_D A [(h0, .inr (11, [.ref tp, .int 15, .int 0, .int (-1), .ref td, .ref sh, .ref ch, .ref sw, .ref wk, .ref g1, .ref g2, .ref g3, .int 0, .int 0, .ref tl, .null, .null])), (tp, .inl (kt, 1000, .inl (upd f12 (Int32.toNatClampNeg 15) (vp_nar .byte z14))))] := hD
  generalize upd f12 (Int32.toNatClampNeg 15) (vp_nar .byte z14) = f16 at hP hD
  have hP : va_P (dC, dI) vwCl [(h0, .inr (11, [.ref tp, .int 15, .int 0, .int (-1), .ref td, .ref sh, .ref ch, .ref sw, .ref wk, .ref g1, .ref g2, .ref g3, .int 0, .int 0, .ref tl, .null, .null])), (tp, .inl (kt, 1000, .inl f16))] H := hP
  have hD : va_D A [(h0, .inr (11, [.ref tp, .int 15, .int 0, .int (-1), .ref td, .ref sh, .ref ch, .ref sw, .ref wk, .ref g1, .ref g2, .ref g3, .int 0, .int 0, .ref tl, .null, .null])), (tp, .inl (kt, 1000, .inl f16))] := hD
  refine lv_aload_n hx hb dX11_append_30 rfl (lv_at hl 1 rfl) ?_
  refine lv_dup hx hb dX11_append_31 rfl ?_
  refine va_get (D := (dC, dI)) (ci := 11) (v := .int 15) (C := RX11) (T := TX11) (N := 17) hx hb hts hin11 hown hK hP 0 rfl rfl 1 (by decide) (ho (.fieldLink RX11 13 "NearEnough" "bytes" "I") (List.mem_of_getElem? (i := 0) rfl)) (fun _ h9 => h9) rfl dX11_append_32 ?_
  refine lv_iconst (v := 1) hx hb dX11_append_35 (by decide) ?_
  refine lv_iadd hx hb dX11_append_36 ?_
  refine zi (v := 16) (by decide) ?_
  refine va_put (D := (dC, dI)) (ci := 11) (v := .int 16) (ty := tyX11 1) (C := RX11) (T := TX11) (N := 17) hx hb hts hin11 tyX11 tyX11_ok nmX11 hown hK hP hD hS 0 rfl rfl 1 (by decide) (ho (.fieldLink RX11 13 "NearEnough" "bytes" "I") (List.mem_of_getElem? (i := 0) rfl)) (fun _ h9 => h9) rfl (by decide +kernel) rfl rfl (Nat.le_of_ble_eq_true rfl) dX11_append_37 (fun H locs hP hD hS => ?_)
  have hP : va_P (dC, dI) vwCl [(h0, .inr (11, [.ref tp, .int 16, .int 0, .int (-1), .ref td, .ref sh, .ref ch, .ref sw, .ref wk, .ref g1, .ref g2, .ref g3, .int 0, .int 0, .ref tl, .null, .null])), (tp, .inl (kt, 1000, .inl f16))] H := hP
  have hD : va_D A [(h0, .inr (11, [.ref tp, .int 16, .int 0, .int (-1), .ref td, .ref sh, .ref ch, .ref sw, .ref wk, .ref g1, .ref g2, .ref g3, .int 0, .int 0, .ref tl, .null, .null])), (tp, .inl (kt, 1000, .inl f16))] := hD
  refine lv_iinc (v := (-8)) (lv' := [(2, .int (-8)), (0, .ref h0), (1, .int x)]) hx hb dX11_append_40 hl (k := 0) rfl (by decide) (by decide) rfl (fun ls hl => ?_)
  refine lv_goto (tgt := 3) hx hb dX11_append_43 (by decide) ?_
  refine lv_iload_n hx hb dX11_append_3 rfl (lv_at hl 0 rfl) ?_
  refine lv_if_lt (tgt := 46) hx hb dX11_append_4 (by decide) (fun _ => ?_) (fun cc => absurd (by decide) cc)
  refine W.widen (k := 0) (n := 0) (Nat.le_of_ble_eq_true rfl) (Nat.le_of_ble_eq_true rfl) ?_
  exact W.vret hx hb hr (fun t ht hW => ⟨⟨f16, rfl, trivial, wEn_of (hP.sub [0, 1] rfl) (hK.sub [] rfl) (hD.sub [0, 1] (by decide) rfl) ht hW⟩, hS.F ht⟩) hS.2.2 dX11_append_46
def ow_c_append16 : List Cond := [.fieldLink RX11 13 "NearEnough" "bytes" "I", .fieldLink RX11 9 "NearEnough" "tape" "[B"]
def vs_c_append16 : List Cond := .code yX11_append cX11_append 3 none :: (ow_c_append16 ++ (wsX110))
theorem vg_c_append16 : vs_c_append16.all goodWord = true := by decide +kernel
set_option maxHeartbeats 4000000 in
set_option maxRecDepth 100000 in
theorem c_append16 (l : Launch) (dC : Nat → ClassId) (dI : Nat → Nat → Nat) (h0 : Nat) (tp : Nat) (td : Nat) (sh : Nat) (ch : Nat) (sw : Nat) (wk : Nat) (g1 : Nat) (g2 : Nat) (g3 : Nat) (tl : Nat) (kt : ClassId) (f0 : Nat → Int32) (x : Int32) (sz : Nat) : Met l yX11_append vs_c_append16 ({ frames := 0, cells := 0, slots := 0, locals := 0 }) (va_Pc [.ref h0, .int x] (wSt dC dI [(h0, .inr (11, [.ref tp, .int 16, .int 0, .int (-1), .ref td, .ref sh, .ref ch, .ref sw, .ref wk, .ref g1, .ref g2, .ref g3, .int 0, .int 0, .ref tl, .null, .null])), (tp, .inl (kt, 1000, .inl f0))] [(kt, .byte)] sz)) (va_Qv (fun (_ : (Nat → Int32)) => True) (fun (u : (Nat → Int32)) => wEn dC dI (va_A [(h0, .inr (11, [.ref tp, .int 16, .int 0, .int (-1), .ref td, .ref sh, .ref ch, .ref sw, .ref wk, .ref g1, .ref g2, .ref g3, .int 0, .int 0, .ref tl, .null, .null])), (tp, .inl (kt, 1000, .inl f0))] sz) [(h0, .inr (11, [.ref tp, .int 20, .int 0, .int (-1), .ref td, .ref sh, .ref ch, .ref sw, .ref wk, .ref g1, .ref g2, .ref g3, .int 0, .int 0, .ref tl, .null, .null])), (tp, .inl (kt, 1000, .inl u))] []) (va_A [(h0, .inr (11, [.ref tp, .int 16, .int 0, .int (-1), .ref td, .ref sh, .ref ch, .ref sw, .ref wk, .ref g1, .ref g2, .ref g3, .int 0, .int 0, .ref tl, .null, .null])), (tp, .inl (kt, 1000, .inl f0))] sz)) 0 0 (va_A [(h0, .inr (11, [.ref tp, .int 16, .int 0, .int (-1), .ref td, .ref sh, .ref ch, .ref sw, .ref wk, .ref g1, .ref g2, .ref g3, .int 0, .int 0, .ref tl, .null, .null])), (tp, .inl (kt, 1000, .inl f0))] sz) := by
  refine Met.ofW (cc := cX11_append) (maxL := 3) (ret := none) (by decide) rfl ?_
  intro p e s m args below meth c s₁ B hml hv
  obtain ⟨rfl, hsz, hP, hK, hD0, hE⟩ := hv
  have hx := B.exec
  have hb := B.bytes
  have hr := B.returns
  have hts := atoms_spec (ws := vs_c_append16) B.pre
  have hown : s.vm.findClass RX11 = some m.cls := findClass_of_methodNamed B.named
  have hlocks := B.notSynchronized
  subst hsz
  have hD := hD0.self (sz := s.heap.size)
  generalize hAe : va_A [(h0, .inr (11, [.ref tp, .int 16, .int 0, .int (-1), .ref td, .ref sh, .ref ch, .ref sw, .ref wk, .ref g1, .ref g2, .ref g3, .int 0, .int 0, .ref tl, .null, .null])), (tp, .inl (kt, 1000, .inl f0))] s.heap.size = A at hD ⊢
  have hA : ∀ q : Nat, s.heap.size ≤ q → A q := fun q h => by rw [← hAe]; exact Or.inr h
  have hl := lv_entry ([.ref h0, .int x]) (n := 3) (Nat.le_of_ble_eq_true rfl)
  rw [lg_entry_eq]
  generalize (lg_sl ([.ref h0, .int x]) ++ List.replicate (3 - (lg_sl ([.ref h0, .int x])).length) Slot.unset).toArray = ls at hl ⊢
  have hl : lv_has ls 3 [(0, .ref h0), (1, .int x)] := hl
  refine zH (A := A) (ws := [(h0, .inr (11, [.ref tp, .int 16, .int 0, .int (-1), .ref td, .ref sh, .ref ch, .ref sw, .ref wk, .ref g1, .ref g2, .ref g3, .int 0, .int 0, .ref tl, .null, .null])), (tp, .inl (kt, 1000, .inl f0))]) (fun H hP hS => ?_) hP
  have ho := fun w (h : w ∈ ow_c_append16) => hts w (List.mem_cons_of_mem _ (List.mem_append_left _ h))
  have hin11 : ∀ w ∈ u_ws RX11 TX11 17, w ∈ vs_c_append16 := fun w h => (List.mem_cons_of_mem _ (List.mem_append_right _ h))
  refine lv_bipush (v := 24) hx hb dX11_append_0 (by decide) ?_
  refine lv_istore_n (lv' := [(2, .int 24), (0, .ref h0), (1, .int x)]) hx hb dX11_append_2 rfl hl (by decide) rfl (fun ls hl => ?_)
  refine lv_iload_n hx hb dX11_append_3 rfl (lv_at hl 0 rfl) ?_
  refine lv_if_lt (tgt := 46) hx hb dX11_append_4 (by decide) (fun cc => absurd cc (by decide)) (fun _ => ?_)
  refine lv_aload_n hx hb dX11_append_7 rfl (lv_at hl 1 rfl) ?_
  refine va_get (D := (dC, dI)) (ci := 11) (v := .int 16) (C := RX11) (T := TX11) (N := 17) hx hb hts hin11 hown hK hP 0 rfl rfl 1 (by decide) (ho (.fieldLink RX11 13 "NearEnough" "bytes" "I") (List.mem_of_getElem? (i := 0) rfl)) (fun _ h9 => h9) rfl dX11_append_8 ?_
  refine lv_sipush (v := 1000) hx hb dX11_append_11 (by decide) ?_
  refine lv_icmp_ge (tgt := 46) hx hb dX11_append_14 (by decide) (fun cc => absurd cc (by decide)) (fun _ => ?_)
  refine lv_aload_n hx hb dX11_append_17 rfl (lv_at hl 1 rfl) ?_
  refine va_get (D := (dC, dI)) (ci := 11) (v := .ref tp) (C := RX11) (T := TX11) (N := 17) hx hb hts hin11 hown hK hP 0 rfl rfl 0 (by decide) (ho (.fieldLink RX11 9 "NearEnough" "tape" "[B") (List.mem_of_getElem? (i := 1) rfl)) (fun _ h9 => h9) rfl dX11_append_18 ?_
  refine lv_aload_n hx hb dX11_append_21 rfl (lv_at hl 1 rfl) ?_
  refine va_get (D := (dC, dI)) (ci := 11) (v := .int 16) (C := RX11) (T := TX11) (N := 17) hx hb hts hin11 hown hK hP 0 rfl rfl 1 (by decide) (ho (.fieldLink RX11 13 "NearEnough" "bytes" "I") (List.mem_of_getElem? (i := 0) rfl)) (fun _ h9 => h9) rfl dX11_append_22 ?_
  refine lv_iload_n hx hb dX11_append_25 rfl (lv_at hl 2 rfl) ?_
  refine lv_iload_n hx hb dX11_append_26 rfl (lv_at hl 0 rfl) ?_
  refine lv_iushr hx hb dX11_append_27 rfl ?_
  refine lv_topi (fun z1 ez1 => ?_)
  refine lv_i2b hx hb dX11_append_28 rfl ?_
  refine lv_topi (fun z2 ez2 => ?_)
  refine va_bast hx hb hK hP hD hS 1 0 rfl rfl (by unfold vp_in; decide) dX11_append_29 (fun H locs hP hD hS => ?_)
  have hP : va_P (dC, dI) vwCl [(h0, .inr (11, [.ref tp, .int 16, .int 0, .int (-1), .ref td, .ref sh, .ref ch, .ref sw, .ref wk, .ref g1, .ref g2, .ref g3, .int 0, .int 0, .ref tl, .null, .null])), (tp, .inl (kt, 1000, .inl (upd f0 (Int32.toNatClampNeg 16) (vp_nar .byte z2))))] H := hP
  have hD : va_D A [(h0, .inr (11, [.ref tp, .int 16, .int 0, .int (-1), .ref td, .ref sh, .ref ch, .ref sw, .ref wk, .ref g1, .ref g2, .ref g3, .int 0, .int 0, .ref tl, .null, .null])), (tp, .inl (kt, 1000, .inl (upd f0 (Int32.toNatClampNeg 16) (vp_nar .byte z2))))] := hD
  generalize upd f0 (Int32.toNatClampNeg 16) (vp_nar .byte z2) = f4 at hP hD
  have hP : va_P (dC, dI) vwCl [(h0, .inr (11, [.ref tp, .int 16, .int 0, .int (-1), .ref td, .ref sh, .ref ch, .ref sw, .ref wk, .ref g1, .ref g2, .ref g3, .int 0, .int 0, .ref tl, .null, .null])), (tp, .inl (kt, 1000, .inl f4))] H := hP
  have hD : va_D A [(h0, .inr (11, [.ref tp, .int 16, .int 0, .int (-1), .ref td, .ref sh, .ref ch, .ref sw, .ref wk, .ref g1, .ref g2, .ref g3, .int 0, .int 0, .ref tl, .null, .null])), (tp, .inl (kt, 1000, .inl f4))] := hD
  refine lv_aload_n hx hb dX11_append_30 rfl (lv_at hl 1 rfl) ?_
  refine lv_dup hx hb dX11_append_31 rfl ?_
  refine va_get (D := (dC, dI)) (ci := 11) (v := .int 16) (C := RX11) (T := TX11) (N := 17) hx hb hts hin11 hown hK hP 0 rfl rfl 1 (by decide) (ho (.fieldLink RX11 13 "NearEnough" "bytes" "I") (List.mem_of_getElem? (i := 0) rfl)) (fun _ h9 => h9) rfl dX11_append_32 ?_
  refine lv_iconst (v := 1) hx hb dX11_append_35 (by decide) ?_
  refine lv_iadd hx hb dX11_append_36 ?_
  refine zi (v := 17) (by decide) ?_
  refine va_put (D := (dC, dI)) (ci := 11) (v := .int 17) (ty := tyX11 1) (C := RX11) (T := TX11) (N := 17) hx hb hts hin11 tyX11 tyX11_ok nmX11 hown hK hP hD hS 0 rfl rfl 1 (by decide) (ho (.fieldLink RX11 13 "NearEnough" "bytes" "I") (List.mem_of_getElem? (i := 0) rfl)) (fun _ h9 => h9) rfl (by decide +kernel) rfl rfl (Nat.le_of_ble_eq_true rfl) dX11_append_37 (fun H locs hP hD hS => ?_)
  have hP : va_P (dC, dI) vwCl [(h0, .inr (11, [.ref tp, .int 17, .int 0, .int (-1), .ref td, .ref sh, .ref ch, .ref sw, .ref wk, .ref g1, .ref g2, .ref g3, .int 0, .int 0, .ref tl, .null, .null])), (tp, .inl (kt, 1000, .inl f4))] H := hP
  have hD : va_D A [(h0, .inr (11, [.ref tp, .int 17, .int 0, .int (-1), .ref td, .ref sh, .ref ch, .ref sw, .ref wk, .ref g1, .ref g2, .ref g3, .int 0, .int 0, .ref tl, .null, .null])), (tp, .inl (kt, 1000, .inl f4))] := hD
  refine lv_iinc (v := 16) (lv' := [(2, .int 16), (0, .ref h0), (1, .int x)]) hx hb dX11_append_40 hl (k := 0) rfl (by decide) (by decide) rfl (fun ls hl => ?_)
  refine lv_goto (tgt := 3) hx hb dX11_append_43 (by decide) ?_
  refine lv_iload_n hx hb dX11_append_3 rfl (lv_at hl 0 rfl) ?_
  refine lv_if_lt (tgt := 46) hx hb dX11_append_4 (by decide) (fun cc => absurd cc (by decide)) (fun _ => ?_)
  refine lv_aload_n hx hb dX11_append_7 rfl (lv_at hl 1 rfl) ?_
  refine va_get (D := (dC, dI)) (ci := 11) (v := .int 17) (C := RX11) (T := TX11) (N := 17) hx hb hts hin11 hown hK hP 0 rfl rfl 1 (by decide) (ho (.fieldLink RX11 13 "NearEnough" "bytes" "I") (List.mem_of_getElem? (i := 0) rfl)) (fun _ h9 => h9) rfl dX11_append_8 ?_
  refine lv_sipush (v := 1000) hx hb dX11_append_11 (by decide) ?_
  refine lv_icmp_ge (tgt := 46) hx hb dX11_append_14 (by decide) (fun cc => absurd cc (by decide)) (fun _ => ?_)
  refine lv_aload_n hx hb dX11_append_17 rfl (lv_at hl 1 rfl) ?_
  refine va_get (D := (dC, dI)) (ci := 11) (v := .ref tp) (C := RX11) (T := TX11) (N := 17) hx hb hts hin11 hown hK hP 0 rfl rfl 0 (by decide) (ho (.fieldLink RX11 9 "NearEnough" "tape" "[B") (List.mem_of_getElem? (i := 1) rfl)) (fun _ h9 => h9) rfl dX11_append_18 ?_
  refine lv_aload_n hx hb dX11_append_21 rfl (lv_at hl 1 rfl) ?_
  refine va_get (D := (dC, dI)) (ci := 11) (v := .int 17) (C := RX11) (T := TX11) (N := 17) hx hb hts hin11 hown hK hP 0 rfl rfl 1 (by decide) (ho (.fieldLink RX11 13 "NearEnough" "bytes" "I") (List.mem_of_getElem? (i := 0) rfl)) (fun _ h9 => h9) rfl dX11_append_22 ?_
  refine lv_iload_n hx hb dX11_append_25 rfl (lv_at hl 2 rfl) ?_
  refine lv_iload_n hx hb dX11_append_26 rfl (lv_at hl 0 rfl) ?_
  refine lv_iushr hx hb dX11_append_27 rfl ?_
  refine lv_topi (fun z5 ez5 => ?_)
  refine lv_i2b hx hb dX11_append_28 rfl ?_
  refine lv_topi (fun z6 ez6 => ?_)
  refine va_bast hx hb hK hP hD hS 1 0 rfl rfl (by unfold vp_in; decide) dX11_append_29 (fun H locs hP hD hS => ?_)
  have hP : va_P (dC, dI) vwCl [(h0, .inr (11, [.ref tp, .int 17, .int 0, .int (-1), .ref td, .ref sh, .ref ch, .ref sw, .ref wk, .ref g1, .ref g2, .ref g3, .int 0, .int 0, .ref tl, .null, .null])), (tp, .inl (kt, 1000, .inl (upd f4 (Int32.toNatClampNeg 17) (vp_nar .byte z6))))] H := hP
  have hD : va_D A [(h0, .inr (11, [.ref tp, .int 17, .int 0, .int (-1), .ref td, .ref sh, .ref ch, .ref sw, .ref wk, .ref g1, .ref g2, .ref g3, .int 0, .int 0, .ref tl, .null, .null])), (tp, .inl (kt, 1000, .inl (upd f4 (Int32.toNatClampNeg 17) (vp_nar .byte z6))))] := hD
  generalize upd f4 (Int32.toNatClampNeg 17) (vp_nar .byte z6) = f8 at hP hD
  have hP : va_P (dC, dI) vwCl [(h0, .inr (11, [.ref tp, .int 17, .int 0, .int (-1), .ref td, .ref sh, .ref ch, .ref sw, .ref wk, .ref g1, .ref g2, .ref g3, .int 0, .int 0, .ref tl, .null, .null])), (tp, .inl (kt, 1000, .inl f8))] H := hP
  have hD : va_D A [(h0, .inr (11, [.ref tp, .int 17, .int 0, .int (-1), .ref td, .ref sh, .ref ch, .ref sw, .ref wk, .ref g1, .ref g2, .ref g3, .int 0, .int 0, .ref tl, .null, .null])), (tp, .inl (kt, 1000, .inl f8))] := hD
  refine lv_aload_n hx hb dX11_append_30 rfl (lv_at hl 1 rfl) ?_
  refine lv_dup hx hb dX11_append_31 rfl ?_
  refine va_get (D := (dC, dI)) (ci := 11) (v := .int 17) (C := RX11) (T := TX11) (N := 17) hx hb hts hin11 hown hK hP 0 rfl rfl 1 (by decide) (ho (.fieldLink RX11 13 "NearEnough" "bytes" "I") (List.mem_of_getElem? (i := 0) rfl)) (fun _ h9 => h9) rfl dX11_append_32 ?_
  refine lv_iconst (v := 1) hx hb dX11_append_35 (by decide) ?_
  refine lv_iadd hx hb dX11_append_36 ?_
  refine zi (v := 18) (by decide) ?_
  refine va_put (D := (dC, dI)) (ci := 11) (v := .int 18) (ty := tyX11 1) (C := RX11) (T := TX11) (N := 17) hx hb hts hin11 tyX11 tyX11_ok nmX11 hown hK hP hD hS 0 rfl rfl 1 (by decide) (ho (.fieldLink RX11 13 "NearEnough" "bytes" "I") (List.mem_of_getElem? (i := 0) rfl)) (fun _ h9 => h9) rfl (by decide +kernel) rfl rfl (Nat.le_of_ble_eq_true rfl) dX11_append_37 (fun H locs hP hD hS => ?_)
  have hP : va_P (dC, dI) vwCl [(h0, .inr (11, [.ref tp, .int 18, .int 0, .int (-1), .ref td, .ref sh, .ref ch, .ref sw, .ref wk, .ref g1, .ref g2, .ref g3, .int 0, .int 0, .ref tl, .null, .null])), (tp, .inl (kt, 1000, .inl f8))] H := hP
  have hD : va_D A [(h0, .inr (11, [.ref tp, .int 18, .int 0, .int (-1), .ref td, .ref sh, .ref ch, .ref sw, .ref wk, .ref g1, .ref g2, .ref g3, .int 0, .int 0, .ref tl, .null, .null])), (tp, .inl (kt, 1000, .inl f8))] := hD
  refine lv_iinc (v := 8) (lv' := [(2, .int 8), (0, .ref h0), (1, .int x)]) hx hb dX11_append_40 hl (k := 0) rfl (by decide) (by decide) rfl (fun ls hl => ?_)
  refine lv_goto (tgt := 3) hx hb dX11_append_43 (by decide) ?_
  refine lv_iload_n hx hb dX11_append_3 rfl (lv_at hl 0 rfl) ?_
  refine lv_if_lt (tgt := 46) hx hb dX11_append_4 (by decide) (fun cc => absurd cc (by decide)) (fun _ => ?_)
  refine lv_aload_n hx hb dX11_append_7 rfl (lv_at hl 1 rfl) ?_
  refine va_get (D := (dC, dI)) (ci := 11) (v := .int 18) (C := RX11) (T := TX11) (N := 17) hx hb hts hin11 hown hK hP 0 rfl rfl 1 (by decide) (ho (.fieldLink RX11 13 "NearEnough" "bytes" "I") (List.mem_of_getElem? (i := 0) rfl)) (fun _ h9 => h9) rfl dX11_append_8 ?_
  refine lv_sipush (v := 1000) hx hb dX11_append_11 (by decide) ?_
  refine lv_icmp_ge (tgt := 46) hx hb dX11_append_14 (by decide) (fun cc => absurd cc (by decide)) (fun _ => ?_)
  refine lv_aload_n hx hb dX11_append_17 rfl (lv_at hl 1 rfl) ?_
  refine va_get (D := (dC, dI)) (ci := 11) (v := .ref tp) (C := RX11) (T := TX11) (N := 17) hx hb hts hin11 hown hK hP 0 rfl rfl 0 (by decide) (ho (.fieldLink RX11 9 "NearEnough" "tape" "[B") (List.mem_of_getElem? (i := 1) rfl)) (fun _ h9 => h9) rfl dX11_append_18 ?_
  refine lv_aload_n hx hb dX11_append_21 rfl (lv_at hl 1 rfl) ?_
  refine va_get (D := (dC, dI)) (ci := 11) (v := .int 18) (C := RX11) (T := TX11) (N := 17) hx hb hts hin11 hown hK hP 0 rfl rfl 1 (by decide) (ho (.fieldLink RX11 13 "NearEnough" "bytes" "I") (List.mem_of_getElem? (i := 0) rfl)) (fun _ h9 => h9) rfl dX11_append_22 ?_
  refine lv_iload_n hx hb dX11_append_25 rfl (lv_at hl 2 rfl) ?_
  refine lv_iload_n hx hb dX11_append_26 rfl (lv_at hl 0 rfl) ?_
  refine lv_iushr hx hb dX11_append_27 rfl ?_
  refine lv_topi (fun z9 ez9 => ?_)
  refine lv_i2b hx hb dX11_append_28 rfl ?_
  refine lv_topi (fun z10 ez10 => ?_)
  refine va_bast hx hb hK hP hD hS 1 0 rfl rfl (by unfold vp_in; decide) dX11_append_29 (fun H locs hP hD hS => ?_)
  have hP : va_P (dC, dI) vwCl [(h0, .inr (11, [.ref tp, .int 18, .int 0, .int (-1), .ref td, .ref sh, .ref ch, .ref sw, .ref wk, .ref g1, .ref g2, .ref g3, .int 0, .int 0, .ref tl, .null, .null])), (tp, .inl (kt, 1000, .inl (upd f8 (Int32.toNatClampNeg 18) (vp_nar .byte z10))))] H := hP
  have hD : va_D A [(h0, .inr (11, [.ref tp, .int 18, .int 0, .int (-1), .ref td, .ref sh, .ref ch, .ref sw, .ref wk, .ref g1, .ref g2, .ref g3, .int 0, .int 0, .ref tl, .null, .null])), (tp, .inl (kt, 1000, .inl (upd f8 (Int32.toNatClampNeg 18) (vp_nar .byte z10))))] := hD
  generalize upd f8 (Int32.toNatClampNeg 18) (vp_nar .byte z10) = f12 at hP hD
  have hP : va_P (dC, dI) vwCl [(h0, .inr (11, [.ref tp, .int 18, .int 0, .int (-1), .ref td, .ref sh, .ref ch, .ref sw, .ref wk, .ref g1, .ref g2, .ref g3, .int 0, .int 0, .ref tl, .null, .null])), (tp, .inl (kt, 1000, .inl f12))] H := hP
  have hD : va_D A [(h0, .inr (11, [.ref tp, .int 18, .int 0, .int (-1), .ref td, .ref sh, .ref ch, .ref sw, .ref wk, .ref g1, .ref g2, .ref g3, .int 0, .int 0, .ref tl, .null, .null])), (tp, .inl (kt, 1000, .inl f12))] := hD
  refine lv_aload_n hx hb dX11_append_30 rfl (lv_at hl 1 rfl) ?_
  refine lv_dup hx hb dX11_append_31 rfl ?_
  refine va_get (D := (dC, dI)) (ci := 11) (v := .int 18) (C := RX11) (T := TX11) (N := 17) hx hb hts hin11 hown hK hP 0 rfl rfl 1 (by decide) (ho (.fieldLink RX11 13 "NearEnough" "bytes" "I") (List.mem_of_getElem? (i := 0) rfl)) (fun _ h9 => h9) rfl dX11_append_32 ?_
  refine lv_iconst (v := 1) hx hb dX11_append_35 (by decide) ?_
  refine lv_iadd hx hb dX11_append_36 ?_
  refine zi (v := 19) (by decide) ?_
  refine va_put (D := (dC, dI)) (ci := 11) (v := .int 19) (ty := tyX11 1) (C := RX11) (T := TX11) (N := 17) hx hb hts hin11 tyX11 tyX11_ok nmX11 hown hK hP hD hS 0 rfl rfl 1 (by decide) (ho (.fieldLink RX11 13 "NearEnough" "bytes" "I") (List.mem_of_getElem? (i := 0) rfl)) (fun _ h9 => h9) rfl (by decide +kernel) rfl rfl (Nat.le_of_ble_eq_true rfl) dX11_append_37 (fun H locs hP hD hS => ?_)
  have hP : va_P (dC, dI) vwCl [(h0, .inr (11, [.ref tp, .int 19, .int 0, .int (-1), .ref td, .ref sh, .ref ch, .ref sw, .ref wk, .ref g1, .ref g2, .ref g3, .int 0, .int 0, .ref tl, .null, .null])), (tp, .inl (kt, 1000, .inl f12))] H := hP
  have hD : va_D A [(h0, .inr (11, [.ref tp, .int 19, .int 0, .int (-1), .ref td, .ref sh, .ref ch, .ref sw, .ref wk, .ref g1, .ref g2, .ref g3, .int 0, .int 0, .ref tl, .null, .null])), (tp, .inl (kt, 1000, .inl f12))] := hD
  refine lv_iinc (v := 0) (lv' := [(2, .int 0), (0, .ref h0), (1, .int x)]) hx hb dX11_append_40 hl (k := 0) rfl (by decide) (by decide) rfl (fun ls hl => ?_)
  refine lv_goto (tgt := 3) hx hb dX11_append_43 (by decide) ?_
  refine lv_iload_n hx hb dX11_append_3 rfl (lv_at hl 0 rfl) ?_
  refine lv_if_lt (tgt := 46) hx hb dX11_append_4 (by decide) (fun cc => absurd cc (by decide)) (fun _ => ?_)
  refine lv_aload_n hx hb dX11_append_7 rfl (lv_at hl 1 rfl) ?_
  refine va_get (D := (dC, dI)) (ci := 11) (v := .int 19) (C := RX11) (T := TX11) (N := 17) hx hb hts hin11 hown hK hP 0 rfl rfl 1 (by decide) (ho (.fieldLink RX11 13 "NearEnough" "bytes" "I") (List.mem_of_getElem? (i := 0) rfl)) (fun _ h9 => h9) rfl dX11_append_8 ?_
  refine lv_sipush (v := 1000) hx hb dX11_append_11 (by decide) ?_
  refine lv_icmp_ge (tgt := 46) hx hb dX11_append_14 (by decide) (fun cc => absurd cc (by decide)) (fun _ => ?_)
  refine lv_aload_n hx hb dX11_append_17 rfl (lv_at hl 1 rfl) ?_
  refine va_get (D := (dC, dI)) (ci := 11) (v := .ref tp) (C := RX11) (T := TX11) (N := 17) hx hb hts hin11 hown hK hP 0 rfl rfl 0 (by decide) (ho (.fieldLink RX11 9 "NearEnough" "tape" "[B") (List.mem_of_getElem? (i := 1) rfl)) (fun _ h9 => h9) rfl dX11_append_18 ?_
  refine lv_aload_n hx hb dX11_append_21 rfl (lv_at hl 1 rfl) ?_
  refine va_get (D := (dC, dI)) (ci := 11) (v := .int 19) (C := RX11) (T := TX11) (N := 17) hx hb hts hin11 hown hK hP 0 rfl rfl 1 (by decide) (ho (.fieldLink RX11 13 "NearEnough" "bytes" "I") (List.mem_of_getElem? (i := 0) rfl)) (fun _ h9 => h9) rfl dX11_append_22 ?_
  refine lv_iload_n hx hb dX11_append_25 rfl (lv_at hl 2 rfl) ?_
  refine lv_iload_n hx hb dX11_append_26 rfl (lv_at hl 0 rfl) ?_
  refine lv_iushr hx hb dX11_append_27 rfl ?_
  refine lv_topi (fun z13 ez13 => ?_)
  refine lv_i2b hx hb dX11_append_28 rfl ?_
  refine lv_topi (fun z14 ez14 => ?_)
  refine va_bast hx hb hK hP hD hS 1 0 rfl rfl (by unfold vp_in; decide) dX11_append_29 (fun H locs hP hD hS => ?_)
  have hP : va_P (dC, dI) vwCl [(h0, .inr (11, [.ref tp, .int 19, .int 0, .int (-1), .ref td, .ref sh, .ref ch, .ref sw, .ref wk, .ref g1, .ref g2, .ref g3, .int 0, .int 0, .ref tl, .null, .null])), (tp, .inl (kt, 1000, .inl (upd f12 (Int32.toNatClampNeg 19) (vp_nar .byte z14))))] H := hP
  have hD : va_D A [(h0, .inr (11, [.ref tp, .int 19, .int 0, .int (-1), .ref td, .ref sh, .ref ch, .ref sw, .ref wk, .ref g1, .ref g2, .ref g3, .int 0, .int 0, .ref tl, .null, .null])), (tp, .inl (kt, 1000, .inl (upd f12 (Int32.toNatClampNeg 19) (vp_nar .byte z14))))] := hD
  generalize upd f12 (Int32.toNatClampNeg 19) (vp_nar .byte z14) = f16 at hP hD
  have hP : va_P (dC, dI) vwCl [(h0, .inr (11, [.ref tp, .int 19, .int 0, .int (-1), .ref td, .ref sh, .ref ch, .ref sw, .ref wk, .ref g1, .ref g2, .ref g3, .int 0, .int 0, .ref tl, .null, .null])), (tp, .inl (kt, 1000, .inl f16))] H := hP
  have hD : va_D A [(h0, .inr (11, [.ref tp, .int 19, .int 0, .int (-1), .ref td, .ref sh, .ref ch, .ref sw, .ref wk, .ref g1, .ref g2, .ref g3, .int 0, .int 0, .ref tl, .null, .null])), (tp, .inl (kt, 1000, .inl f16))] := hD
  refine lv_aload_n hx hb dX11_append_30 rfl (lv_at hl 1 rfl) ?_
  refine lv_dup hx hb dX11_append_31 rfl ?_
  refine va_get (D := (dC, dI)) (ci := 11) (v := .int 19) (C := RX11) (T := TX11) (N := 17) hx hb hts hin11 hown hK hP 0 rfl rfl 1 (by decide) (ho (.fieldLink RX11 13 "NearEnough" "bytes" "I") (List.mem_of_getElem? (i := 0) rfl)) (fun _ h9 => h9) rfl dX11_append_32 ?_
  refine lv_iconst (v := 1) hx hb dX11_append_35 (by decide) ?_
  refine lv_iadd hx hb dX11_append_36 ?_
  refine zi (v := 20) (by decide) ?_
  refine va_put (D := (dC, dI)) (ci := 11) (v := .int 20) (ty := tyX11 1) (C := RX11) (T := TX11) (N := 17) hx hb hts hin11 tyX11 tyX11_ok nmX11 hown hK hP hD hS 0 rfl rfl 1 (by decide) (ho (.fieldLink RX11 13 "NearEnough" "bytes" "I") (List.mem_of_getElem? (i := 0) rfl)) (fun _ h9 => h9) rfl (by decide +kernel) rfl rfl (Nat.le_of_ble_eq_true rfl) dX11_append_37 (fun H locs hP hD hS => ?_)
  have hP : va_P (dC, dI) vwCl [(h0, .inr (11, [.ref tp, .int 20, .int 0, .int (-1), .ref td, .ref sh, .ref ch, .ref sw, .ref wk, .ref g1, .ref g2, .ref g3, .int 0, .int 0, .ref tl, .null, .null])), (tp, .inl (kt, 1000, .inl f16))] H := hP
  have hD : va_D A [(h0, .inr (11, [.ref tp, .int 20, .int 0, .int (-1), .ref td, .ref sh, .ref ch, .ref sw, .ref wk, .ref g1, .ref g2, .ref g3, .int 0, .int 0, .ref tl, .null, .null])), (tp, .inl (kt, 1000, .inl f16))] := hD
  refine lv_iinc (v := (-8)) (lv' := [(2, .int (-8)), (0, .ref h0), (1, .int x)]) hx hb dX11_append_40 hl (k := 0) rfl (by decide) (by decide) rfl (fun ls hl => ?_)
  refine lv_goto (tgt := 3) hx hb dX11_append_43 (by decide) ?_
  refine lv_iload_n hx hb dX11_append_3 rfl (lv_at hl 0 rfl) ?_
  refine lv_if_lt (tgt := 46) hx hb dX11_append_4 (by decide) (fun _ => ?_) (fun cc => absurd (by decide) cc)
  refine W.widen (k := 0) (n := 0) (Nat.le_of_ble_eq_true rfl) (Nat.le_of_ble_eq_true rfl) ?_
  exact W.vret hx hb hr (fun t ht hW => ⟨⟨f16, rfl, trivial, wEn_of (hP.sub [0, 1] rfl) (hK.sub [] rfl) (hD.sub [0, 1] (by decide) rfl) ht hW⟩, hS.F ht⟩) hS.2.2 dX11_append_46
def ow_c_feed : List Cond := [.fieldLink RX11 13 "NearEnough" "bytes" "I"]
def vs_c_feed : List Cond := .code yX11_feed cX11_feed 6 (some .int) :: (ow_c_feed ++ (([.methodLink RX11 90 yX11_append, .instanceMethod yX11_append, .selects RX11 yX11_append yX11_append, .initialized RX11] : List Cond) ++ (vs_c_append0 ++ (vs_c_append4 ++ (vs_c_append8 ++ (vs_c_append12 ++ (vs_c_append16 ++ (wsX110))))))))
theorem vg_c_feed : vs_c_feed.all goodWord = true := by decide +kernel
theorem gd_c_feed_90_c_append0 : GoodIn vs_c_feed (wsV RX11 90 RX11 yX11_append vs_c_append0) := goodIn_app (goodIn_sub (fun w h => (List.mem_cons_of_mem _ (List.mem_append_right _ (List.mem_append_left _ h)))) (by decide +kernel)) (goodIn_sub (fun w h => (List.mem_cons_of_mem _ (List.mem_append_right _ (List.mem_append_right _ (List.mem_append_left _ h))))) vg_c_append0)
theorem gd_c_feed_90_c_append4 : GoodIn vs_c_feed (wsV RX11 90 RX11 yX11_append vs_c_append4) := goodIn_app (goodIn_sub (fun w h => (List.mem_cons_of_mem _ (List.mem_append_right _ (List.mem_append_left _ h)))) (by decide +kernel)) (goodIn_sub (fun w h => (List.mem_cons_of_mem _ (List.mem_append_right _ (List.mem_append_right _ (List.mem_append_right _ (List.mem_append_left _ h)))))) vg_c_append4)
theorem gd_c_feed_90_c_append8 : GoodIn vs_c_feed (wsV RX11 90 RX11 yX11_append vs_c_append8) := goodIn_app (goodIn_sub (fun w h => (List.mem_cons_of_mem _ (List.mem_append_right _ (List.mem_append_left _ h)))) (by decide +kernel)) (goodIn_sub (fun w h => (List.mem_cons_of_mem _ (List.mem_append_right _ (List.mem_append_right _ (List.mem_append_right _ (List.mem_append_right _ (List.mem_append_left _ h))))))) vg_c_append8)
theorem gd_c_feed_90_c_append12 : GoodIn vs_c_feed (wsV RX11 90 RX11 yX11_append vs_c_append12) := goodIn_app (goodIn_sub (fun w h => (List.mem_cons_of_mem _ (List.mem_append_right _ (List.mem_append_left _ h)))) (by decide +kernel)) (goodIn_sub (fun w h => (List.mem_cons_of_mem _ (List.mem_append_right _ (List.mem_append_right _ (List.mem_append_right _ (List.mem_append_right _ (List.mem_append_right _ (List.mem_append_left _ h)))))))) vg_c_append12)
theorem gd_c_feed_90_c_append16 : GoodIn vs_c_feed (wsV RX11 90 RX11 yX11_append vs_c_append16) := goodIn_app (goodIn_sub (fun w h => (List.mem_cons_of_mem _ (List.mem_append_right _ (List.mem_append_left _ h)))) (by decide +kernel)) (goodIn_sub (fun w h => (List.mem_cons_of_mem _ (List.mem_append_right _ (List.mem_append_right _ (List.mem_append_right _ (List.mem_append_right _ (List.mem_append_right _ (List.mem_append_right _ (List.mem_append_left _ h))))))))) vg_c_append16)
set_option maxHeartbeats 4000000 in
set_option maxRecDepth 100000 in
theorem c_feed (l : Launch) (dC : Nat → ClassId) (dI : Nat → Nat → Nat) (h0 : Nat) (tp : Nat) (td : Nat) (sh : Nat) (ch : Nat) (sw : Nat) (wk : Nat) (g1 : Nat) (g2 : Nat) (g3 : Nat) (tl : Nat) (kt : ClassId) (p0 : Int32) (p1 : Int32) (p2 : Int32) (p3 : Int32) (p4 : Int32) (sz : Nat) : Met l yX11_feed vs_c_feed ({ frames := 1, cells := 0, slots := 0, locals := 22 }) (va_Pc [.ref h0, .int p0, .int p1, .int p2, .int p3, .int p4] (wSt dC dI [(h0, .inr (11, [.ref tp, .int 0, .int 0, .int (-1), .ref td, .ref sh, .ref ch, .ref sw, .ref wk, .ref g1, .ref g2, .ref g3, .int 0, .int 0, .ref tl, .null, .null])), (tp, .inl (kt, 1000, .inl (fun _ => 0)))] [(kt, .byte)] sz)) (va_Qi (fun (r : Int32) (_ : Unit) => r = 20) (fun (u : Unit) => wEn dC dI (va_A [(h0, .inr (11, [.ref tp, .int 0, .int 0, .int (-1), .ref td, .ref sh, .ref ch, .ref sw, .ref wk, .ref g1, .ref g2, .ref g3, .int 0, .int 0, .ref tl, .null, .null])), (tp, .inl (kt, 1000, .inl (fun _ => 0)))] sz) [] []) (va_A [(h0, .inr (11, [.ref tp, .int 0, .int 0, .int (-1), .ref td, .ref sh, .ref ch, .ref sw, .ref wk, .ref g1, .ref g2, .ref g3, .int 0, .int 0, .ref tl, .null, .null])), (tp, .inl (kt, 1000, .inl (fun _ => 0)))] sz)) 0 0 (va_A [(h0, .inr (11, [.ref tp, .int 0, .int 0, .int (-1), .ref td, .ref sh, .ref ch, .ref sw, .ref wk, .ref g1, .ref g2, .ref g3, .int 0, .int 0, .ref tl, .null, .null])), (tp, .inl (kt, 1000, .inl (fun _ => 0)))] sz) := by
  refine Met.ofW (cc := cX11_feed) (maxL := 6) (ret := (some .int)) (by decide) rfl ?_
  intro p e s m args below meth c s₁ B hml hv
  obtain ⟨rfl, hsz, hP, hK, hD0, hE⟩ := hv
  have hx := B.exec
  have hb := B.bytes
  have hr := B.returns
  have hts := atoms_spec (ws := vs_c_feed) B.pre
  have hown : s.vm.findClass RX11 = some m.cls := findClass_of_methodNamed B.named
  have hlocks := B.notSynchronized
  subst hsz
  have hD := hD0.self (sz := s.heap.size)
  generalize hAe : va_A [(h0, .inr (11, [.ref tp, .int 0, .int 0, .int (-1), .ref td, .ref sh, .ref ch, .ref sw, .ref wk, .ref g1, .ref g2, .ref g3, .int 0, .int 0, .ref tl, .null, .null])), (tp, .inl (kt, 1000, .inl (fun _ => 0)))] s.heap.size = A at hD ⊢
  have hA : ∀ q : Nat, s.heap.size ≤ q → A q := fun q h => by rw [← hAe]; exact Or.inr h
  have hl := lv_entry ([.ref h0, .int p0, .int p1, .int p2, .int p3, .int p4]) (n := 6) (Nat.le_of_ble_eq_true rfl)
  rw [lg_entry_eq]
  generalize (lg_sl ([.ref h0, .int p0, .int p1, .int p2, .int p3, .int p4]) ++ List.replicate (6 - (lg_sl ([.ref h0, .int p0, .int p1, .int p2, .int p3, .int p4])).length) Slot.unset).toArray = ls at hl ⊢
  have hl : lv_has ls 6 [(0, .ref h0), (1, .int p0), (2, .int p1), (3, .int p2), (4, .int p3), (5, .int p4)] := hl
  refine zH (A := A) (ws := [(h0, .inr (11, [.ref tp, .int 0, .int 0, .int (-1), .ref td, .ref sh, .ref ch, .ref sw, .ref wk, .ref g1, .ref g2, .ref g3, .int 0, .int 0, .ref tl, .null, .null])), (tp, .inl (kt, 1000, .inl (fun _ => 0)))]) (fun H hP hS => ?_) hP
  have ho := fun w (h : w ∈ ow_c_feed) => hts w (List.mem_cons_of_mem _ (List.mem_append_left _ h))
  have hin11 : ∀ w ∈ u_ws RX11 TX11 17, w ∈ vs_c_feed := fun w h => (List.mem_cons_of_mem _ (List.mem_append_right _ (List.mem_append_right _ (List.mem_append_right _ (List.mem_append_right _ (List.mem_append_right _ (List.mem_append_right _ (List.mem_append_right _ h))))))))
  refine lv_aload_n hx hb dX11_feed_0 rfl (lv_at hl 0 rfl) ?_
  refine va_get (D := (dC, dI)) (ci := 11) (v := .int 0) (C := RX11) (T := TX11) (N := 17) hx hb hts hin11 hown hK hP 0 rfl rfl 1 (by decide) (ho (.fieldLink RX11 13 "NearEnough" "bytes" "I") (List.mem_of_getElem? (i := 0) rfl)) (fun _ h9 => h9) rfl dX11_feed_1 ?_
  refine lv_bipush (v := 20) hx hb dX11_feed_4 (by decide) ?_
  refine lv_iadd hx hb dX11_feed_6 ?_
  refine zi (v := 20) (by decide) ?_
  refine lv_sipush (v := 1000) hx hb dX11_feed_7 (by decide) ?_
  refine lv_icmp_le (tgt := 15) hx hb dX11_feed_10 (by decide) (fun _ => ?_) (fun cc => absurd (by decide) cc)
  refine lv_aload_n hx hb dX11_feed_15 rfl (lv_at hl 0 rfl) ?_
  refine lv_iload_n hx hb dX11_feed_16 rfl (lv_at hl 1 rfl) ?_
  have hPc := hP.sub (ws' := [(h0, .inr (11, [.ref tp, .int 0, .int 0, .int (-1), .ref td, .ref sh, .ref ch, .ref sw, .ref wk, .ref g1, .ref g2, .ref g3, .int 0, .int 0, .ref tl, .null, .null])), (tp, .inl (kt, 1000, .inl (fun _ => 0)))]) [0, 1] rfl
  have hDc := hD.sub (ws' := [(h0, .inr (11, [.ref tp, .int 0, .int 0, .int (-1), .ref td, .ref sh, .ref ch, .ref sw, .ref wk, .ref g1, .ref g2, .ref g3, .int 0, .int 0, .ref tl, .null, .null])), (tp, .inl (kt, 1000, .inl (fun _ => 0)))]) [0, 1] (by decide) rfl
  have hKc := hK.sub (tys' := [(kt, .byte)]) [0] rfl
  refine zz_v (wr := []) (va_runV (As := [.int p0]) (rest := []) ⟨hx, hb, hml, hown, hts⟩ (c_append0 l dC dI h0 tp td sh ch sw wk g1 g2 g3 tl kt (fun _ => 0) p0 H.size) (cwV 1 hts gd_c_feed_90_c_append0 rfl rfl rfl (by decide +kernel) ⟨Nat.le_of_ble_eq_true rfl, Nat.le_of_ble_eq_true rfl⟩) (preV hPc hKc hDc hE (ci := 11) (q0 := 0) rfl rfl) rfl rfl hl.1 rfl (lv_room (Nat.le_of_ble_eq_true rfl)) dX11_feed_17 ⟨Nat.le_of_ble_eq_true rfl, Nat.le_of_ble_eq_true rfl⟩) hK hP hD hS hA [0, 1] [] rfl rfl (by decide) (by decide) (fun f1 H locs hK hP hD hS => ?_)
  have hP : va_P (dC, dI) vwCl [(h0, .inr (11, [.ref tp, .int 4, .int 0, .int (-1), .ref td, .ref sh, .ref ch, .ref sw, .ref wk, .ref g1, .ref g2, .ref g3, .int 0, .int 0, .ref tl, .null, .null])), (tp, .inl (kt, 1000, .inl f1))] H := hP
  have hD : va_D A [(h0, .inr (11, [.ref tp, .int 4, .int 0, .int (-1), .ref td, .ref sh, .ref ch, .ref sw, .ref wk, .ref g1, .ref g2, .ref g3, .int 0, .int 0, .ref tl, .null, .null])), (tp, .inl (kt, 1000, .inl f1))] := hD
  have hK : va_K (dC, dI) vwCl [(kt, .byte)] s := hK
  refine W.widen (k := 0) (n := 0) (Nat.le_of_ble_eq_true rfl) (Nat.le_of_ble_eq_true rfl) ?_
  refine lv_aload_n hx hb dX11_feed_20 rfl (lv_at hl 0 rfl) ?_
  refine lv_iload_n hx hb dX11_feed_21 rfl (lv_at hl 2 rfl) ?_
  have hPc := hP.sub (ws' := [(h0, .inr (11, [.ref tp, .int 4, .int 0, .int (-1), .ref td, .ref sh, .ref ch, .ref sw, .ref wk, .ref g1, .ref g2, .ref g3, .int 0, .int 0, .ref tl, .null, .null])), (tp, .inl (kt, 1000, .inl f1))]) [0, 1] rfl
  have hDc := hD.sub (ws' := [(h0, .inr (11, [.ref tp, .int 4, .int 0, .int (-1), .ref td, .ref sh, .ref ch, .ref sw, .ref wk, .ref g1, .ref g2, .ref g3, .int 0, .int 0, .ref tl, .null, .null])), (tp, .inl (kt, 1000, .inl f1))]) [0, 1] (by decide) rfl
  have hKc := hK.sub (tys' := [(kt, .byte)]) [0] rfl
  refine zz_v (wr := []) (va_runV (As := [.int p1]) (rest := []) ⟨hx, hb, hml, hown, hts⟩ (c_append4 l dC dI h0 tp td sh ch sw wk g1 g2 g3 tl kt f1 p1 H.size) (cwV 1 hts gd_c_feed_90_c_append4 rfl rfl rfl (by decide +kernel) ⟨Nat.le_of_ble_eq_true rfl, Nat.le_of_ble_eq_true rfl⟩) (preV hPc hKc hDc hE (ci := 11) (q0 := 0) rfl rfl) rfl rfl hl.1 rfl (lv_room (Nat.le_of_ble_eq_true rfl)) dX11_feed_22 ⟨Nat.le_of_ble_eq_true rfl, Nat.le_of_ble_eq_true rfl⟩) hK hP hD hS hA [0, 1] [] rfl rfl (by decide) (by decide) (fun f2 H locs hK hP hD hS => ?_)
  have hP : va_P (dC, dI) vwCl [(h0, .inr (11, [.ref tp, .int 8, .int 0, .int (-1), .ref td, .ref sh, .ref ch, .ref sw, .ref wk, .ref g1, .ref g2, .ref g3, .int 0, .int 0, .ref tl, .null, .null])), (tp, .inl (kt, 1000, .inl f2))] H := hP
  have hD : va_D A [(h0, .inr (11, [.ref tp, .int 8, .int 0, .int (-1), .ref td, .ref sh, .ref ch, .ref sw, .ref wk, .ref g1, .ref g2, .ref g3, .int 0, .int 0, .ref tl, .null, .null])), (tp, .inl (kt, 1000, .inl f2))] := hD
  have hK : va_K (dC, dI) vwCl [(kt, .byte)] s := hK
  refine W.widen (k := 0) (n := 0) (Nat.le_of_ble_eq_true rfl) (Nat.le_of_ble_eq_true rfl) ?_
  refine lv_aload_n hx hb dX11_feed_25 rfl (lv_at hl 0 rfl) ?_
  refine lv_iload_n hx hb dX11_feed_26 rfl (lv_at hl 3 rfl) ?_
  have hPc := hP.sub (ws' := [(h0, .inr (11, [.ref tp, .int 8, .int 0, .int (-1), .ref td, .ref sh, .ref ch, .ref sw, .ref wk, .ref g1, .ref g2, .ref g3, .int 0, .int 0, .ref tl, .null, .null])), (tp, .inl (kt, 1000, .inl f2))]) [0, 1] rfl
  have hDc := hD.sub (ws' := [(h0, .inr (11, [.ref tp, .int 8, .int 0, .int (-1), .ref td, .ref sh, .ref ch, .ref sw, .ref wk, .ref g1, .ref g2, .ref g3, .int 0, .int 0, .ref tl, .null, .null])), (tp, .inl (kt, 1000, .inl f2))]) [0, 1] (by decide) rfl
  have hKc := hK.sub (tys' := [(kt, .byte)]) [0] rfl
  refine zz_v (wr := []) (va_runV (As := [.int p2]) (rest := []) ⟨hx, hb, hml, hown, hts⟩ (c_append8 l dC dI h0 tp td sh ch sw wk g1 g2 g3 tl kt f2 p2 H.size) (cwV 1 hts gd_c_feed_90_c_append8 rfl rfl rfl (by decide +kernel) ⟨Nat.le_of_ble_eq_true rfl, Nat.le_of_ble_eq_true rfl⟩) (preV hPc hKc hDc hE (ci := 11) (q0 := 0) rfl rfl) rfl rfl hl.1 rfl (lv_room (Nat.le_of_ble_eq_true rfl)) dX11_feed_27 ⟨Nat.le_of_ble_eq_true rfl, Nat.le_of_ble_eq_true rfl⟩) hK hP hD hS hA [0, 1] [] rfl rfl (by decide) (by decide) (fun f3 H locs hK hP hD hS => ?_)
  have hP : va_P (dC, dI) vwCl [(h0, .inr (11, [.ref tp, .int 12, .int 0, .int (-1), .ref td, .ref sh, .ref ch, .ref sw, .ref wk, .ref g1, .ref g2, .ref g3, .int 0, .int 0, .ref tl, .null, .null])), (tp, .inl (kt, 1000, .inl f3))] H := hP
  have hD : va_D A [(h0, .inr (11, [.ref tp, .int 12, .int 0, .int (-1), .ref td, .ref sh, .ref ch, .ref sw, .ref wk, .ref g1, .ref g2, .ref g3, .int 0, .int 0, .ref tl, .null, .null])), (tp, .inl (kt, 1000, .inl f3))] := hD
  have hK : va_K (dC, dI) vwCl [(kt, .byte)] s := hK
  refine W.widen (k := 0) (n := 0) (Nat.le_of_ble_eq_true rfl) (Nat.le_of_ble_eq_true rfl) ?_
  refine lv_aload_n hx hb dX11_feed_30 rfl (lv_at hl 0 rfl) ?_
  refine lv_iload hx hb dX11_feed_31 (lv_at hl 4 rfl) ?_
  have hPc := hP.sub (ws' := [(h0, .inr (11, [.ref tp, .int 12, .int 0, .int (-1), .ref td, .ref sh, .ref ch, .ref sw, .ref wk, .ref g1, .ref g2, .ref g3, .int 0, .int 0, .ref tl, .null, .null])), (tp, .inl (kt, 1000, .inl f3))]) [0, 1] rfl
  have hDc := hD.sub (ws' := [(h0, .inr (11, [.ref tp, .int 12, .int 0, .int (-1), .ref td, .ref sh, .ref ch, .ref sw, .ref wk, .ref g1, .ref g2, .ref g3, .int 0, .int 0, .ref tl, .null, .null])), (tp, .inl (kt, 1000, .inl f3))]) [0, 1] (by decide) rfl
  have hKc := hK.sub (tys' := [(kt, .byte)]) [0] rfl
  refine zz_v (wr := []) (va_runV (As := [.int p3]) (rest := []) ⟨hx, hb, hml, hown, hts⟩ (c_append12 l dC dI h0 tp td sh ch sw wk g1 g2 g3 tl kt f3 p3 H.size) (cwV 1 hts gd_c_feed_90_c_append12 rfl rfl rfl (by decide +kernel) ⟨Nat.le_of_ble_eq_true rfl, Nat.le_of_ble_eq_true rfl⟩) (preV hPc hKc hDc hE (ci := 11) (q0 := 0) rfl rfl) rfl rfl hl.1 rfl (lv_room (Nat.le_of_ble_eq_true rfl)) dX11_feed_33 ⟨Nat.le_of_ble_eq_true rfl, Nat.le_of_ble_eq_true rfl⟩) hK hP hD hS hA [0, 1] [] rfl rfl (by decide) (by decide) (fun f4 H locs hK hP hD hS => ?_)
  have hP : va_P (dC, dI) vwCl [(h0, .inr (11, [.ref tp, .int 16, .int 0, .int (-1), .ref td, .ref sh, .ref ch, .ref sw, .ref wk, .ref g1, .ref g2, .ref g3, .int 0, .int 0, .ref tl, .null, .null])), (tp, .inl (kt, 1000, .inl f4))] H := hP
  have hD : va_D A [(h0, .inr (11, [.ref tp, .int 16, .int 0, .int (-1), .ref td, .ref sh, .ref ch, .ref sw, .ref wk, .ref g1, .ref g2, .ref g3, .int 0, .int 0, .ref tl, .null, .null])), (tp, .inl (kt, 1000, .inl f4))] := hD
  have hK : va_K (dC, dI) vwCl [(kt, .byte)] s := hK
  refine W.widen (k := 0) (n := 0) (Nat.le_of_ble_eq_true rfl) (Nat.le_of_ble_eq_true rfl) ?_
  refine lv_aload_n hx hb dX11_feed_36 rfl (lv_at hl 0 rfl) ?_
  refine lv_iload hx hb dX11_feed_37 (lv_at hl 5 rfl) ?_
  have hPc := hP.sub (ws' := [(h0, .inr (11, [.ref tp, .int 16, .int 0, .int (-1), .ref td, .ref sh, .ref ch, .ref sw, .ref wk, .ref g1, .ref g2, .ref g3, .int 0, .int 0, .ref tl, .null, .null])), (tp, .inl (kt, 1000, .inl f4))]) [0, 1] rfl
  have hDc := hD.sub (ws' := [(h0, .inr (11, [.ref tp, .int 16, .int 0, .int (-1), .ref td, .ref sh, .ref ch, .ref sw, .ref wk, .ref g1, .ref g2, .ref g3, .int 0, .int 0, .ref tl, .null, .null])), (tp, .inl (kt, 1000, .inl f4))]) [0, 1] (by decide) rfl
  have hKc := hK.sub (tys' := [(kt, .byte)]) [0] rfl
  refine zz_v (wr := []) (va_runV (As := [.int p4]) (rest := []) ⟨hx, hb, hml, hown, hts⟩ (c_append16 l dC dI h0 tp td sh ch sw wk g1 g2 g3 tl kt f4 p4 H.size) (cwV 1 hts gd_c_feed_90_c_append16 rfl rfl rfl (by decide +kernel) ⟨Nat.le_of_ble_eq_true rfl, Nat.le_of_ble_eq_true rfl⟩) (preV hPc hKc hDc hE (ci := 11) (q0 := 0) rfl rfl) rfl rfl hl.1 rfl (lv_room (Nat.le_of_ble_eq_true rfl)) dX11_feed_39 ⟨Nat.le_of_ble_eq_true rfl, Nat.le_of_ble_eq_true rfl⟩) hK hP hD hS hA [0, 1] [] rfl rfl (by decide) (by decide) (fun f5 H locs hK hP hD hS => ?_)
  have hP : va_P (dC, dI) vwCl [(h0, .inr (11, [.ref tp, .int 20, .int 0, .int (-1), .ref td, .ref sh, .ref ch, .ref sw, .ref wk, .ref g1, .ref g2, .ref g3, .int 0, .int 0, .ref tl, .null, .null])), (tp, .inl (kt, 1000, .inl f5))] H := hP
  have hD : va_D A [(h0, .inr (11, [.ref tp, .int 20, .int 0, .int (-1), .ref td, .ref sh, .ref ch, .ref sw, .ref wk, .ref g1, .ref g2, .ref g3, .int 0, .int 0, .ref tl, .null, .null])), (tp, .inl (kt, 1000, .inl f5))] := hD
  have hK : va_K (dC, dI) vwCl [(kt, .byte)] s := hK
  refine W.widen (k := 0) (n := 0) (Nat.le_of_ble_eq_true rfl) (Nat.le_of_ble_eq_true rfl) ?_
  refine lv_aload_n hx hb dX11_feed_42 rfl (lv_at hl 0 rfl) ?_
  refine va_get (D := (dC, dI)) (ci := 11) (v := .int 20) (C := RX11) (T := TX11) (N := 17) hx hb hts hin11 hown hK hP 0 rfl rfl 1 (by decide) (ho (.fieldLink RX11 13 "NearEnough" "bytes" "I") (List.mem_of_getElem? (i := 0) rfl)) (fun _ h9 => h9) rfl dX11_feed_43 ?_
  refine W.widen (k := 0) (n := 0) (Nat.le_of_ble_eq_true rfl) (Nat.le_of_ble_eq_true rfl) ?_
  exact W.iret (v := 20) hx hb hr (fun t ht hW => ⟨⟨20, (), rfl, rfl, wEn_of (hP.sub [] rfl) (hK.sub [] rfl) (hD.sub [] (by decide) rfl) ht hW⟩, hS.F ht⟩) hS.2.2 dX11_feed_46
def ow_c_end : List Cond := [.fieldLink RX11 13 "NearEnough" "bytes" "I"]
def vs_c_end : List Cond := .code yX11_end cX11_end 2 (some .int) :: (ow_c_end ++ (wsX110))
theorem vg_c_end : vs_c_end.all goodWord = true := by decide +kernel
set_option maxHeartbeats 4000000 in
set_option maxRecDepth 100000 in
theorem c_end (l : Launch) (dC : Nat → ClassId) (dI : Nat → Nat → Nat) (h0 : Nat) (tp : Nat) (td : Nat) (sh : Nat) (ch : Nat) (sw : Nat) (wk : Nat) (g1 : Nat) (g2 : Nat) (g3 : Nat) (tl : Nat) (p0 : Int32) (sz : Nat) : Met l yX11_end vs_c_end ({ frames := 0, cells := 0, slots := 0, locals := 0 }) (va_Pc [.ref h0, .int p0] (wSt dC dI [(h0, .inr (11, [.ref tp, .int 0, .int 0, .int (-1), .ref td, .ref sh, .ref ch, .ref sw, .ref wk, .ref g1, .ref g2, .ref g3, .int 0, .int 0, .ref tl, .null, .null]))] [] sz)) (va_Qi (fun (r : Int32) (_ : Unit) => r = if p0 < 0 then -1 else if p0 ≤ 0 then p0 else -1) (fun (u : Unit) => wEn dC dI (va_A [(h0, .inr (11, [.ref tp, .int 0, .int 0, .int (-1), .ref td, .ref sh, .ref ch, .ref sw, .ref wk, .ref g1, .ref g2, .ref g3, .int 0, .int 0, .ref tl, .null, .null]))] sz) [] []) (va_A [(h0, .inr (11, [.ref tp, .int 0, .int 0, .int (-1), .ref td, .ref sh, .ref ch, .ref sw, .ref wk, .ref g1, .ref g2, .ref g3, .int 0, .int 0, .ref tl, .null, .null]))] sz)) 0 0 (va_A [(h0, .inr (11, [.ref tp, .int 0, .int 0, .int (-1), .ref td, .ref sh, .ref ch, .ref sw, .ref wk, .ref g1, .ref g2, .ref g3, .int 0, .int 0, .ref tl, .null, .null]))] sz) := by
  refine Met.ofW (cc := cX11_end) (maxL := 2) (ret := (some .int)) (by decide) rfl ?_
  intro p e s m args below meth c s₁ B hml hv
  obtain ⟨rfl, hsz, hP, hK, hD0, hE⟩ := hv
  have hx := B.exec
  have hb := B.bytes
  have hr := B.returns
  have hts := atoms_spec (ws := vs_c_end) B.pre
  have hown : s.vm.findClass RX11 = some m.cls := findClass_of_methodNamed B.named
  have hlocks := B.notSynchronized
  subst hsz
  have hD := hD0.self (sz := s.heap.size)
  generalize hAe : va_A [(h0, .inr (11, [.ref tp, .int 0, .int 0, .int (-1), .ref td, .ref sh, .ref ch, .ref sw, .ref wk, .ref g1, .ref g2, .ref g3, .int 0, .int 0, .ref tl, .null, .null]))] s.heap.size = A at hD ⊢
  have hA : ∀ q : Nat, s.heap.size ≤ q → A q := fun q h => by rw [← hAe]; exact Or.inr h
  have hl := lv_entry ([.ref h0, .int p0]) (n := 2) (Nat.le_of_ble_eq_true rfl)
  rw [lg_entry_eq]
  generalize (lg_sl ([.ref h0, .int p0]) ++ List.replicate (2 - (lg_sl ([.ref h0, .int p0])).length) Slot.unset).toArray = ls at hl ⊢
  have hl : lv_has ls 2 [(0, .ref h0), (1, .int p0)] := hl
  refine zH (A := A) (ws := [(h0, .inr (11, [.ref tp, .int 0, .int 0, .int (-1), .ref td, .ref sh, .ref ch, .ref sw, .ref wk, .ref g1, .ref g2, .ref g3, .int 0, .int 0, .ref tl, .null, .null]))]) (fun H hP hS => ?_) hP
  have ho := fun w (h : w ∈ ow_c_end) => hts w (List.mem_cons_of_mem _ (List.mem_append_left _ h))
  have hin11 : ∀ w ∈ u_ws RX11 TX11 17, w ∈ vs_c_end := fun w h => (List.mem_cons_of_mem _ (List.mem_append_right _ h))
  refine lv_iload_n hx hb dX11_end_0 rfl (lv_at hl 1 rfl) ?_
  refine lv_if_lt (tgt := 12) hx hb dX11_end_1 (by decide) (fun c_1 => ?_) (fun c_1 => ?_)
  · refine lv_iconst (v := (-1)) hx hb dX11_end_12 (by decide) ?_
    refine W.widen (k := 0) (n := 0) (Nat.le_of_ble_eq_true rfl) (Nat.le_of_ble_eq_true rfl) ?_
    exact W.iret (v := (-1)) hx hb hr (fun t ht hW => ⟨⟨(-1), (), rfl, (by first | exact (if_pos c_1).symm | (rw [if_neg c_1]; exact (if_pos c_9).symm) | (rw [if_neg c_1]; exact (if_neg c_9).symm)), wEn_of (hP.sub [] rfl) (hK.sub [] rfl) (hD.sub [] (by decide) rfl) ht hW⟩, hS.F ht⟩) hS.2.2 dX11_end_13
  · refine lv_iload_n hx hb dX11_end_4 rfl (lv_at hl 1 rfl) ?_
    refine lv_aload_n hx hb dX11_end_5 rfl (lv_at hl 0 rfl) ?_
    refine va_get (D := (dC, dI)) (ci := 11) (v := .int 0) (C := RX11) (T := TX11) (N := 17) hx hb hts hin11 hown hK hP 0 rfl rfl 1 (by decide) (ho (.fieldLink RX11 13 "NearEnough" "bytes" "I") (List.mem_of_getElem? (i := 0) rfl)) (fun _ h9 => h9) rfl dX11_end_6 ?_
    refine lv_icmp_le (tgt := 14) hx hb dX11_end_9 (by decide) (fun c_9 => ?_) (fun c_9 => ?_)
    · refine lv_aload_n hx hb dX11_end_14 rfl (lv_at hl 0 rfl) ?_
      refine lv_iload_n hx hb dX11_end_15 rfl (lv_at hl 1 rfl) ?_
      refine va_put (D := (dC, dI)) (ci := 11) (v := .int p0) (ty := tyX11 1) (C := RX11) (T := TX11) (N := 17) hx hb hts hin11 tyX11 tyX11_ok nmX11 hown hK hP hD hS 0 rfl rfl 1 (by decide) (ho (.fieldLink RX11 13 "NearEnough" "bytes" "I") (List.mem_of_getElem? (i := 0) rfl)) (fun _ h9 => h9) rfl (by decide +kernel) rfl rfl (Nat.le_of_ble_eq_true rfl) dX11_end_16 (fun H locs hP hD hS => ?_)
      have hP : va_P (dC, dI) vwCl [(h0, .inr (11, [.ref tp, .int p0, .int 0, .int (-1), .ref td, .ref sh, .ref ch, .ref sw, .ref wk, .ref g1, .ref g2, .ref g3, .int 0, .int 0, .ref tl, .null, .null]))] H := hP
      have hD : va_D A [(h0, .inr (11, [.ref tp, .int p0, .int 0, .int (-1), .ref td, .ref sh, .ref ch, .ref sw, .ref wk, .ref g1, .ref g2, .ref g3, .int 0, .int 0, .ref tl, .null, .null]))] := hD
      refine lv_iload_n hx hb dX11_end_19 rfl (lv_at hl 1 rfl) ?_
      refine W.widen (k := 0) (n := 0) (Nat.le_of_ble_eq_true rfl) (Nat.le_of_ble_eq_true rfl) ?_
      exact W.iret (v := p0) hx hb hr (fun t ht hW => ⟨⟨p0, (), rfl, (by first | exact (if_pos c_1).symm | (rw [if_neg c_1]; exact (if_pos c_9).symm) | (rw [if_neg c_1]; exact (if_neg c_9).symm)), wEn_of (hP.sub [] rfl) (hK.sub [] rfl) (hD.sub [] (by decide) rfl) ht hW⟩, hS.F ht⟩) hS.2.2 dX11_end_20
    · refine lv_iconst (v := (-1)) hx hb dX11_end_12 (by decide) ?_
      refine W.widen (k := 0) (n := 0) (Nat.le_of_ble_eq_true rfl) (Nat.le_of_ble_eq_true rfl) ?_
      exact W.iret (v := (-1)) hx hb hr (fun t ht hW => ⟨⟨(-1), (), rfl, (by first | exact (if_pos c_1).symm | (rw [if_neg c_1]; exact (if_pos c_9).symm) | (rw [if_neg c_1]; exact (if_neg c_9).symm)), wEn_of (hP.sub [] rfl) (hK.sub [] rfl) (hD.sub [] (by decide) rfl) ht hW⟩, hS.F ht⟩) hS.2.2 dX11_end_13
def ow_c_fault : List Cond := [.fieldLink RX11 20 "NearEnough" "faultPlace" "I", .fieldLink RX11 17 "NearEnough" "faultNumber" "I"]
def vs_c_fault : List Cond := .code yX11_fault cX11_fault 2 (some .int) :: (ow_c_fault ++ (wsX110))
theorem vg_c_fault : vs_c_fault.all goodWord = true := by decide +kernel
set_option maxHeartbeats 4000000 in
set_option maxRecDepth 100000 in
theorem c_fault (l : Launch) (dC : Nat → ClassId) (dI : Nat → Nat → Nat) (h0 : Nat) (tp : Nat) (td : Nat) (sh : Nat) (ch : Nat) (sw : Nat) (wk : Nat) (g1 : Nat) (g2 : Nat) (g3 : Nat) (tl : Nat) (p0 : Int32) (sz : Nat) : Met l yX11_fault vs_c_fault ({ frames := 0, cells := 0, slots := 0, locals := 0 }) (va_Pc [.ref h0, .int p0] (wSt dC dI [(h0, .inr (11, [.ref tp, .int 0, .int 0, .int (-1), .ref td, .ref sh, .ref ch, .ref sw, .ref wk, .ref g1, .ref g2, .ref g3, .int 0, .int 0, .ref tl, .null, .null]))] [] sz)) (va_Qi (fun (r : Int32) (_ : Unit) => r = if p0 = 0 then 0 else -1) (fun (u : Unit) => wEn dC dI (va_A [(h0, .inr (11, [.ref tp, .int 0, .int 0, .int (-1), .ref td, .ref sh, .ref ch, .ref sw, .ref wk, .ref g1, .ref g2, .ref g3, .int 0, .int 0, .ref tl, .null, .null]))] sz) [] []) (va_A [(h0, .inr (11, [.ref tp, .int 0, .int 0, .int (-1), .ref td, .ref sh, .ref ch, .ref sw, .ref wk, .ref g1, .ref g2, .ref g3, .int 0, .int 0, .ref tl, .null, .null]))] sz)) 0 0 (va_A [(h0, .inr (11, [.ref tp, .int 0, .int 0, .int (-1), .ref td, .ref sh, .ref ch, .ref sw, .ref wk, .ref g1, .ref g2, .ref g3, .int 0, .int 0, .ref tl, .null, .null]))] sz) := by
  refine Met.ofW (cc := cX11_fault) (maxL := 2) (ret := (some .int)) (by decide) rfl ?_
  intro p e s m args below meth c s₁ B hml hv
  obtain ⟨rfl, hsz, hP, hK, hD0, hE⟩ := hv
  have hx := B.exec
  have hb := B.bytes
  have hr := B.returns
  have hts := atoms_spec (ws := vs_c_fault) B.pre
  have hown : s.vm.findClass RX11 = some m.cls := findClass_of_methodNamed B.named
  have hlocks := B.notSynchronized
  subst hsz
  have hD := hD0.self (sz := s.heap.size)
  generalize hAe : va_A [(h0, .inr (11, [.ref tp, .int 0, .int 0, .int (-1), .ref td, .ref sh, .ref ch, .ref sw, .ref wk, .ref g1, .ref g2, .ref g3, .int 0, .int 0, .ref tl, .null, .null]))] s.heap.size = A at hD ⊢
  have hA : ∀ q : Nat, s.heap.size ≤ q → A q := fun q h => by rw [← hAe]; exact Or.inr h
  have hl := lv_entry ([.ref h0, .int p0]) (n := 2) (Nat.le_of_ble_eq_true rfl)
  rw [lg_entry_eq]
  generalize (lg_sl ([.ref h0, .int p0]) ++ List.replicate (2 - (lg_sl ([.ref h0, .int p0])).length) Slot.unset).toArray = ls at hl ⊢
  have hl : lv_has ls 2 [(0, .ref h0), (1, .int p0)] := hl
  refine zH (A := A) (ws := [(h0, .inr (11, [.ref tp, .int 0, .int 0, .int (-1), .ref td, .ref sh, .ref ch, .ref sw, .ref wk, .ref g1, .ref g2, .ref g3, .int 0, .int 0, .ref tl, .null, .null]))]) (fun H hP hS => ?_) hP
  have ho := fun w (h : w ∈ ow_c_fault) => hts w (List.mem_cons_of_mem _ (List.mem_append_left _ h))
  have hin11 : ∀ w ∈ u_ws RX11 TX11 17, w ∈ vs_c_fault := fun w h => (List.mem_cons_of_mem _ (List.mem_append_right _ h))
  refine lv_iload_n hx hb dX11_fault_0 rfl (lv_at hl 1 rfl) ?_
  refine lv_if_ne (tgt := 9) hx hb dX11_fault_1 (by decide) (fun c_1 => ?_) (fun c_1 => ?_)
  · refine lv_iload_n hx hb dX11_fault_9 rfl (lv_at hl 1 rfl) ?_
    refine lv_iconst (v := 1) hx hb dX11_fault_10 (by decide) ?_
    refine lv_icmp_ne (tgt := 21) hx hb dX11_fault_11 (by decide) (fun c_11 => ?_) (fun c_11 => ?_)
    · refine lv_iconst (v := (-1)) hx hb dX11_fault_21 (by decide) ?_
      refine W.widen (k := 0) (n := 0) (Nat.le_of_ble_eq_true rfl) (Nat.le_of_ble_eq_true rfl) ?_
      exact W.iret (v := (-1)) hx hb hr (fun t ht hW => ⟨⟨(-1), (), rfl, (by first | exact (if_pos c_1).symm | exact (if_neg c_1).symm | exact (if_pos (Classical.byContradiction c_1)).symm), wEn_of (hP.sub [] rfl) (hK.sub [] rfl) (hD.sub [] (by decide) rfl) ht hW⟩, hS.F ht⟩) hS.2.2 dX11_fault_22
    · refine lv_aload_n hx hb dX11_fault_14 rfl (lv_at hl 0 rfl) ?_
      refine va_get (D := (dC, dI)) (ci := 11) (v := .int (-1)) (C := RX11) (T := TX11) (N := 17) hx hb hts hin11 hown hK hP 0 rfl rfl 3 (by decide) (ho (.fieldLink RX11 20 "NearEnough" "faultPlace" "I") (List.mem_of_getElem? (i := 0) rfl)) (fun _ h9 => h9) rfl dX11_fault_15 ?_
      refine lv_goto (tgt := 22) hx hb dX11_fault_18 (by decide) ?_
      refine W.widen (k := 0) (n := 0) (Nat.le_of_ble_eq_true rfl) (Nat.le_of_ble_eq_true rfl) ?_
      exact W.iret (v := (-1)) hx hb hr (fun t ht hW => ⟨⟨(-1), (), rfl, (by first | exact (if_pos c_1).symm | exact (if_neg c_1).symm | exact (if_pos (Classical.byContradiction c_1)).symm), wEn_of (hP.sub [] rfl) (hK.sub [] rfl) (hD.sub [] (by decide) rfl) ht hW⟩, hS.F ht⟩) hS.2.2 dX11_fault_22
  · refine lv_aload_n hx hb dX11_fault_4 rfl (lv_at hl 0 rfl) ?_
    refine va_get (D := (dC, dI)) (ci := 11) (v := .int 0) (C := RX11) (T := TX11) (N := 17) hx hb hts hin11 hown hK hP 0 rfl rfl 2 (by decide) (ho (.fieldLink RX11 17 "NearEnough" "faultNumber" "I") (List.mem_of_getElem? (i := 1) rfl)) (fun _ h9 => h9) rfl dX11_fault_5 ?_
    refine W.widen (k := 0) (n := 0) (Nat.le_of_ble_eq_true rfl) (Nat.le_of_ble_eq_true rfl) ?_
    exact W.iret (v := 0) hx hb hr (fun t ht hW => ⟨⟨0, (), rfl, (by first | exact (if_pos c_1).symm | exact (if_neg c_1).symm | exact (if_pos (Classical.byContradiction c_1)).symm), wEn_of (hP.sub [] rfl) (hK.sub [] rfl) (hD.sub [] (by decide) rfl) ht hW⟩, hS.F ht⟩) hS.2.2 dX11_fault_8
def ow_c_span : List Cond := [.fieldLink RX11 26 "NearEnough" "told" "LNearEnough$Program;"]
def vs_c_span : List Cond := .code yX11_span cX11_span 3 (some .int) :: (ow_c_span ++ (([.methodLink RX11 134 yX3_hasStep, .instanceMethod yX3_hasStep, .selects RX3 yX3_hasStep yX3_hasStep, .initialized RX3] : List Cond) ++ (vs_c_hasStep ++ (wsX110))))
theorem vg_c_span : vs_c_span.all goodWord = true := by decide +kernel
theorem gd_c_span_134_c_hasStep : GoodIn vs_c_span (wsV RX11 134 RX3 yX3_hasStep vs_c_hasStep) := goodIn_app (goodIn_sub (fun w h => (List.mem_cons_of_mem _ (List.mem_append_right _ (List.mem_append_left _ h)))) (by decide +kernel)) (goodIn_sub (fun w h => (List.mem_cons_of_mem _ (List.mem_append_right _ (List.mem_append_right _ (List.mem_append_left _ h))))) vg_c_hasStep)
set_option maxHeartbeats 4000000 in
set_option maxRecDepth 100000 in
theorem c_span (l : Launch) (dC : Nat → ClassId) (dI : Nat → Nat → Nat) (h0 : Nat) (tp : Nat) (td : Nat) (sh : Nat) (ch : Nat) (sw : Nat) (wk : Nat) (g1 : Nat) (g2 : Nat) (g3 : Nat) (tl : Nat) (r1 : Nat) (r2 : Nat) (r3 : Nat) (r4 : Nat) (r5 : Nat) (p0 : Int32) (p1 : Int32) (sz : Nat) : Met l yX11_span vs_c_span ({ frames := 1, cells := 0, slots := 0, locals := 21 }) (va_Pc [.ref h0, .int p0, .int p1] (wSt dC dI [(h0, .inr (11, [.ref tp, .int 0, .int 0, .int (-1), .ref td, .ref sh, .ref ch, .ref sw, .ref wk, .ref g1, .ref g2, .ref g3, .int 0, .int 0, .ref tl, .null, .null])), (td, .inr (3, [.ref r1, .ref r2, .ref r3, .ref r4, .ref r5, .int 0, .int 0, .int 0]))] [] sz)) (va_Qi (fun (r : Int32) (_ : Unit) => r = 0) (fun (u : Unit) => wEn dC dI (va_A [(h0, .inr (11, [.ref tp, .int 0, .int 0, .int (-1), .ref td, .ref sh, .ref ch, .ref sw, .ref wk, .ref g1, .ref g2, .ref g3, .int 0, .int 0, .ref tl, .null, .null])), (td, .inr (3, [.ref r1, .ref r2, .ref r3, .ref r4, .ref r5, .int 0, .int 0, .int 0]))] sz) [] []) (va_A [(h0, .inr (11, [.ref tp, .int 0, .int 0, .int (-1), .ref td, .ref sh, .ref ch, .ref sw, .ref wk, .ref g1, .ref g2, .ref g3, .int 0, .int 0, .ref tl, .null, .null])), (td, .inr (3, [.ref r1, .ref r2, .ref r3, .ref r4, .ref r5, .int 0, .int 0, .int 0]))] sz)) 0 0 (va_A [(h0, .inr (11, [.ref tp, .int 0, .int 0, .int (-1), .ref td, .ref sh, .ref ch, .ref sw, .ref wk, .ref g1, .ref g2, .ref g3, .int 0, .int 0, .ref tl, .null, .null])), (td, .inr (3, [.ref r1, .ref r2, .ref r3, .ref r4, .ref r5, .int 0, .int 0, .int 0]))] sz) := by
  refine Met.ofW (cc := cX11_span) (maxL := 3) (ret := (some .int)) (by decide) rfl ?_
  intro p e s m args below meth c s₁ B hml hv
  obtain ⟨rfl, hsz, hP, hK, hD0, hE⟩ := hv
  have hx := B.exec
  have hb := B.bytes
  have hr := B.returns
  have hts := atoms_spec (ws := vs_c_span) B.pre
  have hown : s.vm.findClass RX11 = some m.cls := findClass_of_methodNamed B.named
  have hlocks := B.notSynchronized
  subst hsz
  have hD := hD0.self (sz := s.heap.size)
  generalize hAe : va_A [(h0, .inr (11, [.ref tp, .int 0, .int 0, .int (-1), .ref td, .ref sh, .ref ch, .ref sw, .ref wk, .ref g1, .ref g2, .ref g3, .int 0, .int 0, .ref tl, .null, .null])), (td, .inr (3, [.ref r1, .ref r2, .ref r3, .ref r4, .ref r5, .int 0, .int 0, .int 0]))] s.heap.size = A at hD ⊢
  have hA : ∀ q : Nat, s.heap.size ≤ q → A q := fun q h => by rw [← hAe]; exact Or.inr h
  have hl := lv_entry ([.ref h0, .int p0, .int p1]) (n := 3) (Nat.le_of_ble_eq_true rfl)
  rw [lg_entry_eq]
  generalize (lg_sl ([.ref h0, .int p0, .int p1]) ++ List.replicate (3 - (lg_sl ([.ref h0, .int p0, .int p1])).length) Slot.unset).toArray = ls at hl ⊢
  have hl : lv_has ls 3 [(0, .ref h0), (1, .int p0), (2, .int p1)] := hl
  refine zH (A := A) (ws := [(h0, .inr (11, [.ref tp, .int 0, .int 0, .int (-1), .ref td, .ref sh, .ref ch, .ref sw, .ref wk, .ref g1, .ref g2, .ref g3, .int 0, .int 0, .ref tl, .null, .null])), (td, .inr (3, [.ref r1, .ref r2, .ref r3, .ref r4, .ref r5, .int 0, .int 0, .int 0]))]) (fun H hP hS => ?_) hP
  have ho := fun w (h : w ∈ ow_c_span) => hts w (List.mem_cons_of_mem _ (List.mem_append_left _ h))
  have hin11 : ∀ w ∈ u_ws RX11 TX11 17, w ∈ vs_c_span := fun w h => (List.mem_cons_of_mem _ (List.mem_append_right _ (List.mem_append_right _ (List.mem_append_right _ h))))
  refine lv_aload_n hx hb dX11_span_0 rfl (lv_at hl 0 rfl) ?_
  refine va_get (D := (dC, dI)) (ci := 11) (v := .ref td) (C := RX11) (T := TX11) (N := 17) hx hb hts hin11 hown hK hP 0 rfl rfl 4 (by decide) (ho (.fieldLink RX11 26 "NearEnough" "told" "LNearEnough$Program;") (List.mem_of_getElem? (i := 0) rfl)) (fun _ h9 => h9) rfl dX11_span_1 ?_
  refine lv_iload_n hx hb dX11_span_4 rfl (lv_at hl 1 rfl) ?_
  have hPc := hP.sub (ws' := [(td, .inr (3, [.ref r1, .ref r2, .ref r3, .ref r4, .ref r5, .int 0, .int 0, .int 0]))]) [1] rfl
  have hDc := hD.sub (ws' := [(td, .inr (3, [.ref r1, .ref r2, .ref r3, .ref r4, .ref r5, .int 0, .int 0, .int 0]))]) [1] (by decide) rfl
  have hKc := hK.sub (tys' := []) [] rfl
  refine zz_i (wr := [(h0, .inr (11, [.ref tp, .int 0, .int 0, .int (-1), .ref td, .ref sh, .ref ch, .ref sw, .ref wk, .ref g1, .ref g2, .ref g3, .int 0, .int 0, .ref tl, .null, .null]))]) (va_runV (As := [.int p0]) (rest := []) ⟨hx, hb, hml, hown, hts⟩ (c_hasStep l dC dI td r1 r2 r3 r4 r5 p0 H.size) (cwV 1 hts gd_c_span_134_c_hasStep rfl rfl rfl (by decide +kernel) ⟨Nat.le_of_ble_eq_true rfl, Nat.le_of_ble_eq_true rfl⟩) (preV hPc hKc hDc hE (ci := 3) (q0 := 0) rfl rfl) rfl rfl hl.1 rfl (lv_room (Nat.le_of_ble_eq_true rfl)) dX11_span_5 ⟨Nat.le_of_ble_eq_true rfl, Nat.le_of_ble_eq_true rfl⟩) hK hP hD hS hA [1] [0] rfl rfl (by decide) (by decide) (fun u H locs hK hP hD hS => ?_)
  have hP : va_P (dC, dI) vwCl [(h0, .inr (11, [.ref tp, .int 0, .int 0, .int (-1), .ref td, .ref sh, .ref ch, .ref sw, .ref wk, .ref g1, .ref g2, .ref g3, .int 0, .int 0, .ref tl, .null, .null])), (td, .inr (3, [.ref r1, .ref r2, .ref r3, .ref r4, .ref r5, .int 0, .int 0, .int 0]))] H := hP
  have hD : va_D A [(h0, .inr (11, [.ref tp, .int 0, .int 0, .int (-1), .ref td, .ref sh, .ref ch, .ref sw, .ref wk, .ref g1, .ref g2, .ref g3, .int 0, .int 0, .ref tl, .null, .null])), (td, .inr (3, [.ref r1, .ref r2, .ref r3, .ref r4, .ref r5, .int 0, .int 0, .int 0]))] := hD
  have hK : va_K (dC, dI) vwCl [] s := hK
  refine W.widen (k := 0) (n := 0) (Nat.le_of_ble_eq_true rfl) (Nat.le_of_ble_eq_true rfl) ?_
  refine lv_if_ne (tgt := 13) hx hb dX11_span_8 (by decide) (fun cc => absurd cc (by decide)) (fun _ => ?_)
  refine lv_iconst (v := 0) hx hb dX11_span_11 (by decide) ?_
  refine W.widen (k := 0) (n := 0) (Nat.le_of_ble_eq_true rfl) (Nat.le_of_ble_eq_true rfl) ?_
  exact W.iret (v := 0) hx hb hr (fun t ht hW => ⟨⟨0, (), rfl, rfl, wEn_of (hP.sub [] rfl) (hK.sub [] rfl) (hD.sub [] (by decide) rfl) ht hW⟩, hS.F ht⟩) hS.2.2 dX11_span_12
def ow_c_sheet : List Cond := [.fieldLink RX11 33 "NearEnough" "sheets" "LNearEnough$Sheets;", .fieldLink RX11 111 "NearEnough$Sheets" "count" "I", .fieldLink RX11 151 "NearEnough$Sheets" "kept" "[Z", .fieldLink RX11 26 "NearEnough" "told" "LNearEnough$Program;", .fieldLink RX11 58 "NearEnough" "worker" "LNearEnough$Worker;"]
def vs_c_sheet : List Cond := .code yX11_sheet cX11_sheet 3 (some .int) :: (ow_c_sheet ++ (([.methodLink RX11 155 yX7_lay, .instanceMethod yX7_lay, .selects RX7 yX7_lay yX7_lay, .initialized RX7] : List Cond) ++ (vs_c_lay ++ (([.methodLink RX11 159 yX11_lastStep, .instanceMethod yX11_lastStep, .selects RX11 yX11_lastStep yX11_lastStep, .initialized RX11] : List Cond) ++ (vs_c_lastStep ++ (([.methodLink RX11 163 yX10_workPlain, .instanceMethod yX10_workPlain, .selects RX10 yX10_workPlain yX10_workPlain, .initialized RX10] : List Cond) ++ (vs_c_workPlain ++ (([.methodLink RX11 120 yX11_forgetPlan, .instanceMethod yX11_forgetPlan, .selects RX11 yX11_forgetPlan yX11_forgetPlan, .initialized RX11] : List Cond) ++ (vs_c_forgetPlan ++ (wsX70 ++ (wsX110)))))))))))
theorem vg_c_sheet : vs_c_sheet.all goodWord = true := by decide +kernel
theorem gd_c_sheet_155_c_lay : GoodIn vs_c_sheet (wsV RX11 155 RX7 yX7_lay vs_c_lay) := goodIn_app (goodIn_sub (fun w h => (List.mem_cons_of_mem _ (List.mem_append_right _ (List.mem_append_left _ h)))) (by decide +kernel)) (goodIn_sub (fun w h => (List.mem_cons_of_mem _ (List.mem_append_right _ (List.mem_append_right _ (List.mem_append_left _ h))))) vg_c_lay)
theorem gd_c_sheet_159_c_lastStep : GoodIn vs_c_sheet (wsV RX11 159 RX11 yX11_lastStep vs_c_lastStep) := goodIn_app (goodIn_sub (fun w h => (List.mem_cons_of_mem _ (List.mem_append_right _ (List.mem_append_right _ (List.mem_append_right _ (List.mem_append_left _ h)))))) (by decide +kernel)) (goodIn_sub (fun w h => (List.mem_cons_of_mem _ (List.mem_append_right _ (List.mem_append_right _ (List.mem_append_right _ (List.mem_append_right _ (List.mem_append_left _ h))))))) vg_c_lastStep)
theorem gd_c_sheet_163_c_workPlain : GoodIn vs_c_sheet (wsV RX11 163 RX10 yX10_workPlain vs_c_workPlain) := goodIn_app (goodIn_sub (fun w h => (List.mem_cons_of_mem _ (List.mem_append_right _ (List.mem_append_right _ (List.mem_append_right _ (List.mem_append_right _ (List.mem_append_right _ (List.mem_append_left _ h)))))))) (by decide +kernel)) (goodIn_sub (fun w h => (List.mem_cons_of_mem _ (List.mem_append_right _ (List.mem_append_right _ (List.mem_append_right _ (List.mem_append_right _ (List.mem_append_right _ (List.mem_append_right _ (List.mem_append_left _ h))))))))) vg_c_workPlain)
theorem gd_c_sheet_120_c_forgetPlan : GoodIn vs_c_sheet (wsV RX11 120 RX11 yX11_forgetPlan vs_c_forgetPlan) := goodIn_app (goodIn_sub (fun w h => (List.mem_cons_of_mem _ (List.mem_append_right _ (List.mem_append_right _ (List.mem_append_right _ (List.mem_append_right _ (List.mem_append_right _ (List.mem_append_right _ (List.mem_append_right _ (List.mem_append_left _ h)))))))))) (by decide +kernel)) (goodIn_sub (fun w h => (List.mem_cons_of_mem _ (List.mem_append_right _ (List.mem_append_right _ (List.mem_append_right _ (List.mem_append_right _ (List.mem_append_right _ (List.mem_append_right _ (List.mem_append_right _ (List.mem_append_right _ (List.mem_append_left _ h))))))))))) vg_c_forgetPlan)
set_option maxHeartbeats 4000000 in
set_option maxRecDepth 100000 in
theorem c_sheet (l : Launch) (dC : Nat → ClassId) (dI : Nat → Nat → Nat) (h0 : Nat) (tp : Nat) (td : Nat) (sh : Nat) (ch : Nat) (sw : Nat) (wk : Nat) (g1 : Nat) (g2 : Nat) (g3 : Nat) (tl : Nat) (r1 : Nat) (r2 : Nat) (r3 : Nat) (r4 : Nat) (r5 : Nat) (sn : Nat) (sk : Nat) (ks : ClassId) (v1 : Nat) (v2 : Nat) (p0 : Int32) (sz : Nat) : Met l yX11_sheet vs_c_sheet ({ frames := 1, cells := 0, slots := 0, locals := 26 }) (va_Pc [.ref h0, .int p0] (wSt dC dI [(h0, .inr (11, [.ref tp, .int 0, .int 0, .int (-1), .ref td, .ref sh, .ref ch, .ref sw, .ref wk, .ref g1, .ref g2, .ref g3, .int 0, .int 0, .ref tl, .null, .null])), (td, .inr (3, [.ref r1, .ref r2, .ref r3, .ref r4, .ref r5, .int 0, .int 0, .int 0])), (sh, .inr (7, [.ref sn, .ref sk, .int 0])), (sk, .inl (ks, 40, .inl (fun _ => 0))), (wk, .inr (10, [.ref td, .ref sh, .ref ch, .ref v1, .ref v2]))] [(ks, .boolean)] sz)) (va_Qi (fun (r : Int32) (_ : Unit) => r = 0) (fun (u : Unit) => wEn dC dI (va_A [(h0, .inr (11, [.ref tp, .int 0, .int 0, .int (-1), .ref td, .ref sh, .ref ch, .ref sw, .ref wk, .ref g1, .ref g2, .ref g3, .int 0, .int 0, .ref tl, .null, .null])), (td, .inr (3, [.ref r1, .ref r2, .ref r3, .ref r4, .ref r5, .int 0, .int 0, .int 0])), (sh, .inr (7, [.ref sn, .ref sk, .int 0])), (sk, .inl (ks, 40, .inl (fun _ => 0))), (wk, .inr (10, [.ref td, .ref sh, .ref ch, .ref v1, .ref v2]))] sz) [] []) (va_A [(h0, .inr (11, [.ref tp, .int 0, .int 0, .int (-1), .ref td, .ref sh, .ref ch, .ref sw, .ref wk, .ref g1, .ref g2, .ref g3, .int 0, .int 0, .ref tl, .null, .null])), (td, .inr (3, [.ref r1, .ref r2, .ref r3, .ref r4, .ref r5, .int 0, .int 0, .int 0])), (sh, .inr (7, [.ref sn, .ref sk, .int 0])), (sk, .inl (ks, 40, .inl (fun _ => 0))), (wk, .inr (10, [.ref td, .ref sh, .ref ch, .ref v1, .ref v2]))] sz)) 0 0 (va_A [(h0, .inr (11, [.ref tp, .int 0, .int 0, .int (-1), .ref td, .ref sh, .ref ch, .ref sw, .ref wk, .ref g1, .ref g2, .ref g3, .int 0, .int 0, .ref tl, .null, .null])), (td, .inr (3, [.ref r1, .ref r2, .ref r3, .ref r4, .ref r5, .int 0, .int 0, .int 0])), (sh, .inr (7, [.ref sn, .ref sk, .int 0])), (sk, .inl (ks, 40, .inl (fun _ => 0))), (wk, .inr (10, [.ref td, .ref sh, .ref ch, .ref v1, .ref v2]))] sz) := by
  refine Met.ofW (cc := cX11_sheet) (maxL := 3) (ret := (some .int)) (by decide) rfl ?_
  intro p e s m args below meth c s₁ B hml hv
  obtain ⟨rfl, hsz, hP, hK, hD0, hE⟩ := hv
  have hx := B.exec
  have hb := B.bytes
  have hr := B.returns
  have hts := atoms_spec (ws := vs_c_sheet) B.pre
  have hown : s.vm.findClass RX11 = some m.cls := findClass_of_methodNamed B.named
  have hlocks := B.notSynchronized
  subst hsz
  have hD := hD0.self (sz := s.heap.size)
  generalize hAe : va_A [(h0, .inr (11, [.ref tp, .int 0, .int 0, .int (-1), .ref td, .ref sh, .ref ch, .ref sw, .ref wk, .ref g1, .ref g2, .ref g3, .int 0, .int 0, .ref tl, .null, .null])), (td, .inr (3, [.ref r1, .ref r2, .ref r3, .ref r4, .ref r5, .int 0, .int 0, .int 0])), (sh, .inr (7, [.ref sn, .ref sk, .int 0])), (sk, .inl (ks, 40, .inl (fun _ => 0))), (wk, .inr (10, [.ref td, .ref sh, .ref ch, .ref v1, .ref v2]))] s.heap.size = A at hD ⊢
  have hA : ∀ q : Nat, s.heap.size ≤ q → A q := fun q h => by rw [← hAe]; exact Or.inr h
  have hl := lv_entry ([.ref h0, .int p0]) (n := 3) (Nat.le_of_ble_eq_true rfl)
  rw [lg_entry_eq]
  generalize (lg_sl ([.ref h0, .int p0]) ++ List.replicate (3 - (lg_sl ([.ref h0, .int p0])).length) Slot.unset).toArray = ls at hl ⊢
  have hl : lv_has ls 3 [(0, .ref h0), (1, .int p0)] := hl
  refine zH (A := A) (ws := [(h0, .inr (11, [.ref tp, .int 0, .int 0, .int (-1), .ref td, .ref sh, .ref ch, .ref sw, .ref wk, .ref g1, .ref g2, .ref g3, .int 0, .int 0, .ref tl, .null, .null])), (td, .inr (3, [.ref r1, .ref r2, .ref r3, .ref r4, .ref r5, .int 0, .int 0, .int 0])), (sh, .inr (7, [.ref sn, .ref sk, .int 0])), (sk, .inl (ks, 40, .inl (fun _ => 0))), (wk, .inr (10, [.ref td, .ref sh, .ref ch, .ref v1, .ref v2]))]) (fun H hP hS => ?_) hP
  have ho := fun w (h : w ∈ ow_c_sheet) => hts w (List.mem_cons_of_mem _ (List.mem_append_left _ h))
  have hin7 : ∀ w ∈ u_ws RX7 TX7 3, w ∈ vs_c_sheet := fun w h => (List.mem_cons_of_mem _ (List.mem_append_right _ (List.mem_append_right _ (List.mem_append_right _ (List.mem_append_right _ (List.mem_append_right _ (List.mem_append_right _ (List.mem_append_right _ (List.mem_append_right _ (List.mem_append_right _ (List.mem_append_left _ h)))))))))))
  have hin11 : ∀ w ∈ u_ws RX11 TX11 17, w ∈ vs_c_sheet := fun w h => (List.mem_cons_of_mem _ (List.mem_append_right _ (List.mem_append_right _ (List.mem_append_right _ (List.mem_append_right _ (List.mem_append_right _ (List.mem_append_right _ (List.mem_append_right _ (List.mem_append_right _ (List.mem_append_right _ (List.mem_append_right _ h)))))))))))
  refine lv_aload_n hx hb dX11_sheet_0 rfl (lv_at hl 0 rfl) ?_
  refine va_get (D := (dC, dI)) (ci := 11) (v := .ref sh) (C := RX11) (T := TX11) (N := 17) hx hb hts hin11 hown hK hP 0 rfl rfl 5 (by decide) (ho (.fieldLink RX11 33 "NearEnough" "sheets" "LNearEnough$Sheets;") (List.mem_of_getElem? (i := 0) rfl)) (fun _ h9 => h9) rfl dX11_sheet_1 ?_
  refine va_get (D := (dC, dI)) (ci := 7) (v := .int 0) (C := RX7) (T := TX7) (N := 3) hx hb hts hin7 hown hK hP 2 rfl rfl 2 (by decide) (ho (.fieldLink RX11 111 "NearEnough$Sheets" "count" "I") (List.mem_of_getElem? (i := 1) rfl)) (fun _ h9 => h9) rfl dX11_sheet_4 ?_
  refine lv_bipush (v := 40) hx hb dX11_sheet_7 (by decide) ?_
  refine lv_icmp_lt (tgt := 14) hx hb dX11_sheet_9 (by decide) (fun _ => ?_) (fun cc => absurd (by decide) cc)
  refine lv_aload_n hx hb dX11_sheet_14 rfl (lv_at hl 0 rfl) ?_
  refine va_get (D := (dC, dI)) (ci := 11) (v := .ref sh) (C := RX11) (T := TX11) (N := 17) hx hb hts hin11 hown hK hP 0 rfl rfl 5 (by decide) (ho (.fieldLink RX11 33 "NearEnough" "sheets" "LNearEnough$Sheets;") (List.mem_of_getElem? (i := 0) rfl)) (fun _ h9 => h9) rfl dX11_sheet_15 ?_
  refine va_get (D := (dC, dI)) (ci := 7) (v := .int 0) (C := RX7) (T := TX7) (N := 3) hx hb hts hin7 hown hK hP 2 rfl rfl 2 (by decide) (ho (.fieldLink RX11 111 "NearEnough$Sheets" "count" "I") (List.mem_of_getElem? (i := 1) rfl)) (fun _ h9 => h9) rfl dX11_sheet_18 ?_
  refine lv_istore_n (lv' := [(2, .int 0), (0, .ref h0), (1, .int p0)]) hx hb dX11_sheet_21 rfl hl (by decide) rfl (fun ls hl => ?_)
  refine lv_aload_n hx hb dX11_sheet_22 rfl (lv_at hl 1 rfl) ?_
  refine va_get (D := (dC, dI)) (ci := 11) (v := .ref sh) (C := RX11) (T := TX11) (N := 17) hx hb hts hin11 hown hK hP 0 rfl rfl 5 (by decide) (ho (.fieldLink RX11 33 "NearEnough" "sheets" "LNearEnough$Sheets;") (List.mem_of_getElem? (i := 0) rfl)) (fun _ h9 => h9) rfl dX11_sheet_23 ?_
  refine va_get (D := (dC, dI)) (ci := 7) (v := .ref sk) (C := RX7) (T := TX7) (N := 3) hx hb hts hin7 hown hK hP 2 rfl rfl 1 (by decide) (ho (.fieldLink RX11 151 "NearEnough$Sheets" "kept" "[Z") (List.mem_of_getElem? (i := 2) rfl)) (fun _ h9 => h9) rfl dX11_sheet_26 ?_
  refine lv_iload_n hx hb dX11_sheet_29 rfl (lv_at hl 0 rfl) ?_
  refine lv_iload_n hx hb dX11_sheet_30 rfl (lv_at hl 2 rfl) ?_
  refine va_zast hx hb hK hP hD hS 3 0 rfl rfl (by unfold vp_in; decide) dX11_sheet_31 (fun H locs hP hD hS => ?_)
  have hP : va_P (dC, dI) vwCl [(h0, .inr (11, [.ref tp, .int 0, .int 0, .int (-1), .ref td, .ref sh, .ref ch, .ref sw, .ref wk, .ref g1, .ref g2, .ref g3, .int 0, .int 0, .ref tl, .null, .null])), (td, .inr (3, [.ref r1, .ref r2, .ref r3, .ref r4, .ref r5, .int 0, .int 0, .int 0])), (sh, .inr (7, [.ref sn, .ref sk, .int 0])), (sk, .inl (ks, 40, .inl (upd (fun _ => 0) (Int32.toNatClampNeg 0) (vp_nar .boolean p0)))), (wk, .inr (10, [.ref td, .ref sh, .ref ch, .ref v1, .ref v2]))] H := hP
  have hD : va_D A [(h0, .inr (11, [.ref tp, .int 0, .int 0, .int (-1), .ref td, .ref sh, .ref ch, .ref sw, .ref wk, .ref g1, .ref g2, .ref g3, .int 0, .int 0, .ref tl, .null, .null])), (td, .inr (3, [.ref r1, .ref r2, .ref r3, .ref r4, .ref r5, .int 0, .int 0, .int 0])), (sh, .inr (7, [.ref sn, .ref sk, .int 0])), (sk, .inl (ks, 40, .inl (upd (fun _ => 0) (Int32.toNatClampNeg 0) (vp_nar .boolean p0)))), (wk, .inr (10, [.ref td, .ref sh, .ref ch, .ref v1, .ref v2]))] := hD
  generalize upd (fun _ => 0) (Int32.toNatClampNeg 0) (vp_nar .boolean p0) = f2 at hP hD
  have hP : va_P (dC, dI) vwCl [(h0, .inr (11, [.ref tp, .int 0, .int 0, .int (-1), .ref td, .ref sh, .ref ch, .ref sw, .ref wk, .ref g1, .ref g2, .ref g3, .int 0, .int 0, .ref tl, .null, .null])), (td, .inr (3, [.ref r1, .ref r2, .ref r3, .ref r4, .ref r5, .int 0, .int 0, .int 0])), (sh, .inr (7, [.ref sn, .ref sk, .int 0])), (sk, .inl (ks, 40, .inl f2)), (wk, .inr (10, [.ref td, .ref sh, .ref ch, .ref v1, .ref v2]))] H := hP
  have hD : va_D A [(h0, .inr (11, [.ref tp, .int 0, .int 0, .int (-1), .ref td, .ref sh, .ref ch, .ref sw, .ref wk, .ref g1, .ref g2, .ref g3, .int 0, .int 0, .ref tl, .null, .null])), (td, .inr (3, [.ref r1, .ref r2, .ref r3, .ref r4, .ref r5, .int 0, .int 0, .int 0])), (sh, .inr (7, [.ref sn, .ref sk, .int 0])), (sk, .inl (ks, 40, .inl f2)), (wk, .inr (10, [.ref td, .ref sh, .ref ch, .ref v1, .ref v2]))] := hD
  refine lv_aload_n hx hb dX11_sheet_32 rfl (lv_at hl 1 rfl) ?_
  refine va_get (D := (dC, dI)) (ci := 11) (v := .ref sh) (C := RX11) (T := TX11) (N := 17) hx hb hts hin11 hown hK hP 0 rfl rfl 5 (by decide) (ho (.fieldLink RX11 33 "NearEnough" "sheets" "LNearEnough$Sheets;") (List.mem_of_getElem? (i := 0) rfl)) (fun _ h9 => h9) rfl dX11_sheet_33 ?_
  refine lv_iload_n hx hb dX11_sheet_36 rfl (lv_at hl 0 rfl) ?_
  refine lv_iconst (v := 0) hx hb dX11_sheet_37 (by decide) ?_
  refine lv_aload_n hx hb dX11_sheet_38 rfl (lv_at hl 1 rfl) ?_
  refine va_get (D := (dC, dI)) (ci := 11) (v := .ref td) (C := RX11) (T := TX11) (N := 17) hx hb hts hin11 hown hK hP 0 rfl rfl 4 (by decide) (ho (.fieldLink RX11 26 "NearEnough" "told" "LNearEnough$Program;") (List.mem_of_getElem? (i := 3) rfl)) (fun _ h9 => h9) rfl dX11_sheet_39 ?_
  have hPc := hP.sub (ws' := [(sh, .inr (7, [.ref sn, .ref sk, .int 0])), (td, .inr (3, [.ref r1, .ref r2, .ref r3, .ref r4, .ref r5, .int 0, .int 0, .int 0]))]) [2, 1] rfl
  have hDc := hD.sub (ws' := [(sh, .inr (7, [.ref sn, .ref sk, .int 0])), (td, .inr (3, [.ref r1, .ref r2, .ref r3, .ref r4, .ref r5, .int 0, .int 0, .int 0]))]) [2, 1] (by decide) rfl
  have hKc := hK.sub (tys' := []) [] rfl
  refine zz_v (wr := [(h0, .inr (11, [.ref tp, .int 0, .int 0, .int (-1), .ref td, .ref sh, .ref ch, .ref sw, .ref wk, .ref g1, .ref g2, .ref g3, .int 0, .int 0, .ref tl, .null, .null])), (sk, .inl (ks, 40, .inl f2)), (wk, .inr (10, [.ref td, .ref sh, .ref ch, .ref v1, .ref v2]))]) (va_runV (As := [.int 0, .int 0, .ref td]) (rest := []) ⟨hx, hb, hml, hown, hts⟩ (c_lay l dC dI sh sn sk td r1 r2 r3 r4 r5 H.size) (cwV 3 hts gd_c_sheet_155_c_lay rfl rfl rfl (by decide +kernel) ⟨Nat.le_of_ble_eq_true rfl, Nat.le_of_ble_eq_true rfl⟩) (preV hPc hKc hDc hE (ci := 7) (q0 := 0) rfl rfl) rfl rfl hl.1 rfl (lv_room (Nat.le_of_ble_eq_true rfl)) dX11_sheet_42 ⟨Nat.le_of_ble_eq_true rfl, Nat.le_of_ble_eq_true rfl⟩) hK hP hD hS hA [2, 1] [0, 3, 4] rfl rfl (by decide) (by decide) (fun u H locs hK hP hD hS => ?_)
  have hP : va_P (dC, dI) vwCl [(h0, .inr (11, [.ref tp, .int 0, .int 0, .int (-1), .ref td, .ref sh, .ref ch, .ref sw, .ref wk, .ref g1, .ref g2, .ref g3, .int 0, .int 0, .ref tl, .null, .null])), (sk, .inl (ks, 40, .inl f2)), (wk, .inr (10, [.ref td, .ref sh, .ref ch, .ref v1, .ref v2])), (sh, .inr (7, [.ref sn, .ref sk, .int 0])), (td, .inr (3, [.ref r1, .ref r2, .ref r3, .ref r4, .ref r5, .int 0, .int 0, .int 0]))] H := hP
  have hD : va_D A [(h0, .inr (11, [.ref tp, .int 0, .int 0, .int (-1), .ref td, .ref sh, .ref ch, .ref sw, .ref wk, .ref g1, .ref g2, .ref g3, .int 0, .int 0, .ref tl, .null, .null])), (sk, .inl (ks, 40, .inl f2)), (wk, .inr (10, [.ref td, .ref sh, .ref ch, .ref v1, .ref v2])), (sh, .inr (7, [.ref sn, .ref sk, .int 0])), (td, .inr (3, [.ref r1, .ref r2, .ref r3, .ref r4, .ref r5, .int 0, .int 0, .int 0]))] := hD
  have hK : va_K (dC, dI) vwCl [(ks, .boolean)] s := hK
  refine W.widen (k := 0) (n := 0) (Nat.le_of_ble_eq_true rfl) (Nat.le_of_ble_eq_true rfl) ?_
  refine lv_aload_n hx hb dX11_sheet_45 rfl (lv_at hl 1 rfl) ?_
  refine va_get (D := (dC, dI)) (ci := 11) (v := .ref sh) (C := RX11) (T := TX11) (N := 17) hx hb hts hin11 hown hK hP 0 rfl rfl 5 (by decide) (ho (.fieldLink RX11 33 "NearEnough" "sheets" "LNearEnough$Sheets;") (List.mem_of_getElem? (i := 0) rfl)) (fun _ h9 => h9) rfl dX11_sheet_46 ?_
  refine lv_iload_n hx hb dX11_sheet_49 rfl (lv_at hl 0 rfl) ?_
  refine lv_iconst (v := 1) hx hb dX11_sheet_50 (by decide) ?_
  refine lv_iadd hx hb dX11_sheet_51 ?_
  refine zi (v := 1) (by decide) ?_
  refine va_put (D := (dC, dI)) (ci := 7) (v := .int 1) (ty := tyX7 2) (C := RX7) (T := TX7) (N := 3) hx hb hts hin7 tyX7 tyX7_ok nmX7 hown hK hP hD hS 3 rfl rfl 2 (by decide) (ho (.fieldLink RX11 111 "NearEnough$Sheets" "count" "I") (List.mem_of_getElem? (i := 1) rfl)) (fun _ h9 => h9) rfl (by decide +kernel) rfl rfl (Nat.le_of_ble_eq_true rfl) dX11_sheet_52 (fun H locs hP hD hS => ?_)
  have hP : va_P (dC, dI) vwCl [(h0, .inr (11, [.ref tp, .int 0, .int 0, .int (-1), .ref td, .ref sh, .ref ch, .ref sw, .ref wk, .ref g1, .ref g2, .ref g3, .int 0, .int 0, .ref tl, .null, .null])), (sk, .inl (ks, 40, .inl f2)), (wk, .inr (10, [.ref td, .ref sh, .ref ch, .ref v1, .ref v2])), (sh, .inr (7, [.ref sn, .ref sk, .int 1])), (td, .inr (3, [.ref r1, .ref r2, .ref r3, .ref r4, .ref r5, .int 0, .int 0, .int 0]))] H := hP
  have hD : va_D A [(h0, .inr (11, [.ref tp, .int 0, .int 0, .int (-1), .ref td, .ref sh, .ref ch, .ref sw, .ref wk, .ref g1, .ref g2, .ref g3, .int 0, .int 0, .ref tl, .null, .null])), (sk, .inl (ks, 40, .inl f2)), (wk, .inr (10, [.ref td, .ref sh, .ref ch, .ref v1, .ref v2])), (sh, .inr (7, [.ref sn, .ref sk, .int 1])), (td, .inr (3, [.ref r1, .ref r2, .ref r3, .ref r4, .ref r5, .int 0, .int 0, .int 0]))] := hD
  refine lv_aload_n hx hb dX11_sheet_55 rfl (lv_at hl 1 rfl) ?_
  refine va_get (D := (dC, dI)) (ci := 11) (v := .ref wk) (C := RX11) (T := TX11) (N := 17) hx hb hts hin11 hown hK hP 0 rfl rfl 8 (by decide) (ho (.fieldLink RX11 58 "NearEnough" "worker" "LNearEnough$Worker;") (List.mem_of_getElem? (i := 4) rfl)) (fun _ h9 => h9) rfl dX11_sheet_56 ?_
  refine lv_iload_n hx hb dX11_sheet_59 rfl (lv_at hl 0 rfl) ?_
  refine lv_aload_n hx hb dX11_sheet_60 rfl (lv_at hl 1 rfl) ?_
  have hPc := hP.sub (ws' := [(h0, .inr (11, [.ref tp, .int 0, .int 0, .int (-1), .ref td, .ref sh, .ref ch, .ref sw, .ref wk, .ref g1, .ref g2, .ref g3, .int 0, .int 0, .ref tl, .null, .null])), (td, .inr (3, [.ref r1, .ref r2, .ref r3, .ref r4, .ref r5, .int 0, .int 0, .int 0]))]) [0, 4] rfl
  have hDc := hD.sub (ws' := [(h0, .inr (11, [.ref tp, .int 0, .int 0, .int (-1), .ref td, .ref sh, .ref ch, .ref sw, .ref wk, .ref g1, .ref g2, .ref g3, .int 0, .int 0, .ref tl, .null, .null])), (td, .inr (3, [.ref r1, .ref r2, .ref r3, .ref r4, .ref r5, .int 0, .int 0, .int 0]))]) [0, 4] (by decide) rfl
  have hKc := hK.sub (tys' := []) [] rfl
  refine zz_i (wr := [(sk, .inl (ks, 40, .inl f2)), (wk, .inr (10, [.ref td, .ref sh, .ref ch, .ref v1, .ref v2])), (sh, .inr (7, [.ref sn, .ref sk, .int 1]))]) (va_runV (As := []) (rest := [.int 0, .ref wk]) ⟨hx, hb, hml, hown, hts⟩ (c_lastStep l dC dI h0 tp td sh ch sw wk g1 g2 g3 tl r1 r2 r3 r4 r5 H.size) (cwV 0 hts gd_c_sheet_159_c_lastStep rfl rfl rfl (by decide +kernel) ⟨Nat.le_of_ble_eq_true rfl, Nat.le_of_ble_eq_true rfl⟩) (preV hPc hKc hDc hE (ci := 11) (q0 := 0) rfl rfl) rfl rfl hl.1 rfl (lv_room (Nat.le_of_ble_eq_true rfl)) dX11_sheet_61 ⟨Nat.le_of_ble_eq_true rfl, Nat.le_of_ble_eq_true rfl⟩) hK hP hD hS hA [0, 4] [1, 2, 3] rfl rfl (by decide) (by decide) (fun u H locs hK hP hD hS => ?_)
  have hP : va_P (dC, dI) vwCl [(sk, .inl (ks, 40, .inl f2)), (wk, .inr (10, [.ref td, .ref sh, .ref ch, .ref v1, .ref v2])), (sh, .inr (7, [.ref sn, .ref sk, .int 1])), (h0, .inr (11, [.ref tp, .int 0, .int 0, .int (-1), .ref td, .ref sh, .ref ch, .ref sw, .ref wk, .ref g1, .ref g2, .ref g3, .int 0, .int 0, .ref tl, .null, .null])), (td, .inr (3, [.ref r1, .ref r2, .ref r3, .ref r4, .ref r5, .int 0, .int 0, .int 0]))] H := hP
  have hD : va_D A [(sk, .inl (ks, 40, .inl f2)), (wk, .inr (10, [.ref td, .ref sh, .ref ch, .ref v1, .ref v2])), (sh, .inr (7, [.ref sn, .ref sk, .int 1])), (h0, .inr (11, [.ref tp, .int 0, .int 0, .int (-1), .ref td, .ref sh, .ref ch, .ref sw, .ref wk, .ref g1, .ref g2, .ref g3, .int 0, .int 0, .ref tl, .null, .null])), (td, .inr (3, [.ref r1, .ref r2, .ref r3, .ref r4, .ref r5, .int 0, .int 0, .int 0]))] := hD
  have hK : va_K (dC, dI) vwCl [(ks, .boolean)] s := hK
  refine W.widen (k := 0) (n := 0) (Nat.le_of_ble_eq_true rfl) (Nat.le_of_ble_eq_true rfl) ?_
  have hPc := hP.sub (ws' := [(wk, .inr (10, [.ref td, .ref sh, .ref ch, .ref v1, .ref v2]))]) [1] rfl
  have hDc := hD.sub (ws' := [(wk, .inr (10, [.ref td, .ref sh, .ref ch, .ref v1, .ref v2]))]) [1] (by decide) rfl
  have hKc := hK.sub (tys' := []) [] rfl
  refine zz_v (wr := [(sk, .inl (ks, 40, .inl f2)), (sh, .inr (7, [.ref sn, .ref sk, .int 1])), (h0, .inr (11, [.ref tp, .int 0, .int 0, .int (-1), .ref td, .ref sh, .ref ch, .ref sw, .ref wk, .ref g1, .ref g2, .ref g3, .int 0, .int 0, .ref tl, .null, .null])), (td, .inr (3, [.ref r1, .ref r2, .ref r3, .ref r4, .ref r5, .int 0, .int 0, .int 0]))]) (va_runV (As := [.int 0, .int (-1)]) (rest := []) ⟨hx, hb, hml, hown, hts⟩ (c_workPlain l dC dI wk td sh ch v1 v2 H.size) (cwV 2 hts gd_c_sheet_163_c_workPlain rfl rfl rfl (by decide +kernel) ⟨Nat.le_of_ble_eq_true rfl, Nat.le_of_ble_eq_true rfl⟩) (preV hPc hKc hDc hE (ci := 10) (q0 := 0) rfl rfl) rfl rfl hl.1 rfl (lv_room (Nat.le_of_ble_eq_true rfl)) dX11_sheet_64 ⟨Nat.le_of_ble_eq_true rfl, Nat.le_of_ble_eq_true rfl⟩) hK hP hD hS hA [1] [0, 2, 3, 4] rfl rfl (by decide) (by decide) (fun u H locs hK hP hD hS => ?_)
  have hP : va_P (dC, dI) vwCl [(sk, .inl (ks, 40, .inl f2)), (sh, .inr (7, [.ref sn, .ref sk, .int 1])), (h0, .inr (11, [.ref tp, .int 0, .int 0, .int (-1), .ref td, .ref sh, .ref ch, .ref sw, .ref wk, .ref g1, .ref g2, .ref g3, .int 0, .int 0, .ref tl, .null, .null])), (td, .inr (3, [.ref r1, .ref r2, .ref r3, .ref r4, .ref r5, .int 0, .int 0, .int 0])), (wk, .inr (10, [.ref td, .ref sh, .ref ch, .ref v1, .ref v2]))] H := hP
  have hD : va_D A [(sk, .inl (ks, 40, .inl f2)), (sh, .inr (7, [.ref sn, .ref sk, .int 1])), (h0, .inr (11, [.ref tp, .int 0, .int 0, .int (-1), .ref td, .ref sh, .ref ch, .ref sw, .ref wk, .ref g1, .ref g2, .ref g3, .int 0, .int 0, .ref tl, .null, .null])), (td, .inr (3, [.ref r1, .ref r2, .ref r3, .ref r4, .ref r5, .int 0, .int 0, .int 0])), (wk, .inr (10, [.ref td, .ref sh, .ref ch, .ref v1, .ref v2]))] := hD
  have hK : va_K (dC, dI) vwCl [(ks, .boolean)] s := hK
  refine W.widen (k := 0) (n := 0) (Nat.le_of_ble_eq_true rfl) (Nat.le_of_ble_eq_true rfl) ?_
  refine lv_aload_n hx hb dX11_sheet_67 rfl (lv_at hl 1 rfl) ?_
  have hPc := hP.sub (ws' := [(h0, .inr (11, [.ref tp, .int 0, .int 0, .int (-1), .ref td, .ref sh, .ref ch, .ref sw, .ref wk, .ref g1, .ref g2, .ref g3, .int 0, .int 0, .ref tl, .null, .null]))]) [2] rfl
  have hDc := hD.sub (ws' := [(h0, .inr (11, [.ref tp, .int 0, .int 0, .int (-1), .ref td, .ref sh, .ref ch, .ref sw, .ref wk, .ref g1, .ref g2, .ref g3, .int 0, .int 0, .ref tl, .null, .null]))]) [2] (by decide) rfl
  have hKc := hK.sub (tys' := []) [] rfl
  refine zz_v (wr := [(sk, .inl (ks, 40, .inl f2)), (sh, .inr (7, [.ref sn, .ref sk, .int 1])), (td, .inr (3, [.ref r1, .ref r2, .ref r3, .ref r4, .ref r5, .int 0, .int 0, .int 0])), (wk, .inr (10, [.ref td, .ref sh, .ref ch, .ref v1, .ref v2]))]) (va_runV (As := []) (rest := []) ⟨hx, hb, hml, hown, hts⟩ (c_forgetPlan l dC dI h0 tp td sh ch sw wk g1 g2 g3 tl H.size) (cwV 0 hts gd_c_sheet_120_c_forgetPlan rfl rfl rfl (by decide +kernel) ⟨Nat.le_of_ble_eq_true rfl, Nat.le_of_ble_eq_true rfl⟩) (preV hPc hKc hDc hE (ci := 11) (q0 := 0) rfl rfl) rfl rfl hl.1 rfl (lv_room (Nat.le_of_ble_eq_true rfl)) dX11_sheet_68 ⟨Nat.le_of_ble_eq_true rfl, Nat.le_of_ble_eq_true rfl⟩) hK hP hD hS hA [2] [0, 1, 3, 4] rfl rfl (by decide) (by decide) (fun u H locs hK hP hD hS => ?_)
  have hP : va_P (dC, dI) vwCl [(sk, .inl (ks, 40, .inl f2)), (sh, .inr (7, [.ref sn, .ref sk, .int 1])), (td, .inr (3, [.ref r1, .ref r2, .ref r3, .ref r4, .ref r5, .int 0, .int 0, .int 0])), (wk, .inr (10, [.ref td, .ref sh, .ref ch, .ref v1, .ref v2])), (h0, .inr (11, [.ref tp, .int 0, .int 0, .int (-1), .ref td, .ref sh, .ref ch, .ref sw, .ref wk, .ref g1, .ref g2, .ref g3, .int 0, .int 0, .ref tl, .null, .null]))] H := hP
  have hD : va_D A [(sk, .inl (ks, 40, .inl f2)), (sh, .inr (7, [.ref sn, .ref sk, .int 1])), (td, .inr (3, [.ref r1, .ref r2, .ref r3, .ref r4, .ref r5, .int 0, .int 0, .int 0])), (wk, .inr (10, [.ref td, .ref sh, .ref ch, .ref v1, .ref v2])), (h0, .inr (11, [.ref tp, .int 0, .int 0, .int (-1), .ref td, .ref sh, .ref ch, .ref sw, .ref wk, .ref g1, .ref g2, .ref g3, .int 0, .int 0, .ref tl, .null, .null]))] := hD
  have hK : va_K (dC, dI) vwCl [(ks, .boolean)] s := hK
  refine W.widen (k := 0) (n := 0) (Nat.le_of_ble_eq_true rfl) (Nat.le_of_ble_eq_true rfl) ?_
  refine lv_iload_n hx hb dX11_sheet_71 rfl (lv_at hl 0 rfl) ?_
  refine W.widen (k := 0) (n := 0) (Nat.le_of_ble_eq_true rfl) (Nat.le_of_ble_eq_true rfl) ?_
  exact W.iret (v := 0) hx hb hr (fun t ht hW => ⟨⟨0, (), rfl, rfl, wEn_of (hP.sub [] rfl) (hK.sub [] rfl) (hD.sub [] (by decide) rfl) ht hW⟩, hS.F ht⟩) hS.2.2 dX11_sheet_72
def ow_c_put : List Cond := [.fieldLink RX11 33 "NearEnough" "sheets" "LNearEnough$Sheets;"]
def vs_c_put : List Cond := .code yX11_put cX11_put 6 (some .boolean) :: (ow_c_put ++ (([.methodLink RX11 167 yX7_has, .instanceMethod yX7_has, .selects RX7 yX7_has yX7_has, .initialized RX7] : List Cond) ++ (vs_c_has ++ (wsX110))))
theorem vg_c_put : vs_c_put.all goodWord = true := by decide +kernel
theorem gd_c_put_167_c_has : GoodIn vs_c_put (wsV RX11 167 RX7 yX7_has vs_c_has) := goodIn_app (goodIn_sub (fun w h => (List.mem_cons_of_mem _ (List.mem_append_right _ (List.mem_append_left _ h)))) (by decide +kernel)) (goodIn_sub (fun w h => (List.mem_cons_of_mem _ (List.mem_append_right _ (List.mem_append_right _ (List.mem_append_left _ h))))) vg_c_has)
set_option maxHeartbeats 4000000 in
set_option maxRecDepth 100000 in
theorem c_put (l : Launch) (dC : Nat → ClassId) (dI : Nat → Nat → Nat) (h0 : Nat) (tp : Nat) (td : Nat) (sh : Nat) (ch : Nat) (sw : Nat) (wk : Nat) (g1 : Nat) (g2 : Nat) (g3 : Nat) (tl : Nat) (sn : Nat) (sk : Nat) (p0 : Int32) (p1 : Int32) (p2 : Int32) (p3 : Int32) (sz : Nat) : Met l yX11_put vs_c_put ({ frames := 1, cells := 0, slots := 0, locals := 21 }) (va_Pc [.ref h0, .int p0, .int p1, .int p2, .int p3] (wSt dC dI [(h0, .inr (11, [.ref tp, .int 0, .int 0, .int (-1), .ref td, .ref sh, .ref ch, .ref sw, .ref wk, .ref g1, .ref g2, .ref g3, .int 0, .int 0, .ref tl, .null, .null])), (sh, .inr (7, [.ref sn, .ref sk, .int 0]))] [] sz)) (va_Qi (fun (r : Int32) (_ : Unit) => r = 0) (fun (u : Unit) => wEn dC dI (va_A [(h0, .inr (11, [.ref tp, .int 0, .int 0, .int (-1), .ref td, .ref sh, .ref ch, .ref sw, .ref wk, .ref g1, .ref g2, .ref g3, .int 0, .int 0, .ref tl, .null, .null])), (sh, .inr (7, [.ref sn, .ref sk, .int 0]))] sz) [] []) (va_A [(h0, .inr (11, [.ref tp, .int 0, .int 0, .int (-1), .ref td, .ref sh, .ref ch, .ref sw, .ref wk, .ref g1, .ref g2, .ref g3, .int 0, .int 0, .ref tl, .null, .null])), (sh, .inr (7, [.ref sn, .ref sk, .int 0]))] sz)) 0 0 (va_A [(h0, .inr (11, [.ref tp, .int 0, .int 0, .int (-1), .ref td, .ref sh, .ref ch, .ref sw, .ref wk, .ref g1, .ref g2, .ref g3, .int 0, .int 0, .ref tl, .null, .null])), (sh, .inr (7, [.ref sn, .ref sk, .int 0]))] sz) := by
  refine Met.ofW (cc := cX11_put) (maxL := 6) (ret := (some .boolean)) (by decide) rfl ?_
  intro p e s m args below meth c s₁ B hml hv
  obtain ⟨rfl, hsz, hP, hK, hD0, hE⟩ := hv
  have hx := B.exec
  have hb := B.bytes
  have hr := B.returns
  have hts := atoms_spec (ws := vs_c_put) B.pre
  have hown : s.vm.findClass RX11 = some m.cls := findClass_of_methodNamed B.named
  have hlocks := B.notSynchronized
  subst hsz
  have hD := hD0.self (sz := s.heap.size)
  generalize hAe : va_A [(h0, .inr (11, [.ref tp, .int 0, .int 0, .int (-1), .ref td, .ref sh, .ref ch, .ref sw, .ref wk, .ref g1, .ref g2, .ref g3, .int 0, .int 0, .ref tl, .null, .null])), (sh, .inr (7, [.ref sn, .ref sk, .int 0]))] s.heap.size = A at hD ⊢
  have hA : ∀ q : Nat, s.heap.size ≤ q → A q := fun q h => by rw [← hAe]; exact Or.inr h
  have hl := lv_entry ([.ref h0, .int p0, .int p1, .int p2, .int p3]) (n := 6) (Nat.le_of_ble_eq_true rfl)
  rw [lg_entry_eq]
  generalize (lg_sl ([.ref h0, .int p0, .int p1, .int p2, .int p3]) ++ List.replicate (6 - (lg_sl ([.ref h0, .int p0, .int p1, .int p2, .int p3])).length) Slot.unset).toArray = ls at hl ⊢
  have hl : lv_has ls 6 [(0, .ref h0), (1, .int p0), (2, .int p1), (3, .int p2), (4, .int p3)] := hl
  refine zH (A := A) (ws := [(h0, .inr (11, [.ref tp, .int 0, .int 0, .int (-1), .ref td, .ref sh, .ref ch, .ref sw, .ref wk, .ref g1, .ref g2, .ref g3, .int 0, .int 0, .ref tl, .null, .null])), (sh, .inr (7, [.ref sn, .ref sk, .int 0]))]) (fun H hP hS => ?_) hP
  have ho := fun w (h : w ∈ ow_c_put) => hts w (List.mem_cons_of_mem _ (List.mem_append_left _ h))
  have hin11 : ∀ w ∈ u_ws RX11 TX11 17, w ∈ vs_c_put := fun w h => (List.mem_cons_of_mem _ (List.mem_append_right _ (List.mem_append_right _ (List.mem_append_right _ h))))
  refine lv_aload_n hx hb dX11_put_0 rfl (lv_at hl 0 rfl) ?_
  refine va_get (D := (dC, dI)) (ci := 11) (v := .ref sh) (C := RX11) (T := TX11) (N := 17) hx hb hts hin11 hown hK hP 0 rfl rfl 5 (by decide) (ho (.fieldLink RX11 33 "NearEnough" "sheets" "LNearEnough$Sheets;") (List.mem_of_getElem? (i := 0) rfl)) (fun _ h9 => h9) rfl dX11_put_1 ?_
  refine lv_iload_n hx hb dX11_put_4 rfl (lv_at hl 1 rfl) ?_
  have hPc := hP.sub (ws' := [(sh, .inr (7, [.ref sn, .ref sk, .int 0]))]) [1] rfl
  have hDc := hD.sub (ws' := [(sh, .inr (7, [.ref sn, .ref sk, .int 0]))]) [1] (by decide) rfl
  have hKc := hK.sub (tys' := []) [] rfl
  refine zz_i (wr := [(h0, .inr (11, [.ref tp, .int 0, .int 0, .int (-1), .ref td, .ref sh, .ref ch, .ref sw, .ref wk, .ref g1, .ref g2, .ref g3, .int 0, .int 0, .ref tl, .null, .null]))]) (va_runV (As := [.int p0]) (rest := []) ⟨hx, hb, hml, hown, hts⟩ (c_has l dC dI sh sn sk p0 H.size) (cwV 1 hts gd_c_put_167_c_has rfl rfl rfl (by decide +kernel) ⟨Nat.le_of_ble_eq_true rfl, Nat.le_of_ble_eq_true rfl⟩) (preV hPc hKc hDc hE (ci := 7) (q0 := 0) rfl rfl) rfl rfl hl.1 rfl (lv_room (Nat.le_of_ble_eq_true rfl)) dX11_put_5 ⟨Nat.le_of_ble_eq_true rfl, Nat.le_of_ble_eq_true rfl⟩) hK hP hD hS hA [1] [0] rfl rfl (by decide) (by decide) (fun u H locs hK hP hD hS => ?_)
  have hP : va_P (dC, dI) vwCl [(h0, .inr (11, [.ref tp, .int 0, .int 0, .int (-1), .ref td, .ref sh, .ref ch, .ref sw, .ref wk, .ref g1, .ref g2, .ref g3, .int 0, .int 0, .ref tl, .null, .null])), (sh, .inr (7, [.ref sn, .ref sk, .int 0]))] H := hP
  have hD : va_D A [(h0, .inr (11, [.ref tp, .int 0, .int 0, .int (-1), .ref td, .ref sh, .ref ch, .ref sw, .ref wk, .ref g1, .ref g2, .ref g3, .int 0, .int 0, .ref tl, .null, .null])), (sh, .inr (7, [.ref sn, .ref sk, .int 0]))] := hD
  have hK : va_K (dC, dI) vwCl [] s := hK
  refine W.widen (k := 0) (n := 0) (Nat.le_of_ble_eq_true rfl) (Nat.le_of_ble_eq_true rfl) ?_
  refine lv_if_eq (tgt := 26) hx hb dX11_put_8 (by decide) (fun _ => ?_) (fun cc => absurd (by decide) cc)
  refine lv_iconst (v := 0) hx hb dX11_put_26 (by decide) ?_
  refine W.widen (k := 0) (n := 0) (Nat.le_of_ble_eq_true rfl) (Nat.le_of_ble_eq_true rfl) ?_
  exact W.zret (v := 0) hx hb hr rfl (fun t ht hW => ⟨⟨0, (), rfl, rfl, wEn_of (hP.sub [] rfl) (hK.sub [] rfl) (hD.sub [] (by decide) rfl) ht hW⟩, hS.F ht⟩) hS.2.2 dX11_put_27
def ow_c_change : List Cond := [.fieldLink RX11 26 "NearEnough" "told" "LNearEnough$Program;"]
def vs_c_change : List Cond := .code yX11_change cX11_change 5 (some .int) :: (ow_c_change ++ (([.methodLink RX11 134 yX3_hasStep, .instanceMethod yX3_hasStep, .selects RX3 yX3_hasStep yX3_hasStep, .initialized RX3] : List Cond) ++ (vs_c_hasStep ++ (wsX110))))
theorem vg_c_change : vs_c_change.all goodWord = true := by decide +kernel
theorem gd_c_change_134_c_hasStep : GoodIn vs_c_change (wsV RX11 134 RX3 yX3_hasStep vs_c_hasStep) := goodIn_app (goodIn_sub (fun w h => (List.mem_cons_of_mem _ (List.mem_append_right _ (List.mem_append_left _ h)))) (by decide +kernel)) (goodIn_sub (fun w h => (List.mem_cons_of_mem _ (List.mem_append_right _ (List.mem_append_right _ (List.mem_append_left _ h))))) vg_c_hasStep)
set_option maxHeartbeats 4000000 in
set_option maxRecDepth 100000 in
theorem c_change (l : Launch) (dC : Nat → ClassId) (dI : Nat → Nat → Nat) (h0 : Nat) (tp : Nat) (td : Nat) (sh : Nat) (ch : Nat) (sw : Nat) (wk : Nat) (g1 : Nat) (g2 : Nat) (g3 : Nat) (tl : Nat) (r1 : Nat) (r2 : Nat) (r3 : Nat) (r4 : Nat) (r5 : Nat) (p0 : Int32) (p1 : Int32) (p2 : Int32) (p3 : Int32) (sz : Nat) : Met l yX11_change vs_c_change ({ frames := 1, cells := 0, slots := 0, locals := 21 }) (va_Pc [.ref h0, .int p0, .int p1, .int p2, .int p3] (wSt dC dI [(h0, .inr (11, [.ref tp, .int 0, .int 0, .int (-1), .ref td, .ref sh, .ref ch, .ref sw, .ref wk, .ref g1, .ref g2, .ref g3, .int 0, .int 0, .ref tl, .null, .null])), (td, .inr (3, [.ref r1, .ref r2, .ref r3, .ref r4, .ref r5, .int 0, .int 0, .int 0]))] [] sz)) (va_Qi (fun (r : Int32) (_ : Unit) => r = (-1)) (fun (u : Unit) => wEn dC dI (va_A [(h0, .inr (11, [.ref tp, .int 0, .int 0, .int (-1), .ref td, .ref sh, .ref ch, .ref sw, .ref wk, .ref g1, .ref g2, .ref g3, .int 0, .int 0, .ref tl, .null, .null])), (td, .inr (3, [.ref r1, .ref r2, .ref r3, .ref r4, .ref r5, .int 0, .int 0, .int 0]))] sz) [] []) (va_A [(h0, .inr (11, [.ref tp, .int 0, .int 0, .int (-1), .ref td, .ref sh, .ref ch, .ref sw, .ref wk, .ref g1, .ref g2, .ref g3, .int 0, .int 0, .ref tl, .null, .null])), (td, .inr (3, [.ref r1, .ref r2, .ref r3, .ref r4, .ref r5, .int 0, .int 0, .int 0]))] sz)) 0 0 (va_A [(h0, .inr (11, [.ref tp, .int 0, .int 0, .int (-1), .ref td, .ref sh, .ref ch, .ref sw, .ref wk, .ref g1, .ref g2, .ref g3, .int 0, .int 0, .ref tl, .null, .null])), (td, .inr (3, [.ref r1, .ref r2, .ref r3, .ref r4, .ref r5, .int 0, .int 0, .int 0]))] sz) := by
  refine Met.ofW (cc := cX11_change) (maxL := 5) (ret := (some .int)) (by decide) rfl ?_
  intro p e s m args below meth c s₁ B hml hv
  obtain ⟨rfl, hsz, hP, hK, hD0, hE⟩ := hv
  have hx := B.exec
  have hb := B.bytes
  have hr := B.returns
  have hts := atoms_spec (ws := vs_c_change) B.pre
  have hown : s.vm.findClass RX11 = some m.cls := findClass_of_methodNamed B.named
  have hlocks := B.notSynchronized
  subst hsz
  have hD := hD0.self (sz := s.heap.size)
  generalize hAe : va_A [(h0, .inr (11, [.ref tp, .int 0, .int 0, .int (-1), .ref td, .ref sh, .ref ch, .ref sw, .ref wk, .ref g1, .ref g2, .ref g3, .int 0, .int 0, .ref tl, .null, .null])), (td, .inr (3, [.ref r1, .ref r2, .ref r3, .ref r4, .ref r5, .int 0, .int 0, .int 0]))] s.heap.size = A at hD ⊢
  have hA : ∀ q : Nat, s.heap.size ≤ q → A q := fun q h => by rw [← hAe]; exact Or.inr h
  have hl := lv_entry ([.ref h0, .int p0, .int p1, .int p2, .int p3]) (n := 5) (Nat.le_of_ble_eq_true rfl)
  rw [lg_entry_eq]
  generalize (lg_sl ([.ref h0, .int p0, .int p1, .int p2, .int p3]) ++ List.replicate (5 - (lg_sl ([.ref h0, .int p0, .int p1, .int p2, .int p3])).length) Slot.unset).toArray = ls at hl ⊢
  have hl : lv_has ls 5 [(0, .ref h0), (1, .int p0), (2, .int p1), (3, .int p2), (4, .int p3)] := hl
  refine zH (A := A) (ws := [(h0, .inr (11, [.ref tp, .int 0, .int 0, .int (-1), .ref td, .ref sh, .ref ch, .ref sw, .ref wk, .ref g1, .ref g2, .ref g3, .int 0, .int 0, .ref tl, .null, .null])), (td, .inr (3, [.ref r1, .ref r2, .ref r3, .ref r4, .ref r5, .int 0, .int 0, .int 0]))]) (fun H hP hS => ?_) hP
  have ho := fun w (h : w ∈ ow_c_change) => hts w (List.mem_cons_of_mem _ (List.mem_append_left _ h))
  have hin11 : ∀ w ∈ u_ws RX11 TX11 17, w ∈ vs_c_change := fun w h => (List.mem_cons_of_mem _ (List.mem_append_right _ (List.mem_append_right _ (List.mem_append_right _ h))))
  refine lv_aload_n hx hb dX11_change_0 rfl (lv_at hl 0 rfl) ?_
  refine va_get (D := (dC, dI)) (ci := 11) (v := .ref td) (C := RX11) (T := TX11) (N := 17) hx hb hts hin11 hown hK hP 0 rfl rfl 4 (by decide) (ho (.fieldLink RX11 26 "NearEnough" "told" "LNearEnough$Program;") (List.mem_of_getElem? (i := 0) rfl)) (fun _ h9 => h9) rfl dX11_change_1 ?_
  refine lv_iload_n hx hb dX11_change_4 rfl (lv_at hl 1 rfl) ?_
  have hPc := hP.sub (ws' := [(td, .inr (3, [.ref r1, .ref r2, .ref r3, .ref r4, .ref r5, .int 0, .int 0, .int 0]))]) [1] rfl
  have hDc := hD.sub (ws' := [(td, .inr (3, [.ref r1, .ref r2, .ref r3, .ref r4, .ref r5, .int 0, .int 0, .int 0]))]) [1] (by decide) rfl
  have hKc := hK.sub (tys' := []) [] rfl
  refine zz_i (wr := [(h0, .inr (11, [.ref tp, .int 0, .int 0, .int (-1), .ref td, .ref sh, .ref ch, .ref sw, .ref wk, .ref g1, .ref g2, .ref g3, .int 0, .int 0, .ref tl, .null, .null]))]) (va_runV (As := [.int p0]) (rest := []) ⟨hx, hb, hml, hown, hts⟩ (c_hasStep l dC dI td r1 r2 r3 r4 r5 p0 H.size) (cwV 1 hts gd_c_change_134_c_hasStep rfl rfl rfl (by decide +kernel) ⟨Nat.le_of_ble_eq_true rfl, Nat.le_of_ble_eq_true rfl⟩) (preV hPc hKc hDc hE (ci := 3) (q0 := 0) rfl rfl) rfl rfl hl.1 rfl (lv_room (Nat.le_of_ble_eq_true rfl)) dX11_change_5 ⟨Nat.le_of_ble_eq_true rfl, Nat.le_of_ble_eq_true rfl⟩) hK hP hD hS hA [1] [0] rfl rfl (by decide) (by decide) (fun u H locs hK hP hD hS => ?_)
  have hP : va_P (dC, dI) vwCl [(h0, .inr (11, [.ref tp, .int 0, .int 0, .int (-1), .ref td, .ref sh, .ref ch, .ref sw, .ref wk, .ref g1, .ref g2, .ref g3, .int 0, .int 0, .ref tl, .null, .null])), (td, .inr (3, [.ref r1, .ref r2, .ref r3, .ref r4, .ref r5, .int 0, .int 0, .int 0]))] H := hP
  have hD : va_D A [(h0, .inr (11, [.ref tp, .int 0, .int 0, .int (-1), .ref td, .ref sh, .ref ch, .ref sw, .ref wk, .ref g1, .ref g2, .ref g3, .int 0, .int 0, .ref tl, .null, .null])), (td, .inr (3, [.ref r1, .ref r2, .ref r3, .ref r4, .ref r5, .int 0, .int 0, .int 0]))] := hD
  have hK : va_K (dC, dI) vwCl [] s := hK
  refine W.widen (k := 0) (n := 0) (Nat.le_of_ble_eq_true rfl) (Nat.le_of_ble_eq_true rfl) ?_
  refine lv_if_eq (tgt := 24) hx hb dX11_change_8 (by decide) (fun _ => ?_) (fun cc => absurd (by decide) cc)
  refine lv_iconst (v := (-1)) hx hb dX11_change_24 (by decide) ?_
  refine W.widen (k := 0) (n := 0) (Nat.le_of_ble_eq_true rfl) (Nat.le_of_ble_eq_true rfl) ?_
  exact W.iret (v := (-1)) hx hb hr (fun t ht hW => ⟨⟨(-1), (), rfl, rfl, wEn_of (hP.sub [] rfl) (hK.sub [] rfl) (hD.sub [] (by decide) rfl) ht hW⟩, hS.F ht⟩) hS.2.2 dX11_change_25
def ow_c_value : List Cond := [.fieldLink RX11 26 "NearEnough" "told" "LNearEnough$Program;", .constantLong RX11 212 (-1)]
def vs_c_value : List Cond := .code yX11_value cX11_value 4 (some .long) :: (ow_c_value ++ (([.methodLink RX11 134 yX3_hasStep, .instanceMethod yX3_hasStep, .selects RX3 yX3_hasStep yX3_hasStep, .initialized RX3] : List Cond) ++ (vs_c_hasStep ++ (wsX110))))
theorem vg_c_value : vs_c_value.all goodWord = true := by decide +kernel
theorem gd_c_value_134_c_hasStep : GoodIn vs_c_value (wsV RX11 134 RX3 yX3_hasStep vs_c_hasStep) := goodIn_app (goodIn_sub (fun w h => (List.mem_cons_of_mem _ (List.mem_append_right _ (List.mem_append_left _ h)))) (by decide +kernel)) (goodIn_sub (fun w h => (List.mem_cons_of_mem _ (List.mem_append_right _ (List.mem_append_right _ (List.mem_append_left _ h))))) vg_c_hasStep)
set_option maxHeartbeats 4000000 in
set_option maxRecDepth 100000 in
theorem c_value (l : Launch) (dC : Nat → ClassId) (dI : Nat → Nat → Nat) (h0 : Nat) (tp : Nat) (td : Nat) (sh : Nat) (ch : Nat) (sw : Nat) (wk : Nat) (g1 : Nat) (g2 : Nat) (g3 : Nat) (tl : Nat) (r1 : Nat) (r2 : Nat) (r3 : Nat) (r4 : Nat) (r5 : Nat) (p0 : Int32) (p1 : Int32) (p2 : Int32) (sz : Nat) : Met l yX11_value vs_c_value ({ frames := 1, cells := 0, slots := 0, locals := 21 }) (va_Pc [.ref h0, .int p0, .int p1, .int p2] (wSt dC dI [(h0, .inr (11, [.ref tp, .int 0, .int 0, .int (-1), .ref td, .ref sh, .ref ch, .ref sw, .ref wk, .ref g1, .ref g2, .ref g3, .int 0, .int 0, .ref tl, .null, .null])), (td, .inr (3, [.ref r1, .ref r2, .ref r3, .ref r4, .ref r5, .int 0, .int 0, .int 0]))] [] sz)) (va_Ql (fun (r : Int64) (_ : Unit) => r = (-1)) (fun (u : Unit) => wEn dC dI (va_A [(h0, .inr (11, [.ref tp, .int 0, .int 0, .int (-1), .ref td, .ref sh, .ref ch, .ref sw, .ref wk, .ref g1, .ref g2, .ref g3, .int 0, .int 0, .ref tl, .null, .null])), (td, .inr (3, [.ref r1, .ref r2, .ref r3, .ref r4, .ref r5, .int 0, .int 0, .int 0]))] sz) [] []) (va_A [(h0, .inr (11, [.ref tp, .int 0, .int 0, .int (-1), .ref td, .ref sh, .ref ch, .ref sw, .ref wk, .ref g1, .ref g2, .ref g3, .int 0, .int 0, .ref tl, .null, .null])), (td, .inr (3, [.ref r1, .ref r2, .ref r3, .ref r4, .ref r5, .int 0, .int 0, .int 0]))] sz)) 0 0 (va_A [(h0, .inr (11, [.ref tp, .int 0, .int 0, .int (-1), .ref td, .ref sh, .ref ch, .ref sw, .ref wk, .ref g1, .ref g2, .ref g3, .int 0, .int 0, .ref tl, .null, .null])), (td, .inr (3, [.ref r1, .ref r2, .ref r3, .ref r4, .ref r5, .int 0, .int 0, .int 0]))] sz) := by
  refine Met.ofW (cc := cX11_value) (maxL := 4) (ret := (some .long)) (by decide) rfl ?_
  intro p e s m args below meth c s₁ B hml hv
  obtain ⟨rfl, hsz, hP, hK, hD0, hE⟩ := hv
  have hx := B.exec
  have hb := B.bytes
  have hr := B.returns
  have hts := atoms_spec (ws := vs_c_value) B.pre
  have hown : s.vm.findClass RX11 = some m.cls := findClass_of_methodNamed B.named
  have hlocks := B.notSynchronized
  subst hsz
  have hD := hD0.self (sz := s.heap.size)
  generalize hAe : va_A [(h0, .inr (11, [.ref tp, .int 0, .int 0, .int (-1), .ref td, .ref sh, .ref ch, .ref sw, .ref wk, .ref g1, .ref g2, .ref g3, .int 0, .int 0, .ref tl, .null, .null])), (td, .inr (3, [.ref r1, .ref r2, .ref r3, .ref r4, .ref r5, .int 0, .int 0, .int 0]))] s.heap.size = A at hD ⊢
  have hA : ∀ q : Nat, s.heap.size ≤ q → A q := fun q h => by rw [← hAe]; exact Or.inr h
  have hl := lv_entry ([.ref h0, .int p0, .int p1, .int p2]) (n := 4) (Nat.le_of_ble_eq_true rfl)
  rw [lg_entry_eq]
  generalize (lg_sl ([.ref h0, .int p0, .int p1, .int p2]) ++ List.replicate (4 - (lg_sl ([.ref h0, .int p0, .int p1, .int p2])).length) Slot.unset).toArray = ls at hl ⊢
  have hl : lv_has ls 4 [(0, .ref h0), (1, .int p0), (2, .int p1), (3, .int p2)] := hl
  refine zH (A := A) (ws := [(h0, .inr (11, [.ref tp, .int 0, .int 0, .int (-1), .ref td, .ref sh, .ref ch, .ref sw, .ref wk, .ref g1, .ref g2, .ref g3, .int 0, .int 0, .ref tl, .null, .null])), (td, .inr (3, [.ref r1, .ref r2, .ref r3, .ref r4, .ref r5, .int 0, .int 0, .int 0]))]) (fun H hP hS => ?_) hP
  have ho := fun w (h : w ∈ ow_c_value) => hts w (List.mem_cons_of_mem _ (List.mem_append_left _ h))
  have hin11 : ∀ w ∈ u_ws RX11 TX11 17, w ∈ vs_c_value := fun w h => (List.mem_cons_of_mem _ (List.mem_append_right _ (List.mem_append_right _ (List.mem_append_right _ h))))
  refine lv_aload_n hx hb dX11_value_0 rfl (lv_at hl 0 rfl) ?_
  refine va_get (D := (dC, dI)) (ci := 11) (v := .ref td) (C := RX11) (T := TX11) (N := 17) hx hb hts hin11 hown hK hP 0 rfl rfl 4 (by decide) (ho (.fieldLink RX11 26 "NearEnough" "told" "LNearEnough$Program;") (List.mem_of_getElem? (i := 0) rfl)) (fun _ h9 => h9) rfl dX11_value_1 ?_
  refine lv_iload_n hx hb dX11_value_4 rfl (lv_at hl 1 rfl) ?_
  have hPc := hP.sub (ws' := [(td, .inr (3, [.ref r1, .ref r2, .ref r3, .ref r4, .ref r5, .int 0, .int 0, .int 0]))]) [1] rfl
  have hDc := hD.sub (ws' := [(td, .inr (3, [.ref r1, .ref r2, .ref r3, .ref r4, .ref r5, .int 0, .int 0, .int 0]))]) [1] (by decide) rfl
  have hKc := hK.sub (tys' := []) [] rfl
  refine zz_i (wr := [(h0, .inr (11, [.ref tp, .int 0, .int 0, .int (-1), .ref td, .ref sh, .ref ch, .ref sw, .ref wk, .ref g1, .ref g2, .ref g3, .int 0, .int 0, .ref tl, .null, .null]))]) (va_runV (As := [.int p0]) (rest := []) ⟨hx, hb, hml, hown, hts⟩ (c_hasStep l dC dI td r1 r2 r3 r4 r5 p0 H.size) (cwV 1 hts gd_c_value_134_c_hasStep rfl rfl rfl (by decide +kernel) ⟨Nat.le_of_ble_eq_true rfl, Nat.le_of_ble_eq_true rfl⟩) (preV hPc hKc hDc hE (ci := 3) (q0 := 0) rfl rfl) rfl rfl hl.1 rfl (lv_room (Nat.le_of_ble_eq_true rfl)) dX11_value_5 ⟨Nat.le_of_ble_eq_true rfl, Nat.le_of_ble_eq_true rfl⟩) hK hP hD hS hA [1] [0] rfl rfl (by decide) (by decide) (fun u H locs hK hP hD hS => ?_)
  have hP : va_P (dC, dI) vwCl [(h0, .inr (11, [.ref tp, .int 0, .int 0, .int (-1), .ref td, .ref sh, .ref ch, .ref sw, .ref wk, .ref g1, .ref g2, .ref g3, .int 0, .int 0, .ref tl, .null, .null])), (td, .inr (3, [.ref r1, .ref r2, .ref r3, .ref r4, .ref r5, .int 0, .int 0, .int 0]))] H := hP
  have hD : va_D A [(h0, .inr (11, [.ref tp, .int 0, .int 0, .int (-1), .ref td, .ref sh, .ref ch, .ref sw, .ref wk, .ref g1, .ref g2, .ref g3, .int 0, .int 0, .ref tl, .null, .null])), (td, .inr (3, [.ref r1, .ref r2, .ref r3, .ref r4, .ref r5, .int 0, .int 0, .int 0]))] := hD
  have hK : va_K (dC, dI) vwCl [] s := hK
  refine W.widen (k := 0) (n := 0) (Nat.le_of_ble_eq_true rfl) (Nat.le_of_ble_eq_true rfl) ?_
  refine lv_if_eq (tgt := 30) hx hb dX11_value_8 (by decide) (fun _ => ?_) (fun cc => absurd (by decide) cc)
  refine lv_ldc2 (v := (-1)) hx hb hown (ho (.constantLong RX11 212 (-1)) (List.mem_of_getElem? (i := 1) rfl)) dX11_value_30 ?_
  refine W.widen (k := 0) (n := 0) (Nat.le_of_ble_eq_true rfl) (Nat.le_of_ble_eq_true rfl) ?_
  exact W.lret (v := (-1)) hx hb hr (fun t ht hW => ⟨⟨(-1), (), rfl, rfl, wEn_of (hP.sub [] rfl) (hK.sub [] rfl) (hD.sub [] (by decide) rfl) ht hW⟩, hS.F ht⟩) hS.2.2 dX11_value_33
def ow_c_error : List Cond := [.fieldLink RX11 26 "NearEnough" "told" "LNearEnough$Program;", .constantLong RX11 221 (-1000000000000)]
def vs_c_error : List Cond := .code yX11_error cX11_error 4 (some .long) :: (ow_c_error ++ (([.methodLink RX11 134 yX3_hasStep, .instanceMethod yX3_hasStep, .selects RX3 yX3_hasStep yX3_hasStep, .initialized RX3] : List Cond) ++ (vs_c_hasStep ++ (wsX110))))
theorem vg_c_error : vs_c_error.all goodWord = true := by decide +kernel
theorem gd_c_error_134_c_hasStep : GoodIn vs_c_error (wsV RX11 134 RX3 yX3_hasStep vs_c_hasStep) := goodIn_app (goodIn_sub (fun w h => (List.mem_cons_of_mem _ (List.mem_append_right _ (List.mem_append_left _ h)))) (by decide +kernel)) (goodIn_sub (fun w h => (List.mem_cons_of_mem _ (List.mem_append_right _ (List.mem_append_right _ (List.mem_append_left _ h))))) vg_c_hasStep)
set_option maxHeartbeats 4000000 in
set_option maxRecDepth 100000 in
theorem c_error (l : Launch) (dC : Nat → ClassId) (dI : Nat → Nat → Nat) (h0 : Nat) (tp : Nat) (td : Nat) (sh : Nat) (ch : Nat) (sw : Nat) (wk : Nat) (g1 : Nat) (g2 : Nat) (g3 : Nat) (tl : Nat) (r1 : Nat) (r2 : Nat) (r3 : Nat) (r4 : Nat) (r5 : Nat) (p0 : Int32) (p1 : Int32) (p2 : Int32) (sz : Nat) : Met l yX11_error vs_c_error ({ frames := 1, cells := 0, slots := 0, locals := 21 }) (va_Pc [.ref h0, .int p0, .int p1, .int p2] (wSt dC dI [(h0, .inr (11, [.ref tp, .int 0, .int 0, .int (-1), .ref td, .ref sh, .ref ch, .ref sw, .ref wk, .ref g1, .ref g2, .ref g3, .int 0, .int 0, .ref tl, .null, .null])), (td, .inr (3, [.ref r1, .ref r2, .ref r3, .ref r4, .ref r5, .int 0, .int 0, .int 0]))] [] sz)) (va_Ql (fun (r : Int64) (_ : Unit) => r = (-1000000000000)) (fun (u : Unit) => wEn dC dI (va_A [(h0, .inr (11, [.ref tp, .int 0, .int 0, .int (-1), .ref td, .ref sh, .ref ch, .ref sw, .ref wk, .ref g1, .ref g2, .ref g3, .int 0, .int 0, .ref tl, .null, .null])), (td, .inr (3, [.ref r1, .ref r2, .ref r3, .ref r4, .ref r5, .int 0, .int 0, .int 0]))] sz) [] []) (va_A [(h0, .inr (11, [.ref tp, .int 0, .int 0, .int (-1), .ref td, .ref sh, .ref ch, .ref sw, .ref wk, .ref g1, .ref g2, .ref g3, .int 0, .int 0, .ref tl, .null, .null])), (td, .inr (3, [.ref r1, .ref r2, .ref r3, .ref r4, .ref r5, .int 0, .int 0, .int 0]))] sz)) 0 0 (va_A [(h0, .inr (11, [.ref tp, .int 0, .int 0, .int (-1), .ref td, .ref sh, .ref ch, .ref sw, .ref wk, .ref g1, .ref g2, .ref g3, .int 0, .int 0, .ref tl, .null, .null])), (td, .inr (3, [.ref r1, .ref r2, .ref r3, .ref r4, .ref r5, .int 0, .int 0, .int 0]))] sz) := by
  refine Met.ofW (cc := cX11_error) (maxL := 4) (ret := (some .long)) (by decide) rfl ?_
  intro p e s m args below meth c s₁ B hml hv
  obtain ⟨rfl, hsz, hP, hK, hD0, hE⟩ := hv
  have hx := B.exec
  have hb := B.bytes
  have hr := B.returns
  have hts := atoms_spec (ws := vs_c_error) B.pre
  have hown : s.vm.findClass RX11 = some m.cls := findClass_of_methodNamed B.named
  have hlocks := B.notSynchronized
  subst hsz
  have hD := hD0.self (sz := s.heap.size)
  generalize hAe : va_A [(h0, .inr (11, [.ref tp, .int 0, .int 0, .int (-1), .ref td, .ref sh, .ref ch, .ref sw, .ref wk, .ref g1, .ref g2, .ref g3, .int 0, .int 0, .ref tl, .null, .null])), (td, .inr (3, [.ref r1, .ref r2, .ref r3, .ref r4, .ref r5, .int 0, .int 0, .int 0]))] s.heap.size = A at hD ⊢
  have hA : ∀ q : Nat, s.heap.size ≤ q → A q := fun q h => by rw [← hAe]; exact Or.inr h
  have hl := lv_entry ([.ref h0, .int p0, .int p1, .int p2]) (n := 4) (Nat.le_of_ble_eq_true rfl)
  rw [lg_entry_eq]
  generalize (lg_sl ([.ref h0, .int p0, .int p1, .int p2]) ++ List.replicate (4 - (lg_sl ([.ref h0, .int p0, .int p1, .int p2])).length) Slot.unset).toArray = ls at hl ⊢
  have hl : lv_has ls 4 [(0, .ref h0), (1, .int p0), (2, .int p1), (3, .int p2)] := hl
  refine zH (A := A) (ws := [(h0, .inr (11, [.ref tp, .int 0, .int 0, .int (-1), .ref td, .ref sh, .ref ch, .ref sw, .ref wk, .ref g1, .ref g2, .ref g3, .int 0, .int 0, .ref tl, .null, .null])), (td, .inr (3, [.ref r1, .ref r2, .ref r3, .ref r4, .ref r5, .int 0, .int 0, .int 0]))]) (fun H hP hS => ?_) hP
  have ho := fun w (h : w ∈ ow_c_error) => hts w (List.mem_cons_of_mem _ (List.mem_append_left _ h))
  have hin11 : ∀ w ∈ u_ws RX11 TX11 17, w ∈ vs_c_error := fun w h => (List.mem_cons_of_mem _ (List.mem_append_right _ (List.mem_append_right _ (List.mem_append_right _ h))))
  refine lv_aload_n hx hb dX11_error_0 rfl (lv_at hl 0 rfl) ?_
  refine va_get (D := (dC, dI)) (ci := 11) (v := .ref td) (C := RX11) (T := TX11) (N := 17) hx hb hts hin11 hown hK hP 0 rfl rfl 4 (by decide) (ho (.fieldLink RX11 26 "NearEnough" "told" "LNearEnough$Program;") (List.mem_of_getElem? (i := 0) rfl)) (fun _ h9 => h9) rfl dX11_error_1 ?_
  refine lv_iload_n hx hb dX11_error_4 rfl (lv_at hl 1 rfl) ?_
  have hPc := hP.sub (ws' := [(td, .inr (3, [.ref r1, .ref r2, .ref r3, .ref r4, .ref r5, .int 0, .int 0, .int 0]))]) [1] rfl
  have hDc := hD.sub (ws' := [(td, .inr (3, [.ref r1, .ref r2, .ref r3, .ref r4, .ref r5, .int 0, .int 0, .int 0]))]) [1] (by decide) rfl
  have hKc := hK.sub (tys' := []) [] rfl
  refine zz_i (wr := [(h0, .inr (11, [.ref tp, .int 0, .int 0, .int (-1), .ref td, .ref sh, .ref ch, .ref sw, .ref wk, .ref g1, .ref g2, .ref g3, .int 0, .int 0, .ref tl, .null, .null]))]) (va_runV (As := [.int p0]) (rest := []) ⟨hx, hb, hml, hown, hts⟩ (c_hasStep l dC dI td r1 r2 r3 r4 r5 p0 H.size) (cwV 1 hts gd_c_error_134_c_hasStep rfl rfl rfl (by decide +kernel) ⟨Nat.le_of_ble_eq_true rfl, Nat.le_of_ble_eq_true rfl⟩) (preV hPc hKc hDc hE (ci := 3) (q0 := 0) rfl rfl) rfl rfl hl.1 rfl (lv_room (Nat.le_of_ble_eq_true rfl)) dX11_error_5 ⟨Nat.le_of_ble_eq_true rfl, Nat.le_of_ble_eq_true rfl⟩) hK hP hD hS hA [1] [0] rfl rfl (by decide) (by decide) (fun u H locs hK hP hD hS => ?_)
  have hP : va_P (dC, dI) vwCl [(h0, .inr (11, [.ref tp, .int 0, .int 0, .int (-1), .ref td, .ref sh, .ref ch, .ref sw, .ref wk, .ref g1, .ref g2, .ref g3, .int 0, .int 0, .ref tl, .null, .null])), (td, .inr (3, [.ref r1, .ref r2, .ref r3, .ref r4, .ref r5, .int 0, .int 0, .int 0]))] H := hP
  have hD : va_D A [(h0, .inr (11, [.ref tp, .int 0, .int 0, .int (-1), .ref td, .ref sh, .ref ch, .ref sw, .ref wk, .ref g1, .ref g2, .ref g3, .int 0, .int 0, .ref tl, .null, .null])), (td, .inr (3, [.ref r1, .ref r2, .ref r3, .ref r4, .ref r5, .int 0, .int 0, .int 0]))] := hD
  have hK : va_K (dC, dI) vwCl [] s := hK
  refine W.widen (k := 0) (n := 0) (Nat.le_of_ble_eq_true rfl) (Nat.le_of_ble_eq_true rfl) ?_
  refine lv_if_eq (tgt := 19) hx hb dX11_error_8 (by decide) (fun _ => ?_) (fun cc => absurd (by decide) cc)
  refine lv_ldc2 (v := (-1000000000000)) hx hb hown (ho (.constantLong RX11 221 (-1000000000000)) (List.mem_of_getElem? (i := 1) rfl)) dX11_error_19 ?_
  refine W.widen (k := 0) (n := 0) (Nat.le_of_ble_eq_true rfl) (Nat.le_of_ble_eq_true rfl) ?_
  exact W.lret (v := (-1000000000000)) hx hb hr (fun t ht hW => ⟨⟨(-1000000000000), (), rfl, rfl, wEn_of (hP.sub [] rfl) (hK.sub [] rfl) (hD.sub [] (by decide) rfl) ht hW⟩, hS.F ht⟩) hS.2.2 dX11_error_22
def ow_c_off : List Cond := [.fieldLink RX11 26 "NearEnough" "told" "LNearEnough$Program;", .constantLong RX11 212 (-1)]
def vs_c_off : List Cond := .code yX11_off cX11_off 3 (some .long) :: (ow_c_off ++ (([.methodLink RX11 227 yX3_hasEnd, .instanceMethod yX3_hasEnd, .selects RX3 yX3_hasEnd yX3_hasEnd, .initialized RX3] : List Cond) ++ (vs_c_hasEnd ++ (wsX110))))
theorem vg_c_off : vs_c_off.all goodWord = true := by decide +kernel
theorem gd_c_off_227_c_hasEnd : GoodIn vs_c_off (wsV RX11 227 RX3 yX3_hasEnd vs_c_hasEnd) := goodIn_app (goodIn_sub (fun w h => (List.mem_cons_of_mem _ (List.mem_append_right _ (List.mem_append_left _ h)))) (by decide +kernel)) (goodIn_sub (fun w h => (List.mem_cons_of_mem _ (List.mem_append_right _ (List.mem_append_right _ (List.mem_append_left _ h))))) vg_c_hasEnd)
set_option maxHeartbeats 4000000 in
set_option maxRecDepth 100000 in
theorem c_off (l : Launch) (dC : Nat → ClassId) (dI : Nat → Nat → Nat) (h0 : Nat) (tp : Nat) (td : Nat) (sh : Nat) (ch : Nat) (sw : Nat) (wk : Nat) (g1 : Nat) (g2 : Nat) (g3 : Nat) (tl : Nat) (r1 : Nat) (r2 : Nat) (r3 : Nat) (r4 : Nat) (r5 : Nat) (p0 : Int32) (p1 : Int32) (sz : Nat) : Met l yX11_off vs_c_off ({ frames := 1, cells := 0, slots := 0, locals := 21 }) (va_Pc [.ref h0, .int p0, .int p1] (wSt dC dI [(h0, .inr (11, [.ref tp, .int 0, .int 0, .int (-1), .ref td, .ref sh, .ref ch, .ref sw, .ref wk, .ref g1, .ref g2, .ref g3, .int 0, .int 0, .ref tl, .null, .null])), (td, .inr (3, [.ref r1, .ref r2, .ref r3, .ref r4, .ref r5, .int 0, .int 0, .int 0]))] [] sz)) (va_Ql (fun (r : Int64) (_ : Unit) => r = (-1)) (fun (u : Unit) => wEn dC dI (va_A [(h0, .inr (11, [.ref tp, .int 0, .int 0, .int (-1), .ref td, .ref sh, .ref ch, .ref sw, .ref wk, .ref g1, .ref g2, .ref g3, .int 0, .int 0, .ref tl, .null, .null])), (td, .inr (3, [.ref r1, .ref r2, .ref r3, .ref r4, .ref r5, .int 0, .int 0, .int 0]))] sz) [] []) (va_A [(h0, .inr (11, [.ref tp, .int 0, .int 0, .int (-1), .ref td, .ref sh, .ref ch, .ref sw, .ref wk, .ref g1, .ref g2, .ref g3, .int 0, .int 0, .ref tl, .null, .null])), (td, .inr (3, [.ref r1, .ref r2, .ref r3, .ref r4, .ref r5, .int 0, .int 0, .int 0]))] sz)) 0 0 (va_A [(h0, .inr (11, [.ref tp, .int 0, .int 0, .int (-1), .ref td, .ref sh, .ref ch, .ref sw, .ref wk, .ref g1, .ref g2, .ref g3, .int 0, .int 0, .ref tl, .null, .null])), (td, .inr (3, [.ref r1, .ref r2, .ref r3, .ref r4, .ref r5, .int 0, .int 0, .int 0]))] sz) := by
  refine Met.ofW (cc := cX11_off) (maxL := 3) (ret := (some .long)) (by decide) rfl ?_
  intro p e s m args below meth c s₁ B hml hv
  obtain ⟨rfl, hsz, hP, hK, hD0, hE⟩ := hv
  have hx := B.exec
  have hb := B.bytes
  have hr := B.returns
  have hts := atoms_spec (ws := vs_c_off) B.pre
  have hown : s.vm.findClass RX11 = some m.cls := findClass_of_methodNamed B.named
  have hlocks := B.notSynchronized
  subst hsz
  have hD := hD0.self (sz := s.heap.size)
  generalize hAe : va_A [(h0, .inr (11, [.ref tp, .int 0, .int 0, .int (-1), .ref td, .ref sh, .ref ch, .ref sw, .ref wk, .ref g1, .ref g2, .ref g3, .int 0, .int 0, .ref tl, .null, .null])), (td, .inr (3, [.ref r1, .ref r2, .ref r3, .ref r4, .ref r5, .int 0, .int 0, .int 0]))] s.heap.size = A at hD ⊢
  have hA : ∀ q : Nat, s.heap.size ≤ q → A q := fun q h => by rw [← hAe]; exact Or.inr h
  have hl := lv_entry ([.ref h0, .int p0, .int p1]) (n := 3) (Nat.le_of_ble_eq_true rfl)
  rw [lg_entry_eq]
  generalize (lg_sl ([.ref h0, .int p0, .int p1]) ++ List.replicate (3 - (lg_sl ([.ref h0, .int p0, .int p1])).length) Slot.unset).toArray = ls at hl ⊢
  have hl : lv_has ls 3 [(0, .ref h0), (1, .int p0), (2, .int p1)] := hl
  refine zH (A := A) (ws := [(h0, .inr (11, [.ref tp, .int 0, .int 0, .int (-1), .ref td, .ref sh, .ref ch, .ref sw, .ref wk, .ref g1, .ref g2, .ref g3, .int 0, .int 0, .ref tl, .null, .null])), (td, .inr (3, [.ref r1, .ref r2, .ref r3, .ref r4, .ref r5, .int 0, .int 0, .int 0]))]) (fun H hP hS => ?_) hP
  have ho := fun w (h : w ∈ ow_c_off) => hts w (List.mem_cons_of_mem _ (List.mem_append_left _ h))
  have hin11 : ∀ w ∈ u_ws RX11 TX11 17, w ∈ vs_c_off := fun w h => (List.mem_cons_of_mem _ (List.mem_append_right _ (List.mem_append_right _ (List.mem_append_right _ h))))
  refine lv_aload_n hx hb dX11_off_0 rfl (lv_at hl 0 rfl) ?_
  refine va_get (D := (dC, dI)) (ci := 11) (v := .ref td) (C := RX11) (T := TX11) (N := 17) hx hb hts hin11 hown hK hP 0 rfl rfl 4 (by decide) (ho (.fieldLink RX11 26 "NearEnough" "told" "LNearEnough$Program;") (List.mem_of_getElem? (i := 0) rfl)) (fun _ h9 => h9) rfl dX11_off_1 ?_
  refine lv_iload_n hx hb dX11_off_4 rfl (lv_at hl 1 rfl) ?_
  have hPc := hP.sub (ws' := [(td, .inr (3, [.ref r1, .ref r2, .ref r3, .ref r4, .ref r5, .int 0, .int 0, .int 0]))]) [1] rfl
  have hDc := hD.sub (ws' := [(td, .inr (3, [.ref r1, .ref r2, .ref r3, .ref r4, .ref r5, .int 0, .int 0, .int 0]))]) [1] (by decide) rfl
  have hKc := hK.sub (tys' := []) [] rfl
  refine zz_i (wr := [(h0, .inr (11, [.ref tp, .int 0, .int 0, .int (-1), .ref td, .ref sh, .ref ch, .ref sw, .ref wk, .ref g1, .ref g2, .ref g3, .int 0, .int 0, .ref tl, .null, .null]))]) (va_runV (As := [.int p0]) (rest := []) ⟨hx, hb, hml, hown, hts⟩ (c_hasEnd l dC dI td r1 r2 r3 r4 r5 p0 H.size) (cwV 1 hts gd_c_off_227_c_hasEnd rfl rfl rfl (by decide +kernel) ⟨Nat.le_of_ble_eq_true rfl, Nat.le_of_ble_eq_true rfl⟩) (preV hPc hKc hDc hE (ci := 3) (q0 := 0) rfl rfl) rfl rfl hl.1 rfl (lv_room (Nat.le_of_ble_eq_true rfl)) dX11_off_5 ⟨Nat.le_of_ble_eq_true rfl, Nat.le_of_ble_eq_true rfl⟩) hK hP hD hS hA [1] [0] rfl rfl (by decide) (by decide) (fun u H locs hK hP hD hS => ?_)
  have hP : va_P (dC, dI) vwCl [(h0, .inr (11, [.ref tp, .int 0, .int 0, .int (-1), .ref td, .ref sh, .ref ch, .ref sw, .ref wk, .ref g1, .ref g2, .ref g3, .int 0, .int 0, .ref tl, .null, .null])), (td, .inr (3, [.ref r1, .ref r2, .ref r3, .ref r4, .ref r5, .int 0, .int 0, .int 0]))] H := hP
  have hD : va_D A [(h0, .inr (11, [.ref tp, .int 0, .int 0, .int (-1), .ref td, .ref sh, .ref ch, .ref sw, .ref wk, .ref g1, .ref g2, .ref g3, .int 0, .int 0, .ref tl, .null, .null])), (td, .inr (3, [.ref r1, .ref r2, .ref r3, .ref r4, .ref r5, .int 0, .int 0, .int 0]))] := hD
  have hK : va_K (dC, dI) vwCl [] s := hK
  refine W.widen (k := 0) (n := 0) (Nat.le_of_ble_eq_true rfl) (Nat.le_of_ble_eq_true rfl) ?_
  refine lv_if_eq (tgt := 19) hx hb dX11_off_8 (by decide) (fun _ => ?_) (fun cc => absurd (by decide) cc)
  refine lv_ldc2 (v := (-1)) hx hb hown (ho (.constantLong RX11 212 (-1)) (List.mem_of_getElem? (i := 1) rfl)) dX11_off_19 ?_
  refine W.widen (k := 0) (n := 0) (Nat.le_of_ble_eq_true rfl) (Nat.le_of_ble_eq_true rfl) ?_
  exact W.lret (v := (-1)) hx hb hr (fun t ht hW => ⟨⟨(-1), (), rfl, rfl, wEn_of (hP.sub [] rfl) (hK.sub [] rfl) (hD.sub [] (by decide) rfl) ht hW⟩, hS.F ht⟩) hS.2.2 dX11_off_22
def ow_c_barred : List Cond := [.fieldLink RX11 40 "NearEnough" "changes" "LNearEnough$Changes;", .fieldLink RX11 49 "NearEnough" "shown" "LNearEnough$Shown;"]
def vs_c_barred : List Cond := .code yX11_barred cX11_barred 2 (some .int) :: (ow_c_barred ++ (([.methodLink RX11 202 yX0_take, .instanceMethod yX0_take, .selects RX0 yX0_take yX0_take, .initialized RX0] : List Cond) ++ (vs_c_take ++ (([.methodLink RX11 205 yX8_show, .instanceMethod yX8_show, .selects RX8 yX8_show yX8_show, .initialized RX8] : List Cond) ++ (vs_c_show ++ (wsX110))))))
theorem vg_c_barred : vs_c_barred.all goodWord = true := by decide +kernel
theorem gd_c_barred_202_c_take : GoodIn vs_c_barred (wsV RX11 202 RX0 yX0_take vs_c_take) := goodIn_app (goodIn_sub (fun w h => (List.mem_cons_of_mem _ (List.mem_append_right _ (List.mem_append_left _ h)))) (by decide +kernel)) (goodIn_sub (fun w h => (List.mem_cons_of_mem _ (List.mem_append_right _ (List.mem_append_right _ (List.mem_append_left _ h))))) vg_c_take)
theorem gd_c_barred_205_c_show : GoodIn vs_c_barred (wsV RX11 205 RX8 yX8_show vs_c_show) := goodIn_app (goodIn_sub (fun w h => (List.mem_cons_of_mem _ (List.mem_append_right _ (List.mem_append_right _ (List.mem_append_right _ (List.mem_append_left _ h)))))) (by decide +kernel)) (goodIn_sub (fun w h => (List.mem_cons_of_mem _ (List.mem_append_right _ (List.mem_append_right _ (List.mem_append_right _ (List.mem_append_right _ (List.mem_append_left _ h))))))) vg_c_show)
set_option maxHeartbeats 4000000 in
set_option maxRecDepth 100000 in
theorem c_barred (l : Launch) (dC : Nat → ClassId) (dI : Nat → Nat → Nat) (h0 : Nat) (tp : Nat) (td : Nat) (sh : Nat) (ch : Nat) (sw : Nat) (wk : Nat) (g1 : Nat) (g2 : Nat) (g3 : Nat) (tl : Nat) (r1 : Nat) (r2 : Nat) (r3 : Nat) (r4 : Nat) (r5 : Nat) (w1 : Nat) (w2 : Nat) (a1 : Nat) (a2 : Nat) (a3 : Nat) (a4 : Nat) (a5 : Nat) (kc : ClassId) (p0 : Int32) (sz : Nat) : Met l yX11_barred vs_c_barred ({ frames := 2, cells := 0, slots := 0, locals := 45 }) (va_Pc [.ref h0, .int p0] (wSt dC dI [(h0, .inr (11, [.ref tp, .int 0, .int 0, .int (-1), .ref td, .ref sh, .ref ch, .ref sw, .ref wk, .ref g1, .ref g2, .ref g3, .int 0, .int 0, .ref tl, .null, .null])), (td, .inr (3, [.ref r1, .ref r2, .ref r3, .ref r4, .ref r5, .int 0, .int 0, .int 0])), (sw, .inr (8, [.ref td, .ref ch, .ref w1, .ref w2, .long 0, .long 0, .int 0, .int 0, .int 0])), (ch, .inr (0, [.ref a1, .ref a2, .ref a3, .ref a4, .ref a5, .int 0, .int 0])), (a5, .inl (kc, 12, .inl (fun _ => 0)))] [(kc, .int)] sz)) (va_Qi (fun (r : Int32) (_ : Unit) => r = if tk p0 = 0 then -2 else -1) (fun (u : Unit) => wEn dC dI (va_A [(h0, .inr (11, [.ref tp, .int 0, .int 0, .int (-1), .ref td, .ref sh, .ref ch, .ref sw, .ref wk, .ref g1, .ref g2, .ref g3, .int 0, .int 0, .ref tl, .null, .null])), (td, .inr (3, [.ref r1, .ref r2, .ref r3, .ref r4, .ref r5, .int 0, .int 0, .int 0])), (sw, .inr (8, [.ref td, .ref ch, .ref w1, .ref w2, .long 0, .long 0, .int 0, .int 0, .int 0])), (ch, .inr (0, [.ref a1, .ref a2, .ref a3, .ref a4, .ref a5, .int 0, .int 0])), (a5, .inl (kc, 12, .inl (fun _ => 0)))] sz) [] []) (va_A [(h0, .inr (11, [.ref tp, .int 0, .int 0, .int (-1), .ref td, .ref sh, .ref ch, .ref sw, .ref wk, .ref g1, .ref g2, .ref g3, .int 0, .int 0, .ref tl, .null, .null])), (td, .inr (3, [.ref r1, .ref r2, .ref r3, .ref r4, .ref r5, .int 0, .int 0, .int 0])), (sw, .inr (8, [.ref td, .ref ch, .ref w1, .ref w2, .long 0, .long 0, .int 0, .int 0, .int 0])), (ch, .inr (0, [.ref a1, .ref a2, .ref a3, .ref a4, .ref a5, .int 0, .int 0])), (a5, .inl (kc, 12, .inl (fun _ => 0)))] sz)) 0 0 (va_A [(h0, .inr (11, [.ref tp, .int 0, .int 0, .int (-1), .ref td, .ref sh, .ref ch, .ref sw, .ref wk, .ref g1, .ref g2, .ref g3, .int 0, .int 0, .ref tl, .null, .null])), (td, .inr (3, [.ref r1, .ref r2, .ref r3, .ref r4, .ref r5, .int 0, .int 0, .int 0])), (sw, .inr (8, [.ref td, .ref ch, .ref w1, .ref w2, .long 0, .long 0, .int 0, .int 0, .int 0])), (ch, .inr (0, [.ref a1, .ref a2, .ref a3, .ref a4, .ref a5, .int 0, .int 0])), (a5, .inl (kc, 12, .inl (fun _ => 0)))] sz) := by
  refine Met.ofW (cc := cX11_barred) (maxL := 2) (ret := (some .int)) (by decide) rfl ?_
  intro p e s m args below meth c s₁ B hml hv
  obtain ⟨rfl, hsz, hP, hK, hD0, hE⟩ := hv
  have hx := B.exec
  have hb := B.bytes
  have hr := B.returns
  have hts := atoms_spec (ws := vs_c_barred) B.pre
  have hown : s.vm.findClass RX11 = some m.cls := findClass_of_methodNamed B.named
  have hlocks := B.notSynchronized
  subst hsz
  have hD := hD0.self (sz := s.heap.size)
  generalize hAe : va_A [(h0, .inr (11, [.ref tp, .int 0, .int 0, .int (-1), .ref td, .ref sh, .ref ch, .ref sw, .ref wk, .ref g1, .ref g2, .ref g3, .int 0, .int 0, .ref tl, .null, .null])), (td, .inr (3, [.ref r1, .ref r2, .ref r3, .ref r4, .ref r5, .int 0, .int 0, .int 0])), (sw, .inr (8, [.ref td, .ref ch, .ref w1, .ref w2, .long 0, .long 0, .int 0, .int 0, .int 0])), (ch, .inr (0, [.ref a1, .ref a2, .ref a3, .ref a4, .ref a5, .int 0, .int 0])), (a5, .inl (kc, 12, .inl (fun _ => 0)))] s.heap.size = A at hD ⊢
  have hA : ∀ q : Nat, s.heap.size ≤ q → A q := fun q h => by rw [← hAe]; exact Or.inr h
  have hl := lv_entry ([.ref h0, .int p0]) (n := 2) (Nat.le_of_ble_eq_true rfl)
  rw [lg_entry_eq]
  generalize (lg_sl ([.ref h0, .int p0]) ++ List.replicate (2 - (lg_sl ([.ref h0, .int p0])).length) Slot.unset).toArray = ls at hl ⊢
  have hl : lv_has ls 2 [(0, .ref h0), (1, .int p0)] := hl
  refine zH (A := A) (ws := [(h0, .inr (11, [.ref tp, .int 0, .int 0, .int (-1), .ref td, .ref sh, .ref ch, .ref sw, .ref wk, .ref g1, .ref g2, .ref g3, .int 0, .int 0, .ref tl, .null, .null])), (td, .inr (3, [.ref r1, .ref r2, .ref r3, .ref r4, .ref r5, .int 0, .int 0, .int 0])), (sw, .inr (8, [.ref td, .ref ch, .ref w1, .ref w2, .long 0, .long 0, .int 0, .int 0, .int 0])), (ch, .inr (0, [.ref a1, .ref a2, .ref a3, .ref a4, .ref a5, .int 0, .int 0])), (a5, .inl (kc, 12, .inl (fun _ => 0)))]) (fun H hP hS => ?_) hP
  have ho := fun w (h : w ∈ ow_c_barred) => hts w (List.mem_cons_of_mem _ (List.mem_append_left _ h))
  have hin11 : ∀ w ∈ u_ws RX11 TX11 17, w ∈ vs_c_barred := fun w h => (List.mem_cons_of_mem _ (List.mem_append_right _ (List.mem_append_right _ (List.mem_append_right _ (List.mem_append_right _ (List.mem_append_right _ h))))))
  refine lv_aload_n hx hb dX11_barred_0 rfl (lv_at hl 0 rfl) ?_
  refine va_get (D := (dC, dI)) (ci := 11) (v := .ref ch) (C := RX11) (T := TX11) (N := 17) hx hb hts hin11 hown hK hP 0 rfl rfl 6 (by decide) (ho (.fieldLink RX11 40 "NearEnough" "changes" "LNearEnough$Changes;") (List.mem_of_getElem? (i := 0) rfl)) (fun _ h9 => h9) rfl dX11_barred_1 ?_
  refine lv_iload_n hx hb dX11_barred_4 rfl (lv_at hl 1 rfl) ?_
  have hPc := hP.sub (ws' := [(ch, .inr (0, [.ref a1, .ref a2, .ref a3, .ref a4, .ref a5, .int 0, .int 0])), (a5, .inl (kc, 12, .inl (fun _ => 0)))]) [3, 4] rfl
  have hDc := hD.sub (ws' := [(ch, .inr (0, [.ref a1, .ref a2, .ref a3, .ref a4, .ref a5, .int 0, .int 0])), (a5, .inl (kc, 12, .inl (fun _ => 0)))]) [3, 4] (by decide) rfl
  have hKc := hK.sub (tys' := [(kc, .int)]) [0] rfl
  refine zz_i (wr := [(h0, .inr (11, [.ref tp, .int 0, .int 0, .int (-1), .ref td, .ref sh, .ref ch, .ref sw, .ref wk, .ref g1, .ref g2, .ref g3, .int 0, .int 0, .ref tl, .null, .null])), (td, .inr (3, [.ref r1, .ref r2, .ref r3, .ref r4, .ref r5, .int 0, .int 0, .int 0])), (sw, .inr (8, [.ref td, .ref ch, .ref w1, .ref w2, .long 0, .long 0, .int 0, .int 0, .int 0]))]) (va_runV (As := [.int p0]) (rest := []) ⟨hx, hb, hml, hown, hts⟩ (c_take l dC dI ch a1 a2 a3 a4 a5 kc (fun _ => 0) p0 0 H.size) (cwV 1 hts gd_c_barred_202_c_take rfl rfl rfl (by decide +kernel) ⟨Nat.le_of_ble_eq_true rfl, Nat.le_of_ble_eq_true rfl⟩) (preV hPc hKc hDc hE (ci := 0) (q0 := 0) rfl rfl) rfl rfl hl.1 rfl (lv_room (Nat.le_of_ble_eq_true rfl)) dX11_barred_5 ⟨Nat.le_of_ble_eq_true rfl, Nat.le_of_ble_eq_true rfl⟩) hK hP hD hS hA [3, 4] [0, 1, 2] rfl rfl (by decide) (by decide) (fun u H locs hK hP hD hS => ?_)
  obtain ⟨b1, f2⟩ := u
  have hP : va_P (dC, dI) vwCl [(h0, .inr (11, [.ref tp, .int 0, .int 0, .int (-1), .ref td, .ref sh, .ref ch, .ref sw, .ref wk, .ref g1, .ref g2, .ref g3, .int 0, .int 0, .ref tl, .null, .null])), (td, .inr (3, [.ref r1, .ref r2, .ref r3, .ref r4, .ref r5, .int 0, .int 0, .int 0])), (sw, .inr (8, [.ref td, .ref ch, .ref w1, .ref w2, .long 0, .long 0, .int 0, .int 0, .int 0])), (ch, .inr (0, [.ref a1, .ref a2, .ref a3, .ref a4, .ref a5, .int 0, .int b1])), (a5, .inl (kc, 12, .inl f2))] H := hP
  have hD : va_D A [(h0, .inr (11, [.ref tp, .int 0, .int 0, .int (-1), .ref td, .ref sh, .ref ch, .ref sw, .ref wk, .ref g1, .ref g2, .ref g3, .int 0, .int 0, .ref tl, .null, .null])), (td, .inr (3, [.ref r1, .ref r2, .ref r3, .ref r4, .ref r5, .int 0, .int 0, .int 0])), (sw, .inr (8, [.ref td, .ref ch, .ref w1, .ref w2, .long 0, .long 0, .int 0, .int 0, .int 0])), (ch, .inr (0, [.ref a1, .ref a2, .ref a3, .ref a4, .ref a5, .int 0, .int b1])), (a5, .inl (kc, 12, .inl f2))] := hD
  have hK : va_K (dC, dI) vwCl [(kc, .int)] s := hK
  refine W.widen (k := 0) (n := 0) (Nat.le_of_ble_eq_true rfl) (Nat.le_of_ble_eq_true rfl) ?_
  refine lv_if_eq (tgt := 22) hx hb dX11_barred_8 (by decide) (fun c_8 => ?_) (fun c_8 => ?_)
  · refine lv_bipush (v := (-2)) hx hb dX11_barred_22 (by decide) ?_
    refine W.widen (k := 0) (n := 0) (Nat.le_of_ble_eq_true rfl) (Nat.le_of_ble_eq_true rfl) ?_
    exact W.iret (v := (-2)) hx hb hr (fun t ht hW => ⟨⟨(-2), (), rfl, (by first | exact (if_pos (Classical.byContradiction c_8)).symm | exact (if_neg c_8).symm | exact (if_pos c_8).symm), wEn_of (hP.sub [] rfl) (hK.sub [] rfl) (hD.sub [] (by decide) rfl) ht hW⟩, hS.F ht⟩) hS.2.2 dX11_barred_24
  · refine lv_aload_n hx hb dX11_barred_11 rfl (lv_at hl 0 rfl) ?_
    refine va_get (D := (dC, dI)) (ci := 11) (v := .ref sw) (C := RX11) (T := TX11) (N := 17) hx hb hts hin11 hown hK hP 0 rfl rfl 7 (by decide) (ho (.fieldLink RX11 49 "NearEnough" "shown" "LNearEnough$Shown;") (List.mem_of_getElem? (i := 1) rfl)) (fun _ h9 => h9) rfl dX11_barred_12 ?_
    refine lv_iconst (v := 0) hx hb dX11_barred_15 (by decide) ?_
    have hPc := hP.sub (ws' := [(sw, .inr (8, [.ref td, .ref ch, .ref w1, .ref w2, .long 0, .long 0, .int 0, .int 0, .int 0])), (td, .inr (3, [.ref r1, .ref r2, .ref r3, .ref r4, .ref r5, .int 0, .int 0, .int 0]))]) [2, 1] rfl
    have hDc := hD.sub (ws' := [(sw, .inr (8, [.ref td, .ref ch, .ref w1, .ref w2, .long 0, .long 0, .int 0, .int 0, .int 0])), (td, .inr (3, [.ref r1, .ref r2, .ref r3, .ref r4, .ref r5, .int 0, .int 0, .int 0]))]) [2, 1] (by decide) rfl
    have hKc := hK.sub (tys' := []) [] rfl
    refine zz_i (wr := [(h0, .inr (11, [.ref tp, .int 0, .int 0, .int (-1), .ref td, .ref sh, .ref ch, .ref sw, .ref wk, .ref g1, .ref g2, .ref g3, .int 0, .int 0, .ref tl, .null, .null])), (ch, .inr (0, [.ref a1, .ref a2, .ref a3, .ref a4, .ref a5, .int 0, .int b1])), (a5, .inl (kc, 12, .inl f2))]) (va_runV (As := [.int 0]) (rest := []) ⟨hx, hb, hml, hown, hts⟩ (c_show l dC dI sw ch w1 w2 td r1 r2 r3 r4 r5 0 0 0 H.size) (cwV 1 hts gd_c_barred_205_c_show rfl rfl rfl (by decide +kernel) ⟨Nat.le_of_ble_eq_true rfl, Nat.le_of_ble_eq_true rfl⟩) (preV hPc hKc hDc hE (ci := 8) (q0 := 0) rfl rfl) rfl rfl hl.1 rfl (lv_room (Nat.le_of_ble_eq_true rfl)) dX11_barred_16 ⟨Nat.le_of_ble_eq_true rfl, Nat.le_of_ble_eq_true rfl⟩) hK hP hD hS hA [2, 1] [0, 3, 4] rfl rfl (by decide) (by decide) (fun u H locs hK hP hD hS => ?_)
    have hP : va_P (dC, dI) vwCl [(h0, .inr (11, [.ref tp, .int 0, .int 0, .int (-1), .ref td, .ref sh, .ref ch, .ref sw, .ref wk, .ref g1, .ref g2, .ref g3, .int 0, .int 0, .ref tl, .null, .null])), (ch, .inr (0, [.ref a1, .ref a2, .ref a3, .ref a4, .ref a5, .int 0, .int b1])), (a5, .inl (kc, 12, .inl f2)), (sw, .inr (8, [.ref td, .ref ch, .ref w1, .ref w2, .long 0, .long 0, .int 0, .int 0, .int 0])), (td, .inr (3, [.ref r1, .ref r2, .ref r3, .ref r4, .ref r5, .int 0, .int 0, .int 0]))] H := hP
    have hD : va_D A [(h0, .inr (11, [.ref tp, .int 0, .int 0, .int (-1), .ref td, .ref sh, .ref ch, .ref sw, .ref wk, .ref g1, .ref g2, .ref g3, .int 0, .int 0, .ref tl, .null, .null])), (ch, .inr (0, [.ref a1, .ref a2, .ref a3, .ref a4, .ref a5, .int 0, .int b1])), (a5, .inl (kc, 12, .inl f2)), (sw, .inr (8, [.ref td, .ref ch, .ref w1, .ref w2, .long 0, .long 0, .int 0, .int 0, .int 0])), (td, .inr (3, [.ref r1, .ref r2, .ref r3, .ref r4, .ref r5, .int 0, .int 0, .int 0]))] := hD
    have hK : va_K (dC, dI) vwCl [(kc, .int)] s := hK
    refine W.widen (k := 0) (n := 0) (Nat.le_of_ble_eq_true rfl) (Nat.le_of_ble_eq_true rfl) ?_
    refine lv_goto (tgt := 24) hx hb dX11_barred_19 (by decide) ?_
    refine W.widen (k := 0) (n := 0) (Nat.le_of_ble_eq_true rfl) (Nat.le_of_ble_eq_true rfl) ?_
    exact W.iret (v := (-1)) hx hb hr (fun t ht hW => ⟨⟨(-1), (), rfl, (by first | exact (if_pos (Classical.byContradiction c_8)).symm | exact (if_neg c_8).symm | exact (if_pos c_8).symm), wEn_of (hP.sub [] rfl) (hK.sub [] rfl) (hD.sub [] (by decide) rfl) ht hW⟩, hS.F ht⟩) hS.2.2 dX11_barred_24
def ow_c_measured : List Cond := [.fieldLink RX11 26 "NearEnough" "told" "LNearEnough$Program;", .constantLong RX11 212 (-1)]
def vs_c_measured : List Cond := .code yX11_measured cX11_measured 3 (some .long) :: (ow_c_measured ++ (([.methodLink RX11 227 yX3_hasEnd, .instanceMethod yX3_hasEnd, .selects RX3 yX3_hasEnd yX3_hasEnd, .initialized RX3] : List Cond) ++ (vs_c_hasEnd ++ (wsX110))))
theorem vg_c_measured : vs_c_measured.all goodWord = true := by decide +kernel
theorem gd_c_measured_227_c_hasEnd : GoodIn vs_c_measured (wsV RX11 227 RX3 yX3_hasEnd vs_c_hasEnd) := goodIn_app (goodIn_sub (fun w h => (List.mem_cons_of_mem _ (List.mem_append_right _ (List.mem_append_left _ h)))) (by decide +kernel)) (goodIn_sub (fun w h => (List.mem_cons_of_mem _ (List.mem_append_right _ (List.mem_append_right _ (List.mem_append_left _ h))))) vg_c_hasEnd)
set_option maxHeartbeats 4000000 in
set_option maxRecDepth 100000 in
theorem c_measured (l : Launch) (dC : Nat → ClassId) (dI : Nat → Nat → Nat) (h0 : Nat) (tp : Nat) (td : Nat) (sh : Nat) (ch : Nat) (sw : Nat) (wk : Nat) (g1 : Nat) (g2 : Nat) (g3 : Nat) (tl : Nat) (r1 : Nat) (r2 : Nat) (r3 : Nat) (r4 : Nat) (r5 : Nat) (p0 : Int32) (p1 : Int32) (sz : Nat) : Met l yX11_measured vs_c_measured ({ frames := 1, cells := 0, slots := 0, locals := 21 }) (va_Pc [.ref h0, .int p0, .int p1] (wSt dC dI [(h0, .inr (11, [.ref tp, .int 0, .int 0, .int (-1), .ref td, .ref sh, .ref ch, .ref sw, .ref wk, .ref g1, .ref g2, .ref g3, .int 0, .int 0, .ref tl, .null, .null])), (td, .inr (3, [.ref r1, .ref r2, .ref r3, .ref r4, .ref r5, .int 0, .int 0, .int 0]))] [] sz)) (va_Ql (fun (r : Int64) (_ : Unit) => r = (-1)) (fun (u : Unit) => wEn dC dI (va_A [(h0, .inr (11, [.ref tp, .int 0, .int 0, .int (-1), .ref td, .ref sh, .ref ch, .ref sw, .ref wk, .ref g1, .ref g2, .ref g3, .int 0, .int 0, .ref tl, .null, .null])), (td, .inr (3, [.ref r1, .ref r2, .ref r3, .ref r4, .ref r5, .int 0, .int 0, .int 0]))] sz) [] []) (va_A [(h0, .inr (11, [.ref tp, .int 0, .int 0, .int (-1), .ref td, .ref sh, .ref ch, .ref sw, .ref wk, .ref g1, .ref g2, .ref g3, .int 0, .int 0, .ref tl, .null, .null])), (td, .inr (3, [.ref r1, .ref r2, .ref r3, .ref r4, .ref r5, .int 0, .int 0, .int 0]))] sz)) 0 0 (va_A [(h0, .inr (11, [.ref tp, .int 0, .int 0, .int (-1), .ref td, .ref sh, .ref ch, .ref sw, .ref wk, .ref g1, .ref g2, .ref g3, .int 0, .int 0, .ref tl, .null, .null])), (td, .inr (3, [.ref r1, .ref r2, .ref r3, .ref r4, .ref r5, .int 0, .int 0, .int 0]))] sz) := by
  refine Met.ofW (cc := cX11_measured) (maxL := 3) (ret := (some .long)) (by decide) rfl ?_
  intro p e s m args below meth c s₁ B hml hv
  obtain ⟨rfl, hsz, hP, hK, hD0, hE⟩ := hv
  have hx := B.exec
  have hb := B.bytes
  have hr := B.returns
  have hts := atoms_spec (ws := vs_c_measured) B.pre
  have hown : s.vm.findClass RX11 = some m.cls := findClass_of_methodNamed B.named
  have hlocks := B.notSynchronized
  subst hsz
  have hD := hD0.self (sz := s.heap.size)
  generalize hAe : va_A [(h0, .inr (11, [.ref tp, .int 0, .int 0, .int (-1), .ref td, .ref sh, .ref ch, .ref sw, .ref wk, .ref g1, .ref g2, .ref g3, .int 0, .int 0, .ref tl, .null, .null])), (td, .inr (3, [.ref r1, .ref r2, .ref r3, .ref r4, .ref r5, .int 0, .int 0, .int 0]))] s.heap.size = A at hD ⊢
  have hA : ∀ q : Nat, s.heap.size ≤ q → A q := fun q h => by rw [← hAe]; exact Or.inr h
  have hl := lv_entry ([.ref h0, .int p0, .int p1]) (n := 3) (Nat.le_of_ble_eq_true rfl)
  rw [lg_entry_eq]
  generalize (lg_sl ([.ref h0, .int p0, .int p1]) ++ List.replicate (3 - (lg_sl ([.ref h0, .int p0, .int p1])).length) Slot.unset).toArray = ls at hl ⊢
  have hl : lv_has ls 3 [(0, .ref h0), (1, .int p0), (2, .int p1)] := hl
  refine zH (A := A) (ws := [(h0, .inr (11, [.ref tp, .int 0, .int 0, .int (-1), .ref td, .ref sh, .ref ch, .ref sw, .ref wk, .ref g1, .ref g2, .ref g3, .int 0, .int 0, .ref tl, .null, .null])), (td, .inr (3, [.ref r1, .ref r2, .ref r3, .ref r4, .ref r5, .int 0, .int 0, .int 0]))]) (fun H hP hS => ?_) hP
  have ho := fun w (h : w ∈ ow_c_measured) => hts w (List.mem_cons_of_mem _ (List.mem_append_left _ h))
  have hin11 : ∀ w ∈ u_ws RX11 TX11 17, w ∈ vs_c_measured := fun w h => (List.mem_cons_of_mem _ (List.mem_append_right _ (List.mem_append_right _ (List.mem_append_right _ h))))
  refine lv_aload_n hx hb dX11_measured_0 rfl (lv_at hl 0 rfl) ?_
  refine va_get (D := (dC, dI)) (ci := 11) (v := .ref td) (C := RX11) (T := TX11) (N := 17) hx hb hts hin11 hown hK hP 0 rfl rfl 4 (by decide) (ho (.fieldLink RX11 26 "NearEnough" "told" "LNearEnough$Program;") (List.mem_of_getElem? (i := 0) rfl)) (fun _ h9 => h9) rfl dX11_measured_1 ?_
  refine lv_iload_n hx hb dX11_measured_4 rfl (lv_at hl 1 rfl) ?_
  have hPc := hP.sub (ws' := [(td, .inr (3, [.ref r1, .ref r2, .ref r3, .ref r4, .ref r5, .int 0, .int 0, .int 0]))]) [1] rfl
  have hDc := hD.sub (ws' := [(td, .inr (3, [.ref r1, .ref r2, .ref r3, .ref r4, .ref r5, .int 0, .int 0, .int 0]))]) [1] (by decide) rfl
  have hKc := hK.sub (tys' := []) [] rfl
  refine zz_i (wr := [(h0, .inr (11, [.ref tp, .int 0, .int 0, .int (-1), .ref td, .ref sh, .ref ch, .ref sw, .ref wk, .ref g1, .ref g2, .ref g3, .int 0, .int 0, .ref tl, .null, .null]))]) (va_runV (As := [.int p0]) (rest := []) ⟨hx, hb, hml, hown, hts⟩ (c_hasEnd l dC dI td r1 r2 r3 r4 r5 p0 H.size) (cwV 1 hts gd_c_measured_227_c_hasEnd rfl rfl rfl (by decide +kernel) ⟨Nat.le_of_ble_eq_true rfl, Nat.le_of_ble_eq_true rfl⟩) (preV hPc hKc hDc hE (ci := 3) (q0 := 0) rfl rfl) rfl rfl hl.1 rfl (lv_room (Nat.le_of_ble_eq_true rfl)) dX11_measured_5 ⟨Nat.le_of_ble_eq_true rfl, Nat.le_of_ble_eq_true rfl⟩) hK hP hD hS hA [1] [0] rfl rfl (by decide) (by decide) (fun u H locs hK hP hD hS => ?_)
  have hP : va_P (dC, dI) vwCl [(h0, .inr (11, [.ref tp, .int 0, .int 0, .int (-1), .ref td, .ref sh, .ref ch, .ref sw, .ref wk, .ref g1, .ref g2, .ref g3, .int 0, .int 0, .ref tl, .null, .null])), (td, .inr (3, [.ref r1, .ref r2, .ref r3, .ref r4, .ref r5, .int 0, .int 0, .int 0]))] H := hP
  have hD : va_D A [(h0, .inr (11, [.ref tp, .int 0, .int 0, .int (-1), .ref td, .ref sh, .ref ch, .ref sw, .ref wk, .ref g1, .ref g2, .ref g3, .int 0, .int 0, .ref tl, .null, .null])), (td, .inr (3, [.ref r1, .ref r2, .ref r3, .ref r4, .ref r5, .int 0, .int 0, .int 0]))] := hD
  have hK : va_K (dC, dI) vwCl [] s := hK
  refine W.widen (k := 0) (n := 0) (Nat.le_of_ble_eq_true rfl) (Nat.le_of_ble_eq_true rfl) ?_
  refine lv_if_eq (tgt := 19) hx hb dX11_measured_8 (by decide) (fun _ => ?_) (fun cc => absurd (by decide) cc)
  refine lv_ldc2 (v := (-1)) hx hb hown (ho (.constantLong RX11 212 (-1)) (List.mem_of_getElem? (i := 1) rfl)) dX11_measured_19 ?_
  refine W.widen (k := 0) (n := 0) (Nat.le_of_ble_eq_true rfl) (Nat.le_of_ble_eq_true rfl) ?_
  exact W.lret (v := (-1)) hx hb hr (fun t ht hW => ⟨⟨(-1), (), rfl, rfl, wEn_of (hP.sub [] rfl) (hK.sub [] rfl) (hD.sub [] (by decide) rfl) ht hW⟩, hS.F ht⟩) hS.2.2 dX11_measured_22
def ow_c_passed : List Cond := [.fieldLink RX11 26 "NearEnough" "told" "LNearEnough$Program;"]
def vs_c_passed : List Cond := .code yX11_passed cX11_passed 7 (some .int) :: (ow_c_passed ++ (([.methodLink RX11 227 yX3_hasEnd, .instanceMethod yX3_hasEnd, .selects RX3 yX3_hasEnd yX3_hasEnd, .initialized RX3] : List Cond) ++ (vs_c_hasEnd ++ (wsX110))))
theorem vg_c_passed : vs_c_passed.all goodWord = true := by decide +kernel
theorem gd_c_passed_227_c_hasEnd : GoodIn vs_c_passed (wsV RX11 227 RX3 yX3_hasEnd vs_c_hasEnd) := goodIn_app (goodIn_sub (fun w h => (List.mem_cons_of_mem _ (List.mem_append_right _ (List.mem_append_left _ h)))) (by decide +kernel)) (goodIn_sub (fun w h => (List.mem_cons_of_mem _ (List.mem_append_right _ (List.mem_append_right _ (List.mem_append_left _ h))))) vg_c_hasEnd)
set_option maxHeartbeats 4000000 in
set_option maxRecDepth 100000 in
theorem c_passed (l : Launch) (dC : Nat → ClassId) (dI : Nat → Nat → Nat) (h0 : Nat) (tp : Nat) (td : Nat) (sh : Nat) (ch : Nat) (sw : Nat) (wk : Nat) (g1 : Nat) (g2 : Nat) (g3 : Nat) (tl : Nat) (r1 : Nat) (r2 : Nat) (r3 : Nat) (r4 : Nat) (r5 : Nat) (p0 : Int32) (p1 : Int32) (sz : Nat) : Met l yX11_passed vs_c_passed ({ frames := 1, cells := 0, slots := 0, locals := 21 }) (va_Pc [.ref h0, .int p0, .int p1] (wSt dC dI [(h0, .inr (11, [.ref tp, .int 0, .int 0, .int (-1), .ref td, .ref sh, .ref ch, .ref sw, .ref wk, .ref g1, .ref g2, .ref g3, .int 0, .int 0, .ref tl, .null, .null])), (td, .inr (3, [.ref r1, .ref r2, .ref r3, .ref r4, .ref r5, .int 0, .int 0, .int 0]))] [] sz)) (va_Qi (fun (r : Int32) (_ : Unit) => r = (-1)) (fun (u : Unit) => wEn dC dI (va_A [(h0, .inr (11, [.ref tp, .int 0, .int 0, .int (-1), .ref td, .ref sh, .ref ch, .ref sw, .ref wk, .ref g1, .ref g2, .ref g3, .int 0, .int 0, .ref tl, .null, .null])), (td, .inr (3, [.ref r1, .ref r2, .ref r3, .ref r4, .ref r5, .int 0, .int 0, .int 0]))] sz) [] []) (va_A [(h0, .inr (11, [.ref tp, .int 0, .int 0, .int (-1), .ref td, .ref sh, .ref ch, .ref sw, .ref wk, .ref g1, .ref g2, .ref g3, .int 0, .int 0, .ref tl, .null, .null])), (td, .inr (3, [.ref r1, .ref r2, .ref r3, .ref r4, .ref r5, .int 0, .int 0, .int 0]))] sz)) 0 0 (va_A [(h0, .inr (11, [.ref tp, .int 0, .int 0, .int (-1), .ref td, .ref sh, .ref ch, .ref sw, .ref wk, .ref g1, .ref g2, .ref g3, .int 0, .int 0, .ref tl, .null, .null])), (td, .inr (3, [.ref r1, .ref r2, .ref r3, .ref r4, .ref r5, .int 0, .int 0, .int 0]))] sz) := by
  refine Met.ofW (cc := cX11_passed) (maxL := 7) (ret := (some .int)) (by decide) rfl ?_
  intro p e s m args below meth c s₁ B hml hv
  obtain ⟨rfl, hsz, hP, hK, hD0, hE⟩ := hv
  have hx := B.exec
  have hb := B.bytes
  have hr := B.returns
  have hts := atoms_spec (ws := vs_c_passed) B.pre
  have hown : s.vm.findClass RX11 = some m.cls := findClass_of_methodNamed B.named
  have hlocks := B.notSynchronized
  subst hsz
  have hD := hD0.self (sz := s.heap.size)
  generalize hAe : va_A [(h0, .inr (11, [.ref tp, .int 0, .int 0, .int (-1), .ref td, .ref sh, .ref ch, .ref sw, .ref wk, .ref g1, .ref g2, .ref g3, .int 0, .int 0, .ref tl, .null, .null])), (td, .inr (3, [.ref r1, .ref r2, .ref r3, .ref r4, .ref r5, .int 0, .int 0, .int 0]))] s.heap.size = A at hD ⊢
  have hA : ∀ q : Nat, s.heap.size ≤ q → A q := fun q h => by rw [← hAe]; exact Or.inr h
  have hl := lv_entry ([.ref h0, .int p0, .int p1]) (n := 7) (Nat.le_of_ble_eq_true rfl)
  rw [lg_entry_eq]
  generalize (lg_sl ([.ref h0, .int p0, .int p1]) ++ List.replicate (7 - (lg_sl ([.ref h0, .int p0, .int p1])).length) Slot.unset).toArray = ls at hl ⊢
  have hl : lv_has ls 7 [(0, .ref h0), (1, .int p0), (2, .int p1)] := hl
  refine zH (A := A) (ws := [(h0, .inr (11, [.ref tp, .int 0, .int 0, .int (-1), .ref td, .ref sh, .ref ch, .ref sw, .ref wk, .ref g1, .ref g2, .ref g3, .int 0, .int 0, .ref tl, .null, .null])), (td, .inr (3, [.ref r1, .ref r2, .ref r3, .ref r4, .ref r5, .int 0, .int 0, .int 0]))]) (fun H hP hS => ?_) hP
  have ho := fun w (h : w ∈ ow_c_passed) => hts w (List.mem_cons_of_mem _ (List.mem_append_left _ h))
  have hin11 : ∀ w ∈ u_ws RX11 TX11 17, w ∈ vs_c_passed := fun w h => (List.mem_cons_of_mem _ (List.mem_append_right _ (List.mem_append_right _ (List.mem_append_right _ h))))
  refine lv_aload_n hx hb dX11_passed_0 rfl (lv_at hl 0 rfl) ?_
  refine va_get (D := (dC, dI)) (ci := 11) (v := .ref td) (C := RX11) (T := TX11) (N := 17) hx hb hts hin11 hown hK hP 0 rfl rfl 4 (by decide) (ho (.fieldLink RX11 26 "NearEnough" "told" "LNearEnough$Program;") (List.mem_of_getElem? (i := 0) rfl)) (fun _ h9 => h9) rfl dX11_passed_1 ?_
  refine lv_iload_n hx hb dX11_passed_4 rfl (lv_at hl 1 rfl) ?_
  have hPc := hP.sub (ws' := [(td, .inr (3, [.ref r1, .ref r2, .ref r3, .ref r4, .ref r5, .int 0, .int 0, .int 0]))]) [1] rfl
  have hDc := hD.sub (ws' := [(td, .inr (3, [.ref r1, .ref r2, .ref r3, .ref r4, .ref r5, .int 0, .int 0, .int 0]))]) [1] (by decide) rfl
  have hKc := hK.sub (tys' := []) [] rfl
  refine zz_i (wr := [(h0, .inr (11, [.ref tp, .int 0, .int 0, .int (-1), .ref td, .ref sh, .ref ch, .ref sw, .ref wk, .ref g1, .ref g2, .ref g3, .int 0, .int 0, .ref tl, .null, .null]))]) (va_runV (As := [.int p0]) (rest := []) ⟨hx, hb, hml, hown, hts⟩ (c_hasEnd l dC dI td r1 r2 r3 r4 r5 p0 H.size) (cwV 1 hts gd_c_passed_227_c_hasEnd rfl rfl rfl (by decide +kernel) ⟨Nat.le_of_ble_eq_true rfl, Nat.le_of_ble_eq_true rfl⟩) (preV hPc hKc hDc hE (ci := 3) (q0 := 0) rfl rfl) rfl rfl hl.1 rfl (lv_room (Nat.le_of_ble_eq_true rfl)) dX11_passed_5 ⟨Nat.le_of_ble_eq_true rfl, Nat.le_of_ble_eq_true rfl⟩) hK hP hD hS hA [1] [0] rfl rfl (by decide) (by decide) (fun u H locs hK hP hD hS => ?_)
  have hP : va_P (dC, dI) vwCl [(h0, .inr (11, [.ref tp, .int 0, .int 0, .int (-1), .ref td, .ref sh, .ref ch, .ref sw, .ref wk, .ref g1, .ref g2, .ref g3, .int 0, .int 0, .ref tl, .null, .null])), (td, .inr (3, [.ref r1, .ref r2, .ref r3, .ref r4, .ref r5, .int 0, .int 0, .int 0]))] H := hP
  have hD : va_D A [(h0, .inr (11, [.ref tp, .int 0, .int 0, .int (-1), .ref td, .ref sh, .ref ch, .ref sw, .ref wk, .ref g1, .ref g2, .ref g3, .int 0, .int 0, .ref tl, .null, .null])), (td, .inr (3, [.ref r1, .ref r2, .ref r3, .ref r4, .ref r5, .int 0, .int 0, .int 0]))] := hD
  have hK : va_K (dC, dI) vwCl [] s := hK
  refine W.widen (k := 0) (n := 0) (Nat.le_of_ble_eq_true rfl) (Nat.le_of_ble_eq_true rfl) ?_
  refine lv_if_eq (tgt := 19) hx hb dX11_passed_8 (by decide) (fun _ => ?_) (fun cc => absurd (by decide) cc)
  refine lv_iconst (v := (-1)) hx hb dX11_passed_19 (by decide) ?_
  refine W.widen (k := 0) (n := 0) (Nat.le_of_ble_eq_true rfl) (Nat.le_of_ble_eq_true rfl) ?_
  exact W.iret (v := (-1)) hx hb hr (fun t ht hW => ⟨⟨(-1), (), rfl, rfl, wEn_of (hP.sub [] rfl) (hK.sub [] rfl) (hD.sub [] (by decide) rfl) ht hW⟩, hS.F ht⟩) hS.2.2 dX11_passed_20
def ow_c_mean : List Cond := [.fieldLink RX11 26 "NearEnough" "told" "LNearEnough$Program;", .constantLong RX11 212 (-1)]
def vs_c_mean : List Cond := .code yX11_mean cX11_mean 8 (some .long) :: (ow_c_mean ++ (([.methodLink RX11 227 yX3_hasEnd, .instanceMethod yX3_hasEnd, .selects RX3 yX3_hasEnd yX3_hasEnd, .initialized RX3] : List Cond) ++ (vs_c_hasEnd ++ (wsX110))))
theorem vg_c_mean : vs_c_mean.all goodWord = true := by decide +kernel
theorem gd_c_mean_227_c_hasEnd : GoodIn vs_c_mean (wsV RX11 227 RX3 yX3_hasEnd vs_c_hasEnd) := goodIn_app (goodIn_sub (fun w h => (List.mem_cons_of_mem _ (List.mem_append_right _ (List.mem_append_left _ h)))) (by decide +kernel)) (goodIn_sub (fun w h => (List.mem_cons_of_mem _ (List.mem_append_right _ (List.mem_append_right _ (List.mem_append_left _ h))))) vg_c_hasEnd)
set_option maxHeartbeats 4000000 in
set_option maxRecDepth 100000 in
theorem c_mean (l : Launch) (dC : Nat → ClassId) (dI : Nat → Nat → Nat) (h0 : Nat) (tp : Nat) (td : Nat) (sh : Nat) (ch : Nat) (sw : Nat) (wk : Nat) (g1 : Nat) (g2 : Nat) (g3 : Nat) (tl : Nat) (r1 : Nat) (r2 : Nat) (r3 : Nat) (r4 : Nat) (r5 : Nat) (p0 : Int32) (p1 : Int32) (p2 : Int32) (sz : Nat) : Met l yX11_mean vs_c_mean ({ frames := 1, cells := 0, slots := 0, locals := 21 }) (va_Pc [.ref h0, .int p0, .int p1, .int p2] (wSt dC dI [(h0, .inr (11, [.ref tp, .int 0, .int 0, .int (-1), .ref td, .ref sh, .ref ch, .ref sw, .ref wk, .ref g1, .ref g2, .ref g3, .int 0, .int 0, .ref tl, .null, .null])), (td, .inr (3, [.ref r1, .ref r2, .ref r3, .ref r4, .ref r5, .int 0, .int 0, .int 0]))] [] sz)) (va_Ql (fun (r : Int64) (_ : Unit) => r = (-1)) (fun (u : Unit) => wEn dC dI (va_A [(h0, .inr (11, [.ref tp, .int 0, .int 0, .int (-1), .ref td, .ref sh, .ref ch, .ref sw, .ref wk, .ref g1, .ref g2, .ref g3, .int 0, .int 0, .ref tl, .null, .null])), (td, .inr (3, [.ref r1, .ref r2, .ref r3, .ref r4, .ref r5, .int 0, .int 0, .int 0]))] sz) [] []) (va_A [(h0, .inr (11, [.ref tp, .int 0, .int 0, .int (-1), .ref td, .ref sh, .ref ch, .ref sw, .ref wk, .ref g1, .ref g2, .ref g3, .int 0, .int 0, .ref tl, .null, .null])), (td, .inr (3, [.ref r1, .ref r2, .ref r3, .ref r4, .ref r5, .int 0, .int 0, .int 0]))] sz)) 0 0 (va_A [(h0, .inr (11, [.ref tp, .int 0, .int 0, .int (-1), .ref td, .ref sh, .ref ch, .ref sw, .ref wk, .ref g1, .ref g2, .ref g3, .int 0, .int 0, .ref tl, .null, .null])), (td, .inr (3, [.ref r1, .ref r2, .ref r3, .ref r4, .ref r5, .int 0, .int 0, .int 0]))] sz) := by
  refine Met.ofW (cc := cX11_mean) (maxL := 8) (ret := (some .long)) (by decide) rfl ?_
  intro p e s m args below meth c s₁ B hml hv
  obtain ⟨rfl, hsz, hP, hK, hD0, hE⟩ := hv
  have hx := B.exec
  have hb := B.bytes
  have hr := B.returns
  have hts := atoms_spec (ws := vs_c_mean) B.pre
  have hown : s.vm.findClass RX11 = some m.cls := findClass_of_methodNamed B.named
  have hlocks := B.notSynchronized
  subst hsz
  have hD := hD0.self (sz := s.heap.size)
  generalize hAe : va_A [(h0, .inr (11, [.ref tp, .int 0, .int 0, .int (-1), .ref td, .ref sh, .ref ch, .ref sw, .ref wk, .ref g1, .ref g2, .ref g3, .int 0, .int 0, .ref tl, .null, .null])), (td, .inr (3, [.ref r1, .ref r2, .ref r3, .ref r4, .ref r5, .int 0, .int 0, .int 0]))] s.heap.size = A at hD ⊢
  have hA : ∀ q : Nat, s.heap.size ≤ q → A q := fun q h => by rw [← hAe]; exact Or.inr h
  have hl := lv_entry ([.ref h0, .int p0, .int p1, .int p2]) (n := 8) (Nat.le_of_ble_eq_true rfl)
  rw [lg_entry_eq]
  generalize (lg_sl ([.ref h0, .int p0, .int p1, .int p2]) ++ List.replicate (8 - (lg_sl ([.ref h0, .int p0, .int p1, .int p2])).length) Slot.unset).toArray = ls at hl ⊢
  have hl : lv_has ls 8 [(0, .ref h0), (1, .int p0), (2, .int p1), (3, .int p2)] := hl
  refine zH (A := A) (ws := [(h0, .inr (11, [.ref tp, .int 0, .int 0, .int (-1), .ref td, .ref sh, .ref ch, .ref sw, .ref wk, .ref g1, .ref g2, .ref g3, .int 0, .int 0, .ref tl, .null, .null])), (td, .inr (3, [.ref r1, .ref r2, .ref r3, .ref r4, .ref r5, .int 0, .int 0, .int 0]))]) (fun H hP hS => ?_) hP
  have ho := fun w (h : w ∈ ow_c_mean) => hts w (List.mem_cons_of_mem _ (List.mem_append_left _ h))
  have hin11 : ∀ w ∈ u_ws RX11 TX11 17, w ∈ vs_c_mean := fun w h => (List.mem_cons_of_mem _ (List.mem_append_right _ (List.mem_append_right _ (List.mem_append_right _ h))))
  refine lv_aload_n hx hb dX11_mean_0 rfl (lv_at hl 0 rfl) ?_
  refine va_get (D := (dC, dI)) (ci := 11) (v := .ref td) (C := RX11) (T := TX11) (N := 17) hx hb hts hin11 hown hK hP 0 rfl rfl 4 (by decide) (ho (.fieldLink RX11 26 "NearEnough" "told" "LNearEnough$Program;") (List.mem_of_getElem? (i := 0) rfl)) (fun _ h9 => h9) rfl dX11_mean_1 ?_
  refine lv_iload_n hx hb dX11_mean_4 rfl (lv_at hl 1 rfl) ?_
  have hPc := hP.sub (ws' := [(td, .inr (3, [.ref r1, .ref r2, .ref r3, .ref r4, .ref r5, .int 0, .int 0, .int 0]))]) [1] rfl
  have hDc := hD.sub (ws' := [(td, .inr (3, [.ref r1, .ref r2, .ref r3, .ref r4, .ref r5, .int 0, .int 0, .int 0]))]) [1] (by decide) rfl
  have hKc := hK.sub (tys' := []) [] rfl
  refine zz_i (wr := [(h0, .inr (11, [.ref tp, .int 0, .int 0, .int (-1), .ref td, .ref sh, .ref ch, .ref sw, .ref wk, .ref g1, .ref g2, .ref g3, .int 0, .int 0, .ref tl, .null, .null]))]) (va_runV (As := [.int p0]) (rest := []) ⟨hx, hb, hml, hown, hts⟩ (c_hasEnd l dC dI td r1 r2 r3 r4 r5 p0 H.size) (cwV 1 hts gd_c_mean_227_c_hasEnd rfl rfl rfl (by decide +kernel) ⟨Nat.le_of_ble_eq_true rfl, Nat.le_of_ble_eq_true rfl⟩) (preV hPc hKc hDc hE (ci := 3) (q0 := 0) rfl rfl) rfl rfl hl.1 rfl (lv_room (Nat.le_of_ble_eq_true rfl)) dX11_mean_5 ⟨Nat.le_of_ble_eq_true rfl, Nat.le_of_ble_eq_true rfl⟩) hK hP hD hS hA [1] [0] rfl rfl (by decide) (by decide) (fun u H locs hK hP hD hS => ?_)
  have hP : va_P (dC, dI) vwCl [(h0, .inr (11, [.ref tp, .int 0, .int 0, .int (-1), .ref td, .ref sh, .ref ch, .ref sw, .ref wk, .ref g1, .ref g2, .ref g3, .int 0, .int 0, .ref tl, .null, .null])), (td, .inr (3, [.ref r1, .ref r2, .ref r3, .ref r4, .ref r5, .int 0, .int 0, .int 0]))] H := hP
  have hD : va_D A [(h0, .inr (11, [.ref tp, .int 0, .int 0, .int (-1), .ref td, .ref sh, .ref ch, .ref sw, .ref wk, .ref g1, .ref g2, .ref g3, .int 0, .int 0, .ref tl, .null, .null])), (td, .inr (3, [.ref r1, .ref r2, .ref r3, .ref r4, .ref r5, .int 0, .int 0, .int 0]))] := hD
  have hK : va_K (dC, dI) vwCl [] s := hK
  refine W.widen (k := 0) (n := 0) (Nat.le_of_ble_eq_true rfl) (Nat.le_of_ble_eq_true rfl) ?_
  refine lv_if_eq (tgt := 38) hx hb dX11_mean_8 (by decide) (fun _ => ?_) (fun cc => absurd (by decide) cc)
  refine lv_ldc2 (v := (-1)) hx hb hown (ho (.constantLong RX11 212 (-1)) (List.mem_of_getElem? (i := 1) rfl)) dX11_mean_38 ?_
  refine W.widen (k := 0) (n := 0) (Nat.le_of_ble_eq_true rfl) (Nat.le_of_ble_eq_true rfl) ?_
  exact W.lret (v := (-1)) hx hb hr (fun t ht hW => ⟨⟨(-1), (), rfl, rfl, wEn_of (hP.sub [] rfl) (hK.sub [] rfl) (hD.sub [] (by decide) rfl) ht hW⟩, hS.F ht⟩) hS.2.2 dX11_mean_41
def ow_c_saved : List Cond := [.fieldLink RX11 40 "NearEnough" "changes" "LNearEnough$Changes;"]
def vs_c_saved : List Cond := .code yX11_saved cX11_saved 2 (some .int) :: (ow_c_saved ++ (([.methodLink RX11 202 yX0_take, .instanceMethod yX0_take, .selects RX0 yX0_take yX0_take, .initialized RX0] : List Cond) ++ (vs_c_take ++ (([.methodLink RX11 260 yX0_savedBy, .instanceMethod yX0_savedBy, .selects RX0 yX0_savedBy yX0_savedBy, .initialized RX0] : List Cond) ++ (vs_c_savedBy ++ (wsX110))))))
theorem vg_c_saved : vs_c_saved.all goodWord = true := by decide +kernel
theorem gd_c_saved_202_c_take : GoodIn vs_c_saved (wsV RX11 202 RX0 yX0_take vs_c_take) := goodIn_app (goodIn_sub (fun w h => (List.mem_cons_of_mem _ (List.mem_append_right _ (List.mem_append_left _ h)))) (by decide +kernel)) (goodIn_sub (fun w h => (List.mem_cons_of_mem _ (List.mem_append_right _ (List.mem_append_right _ (List.mem_append_left _ h))))) vg_c_take)
theorem gd_c_saved_260_c_savedBy : GoodIn vs_c_saved (wsV RX11 260 RX0 yX0_savedBy vs_c_savedBy) := goodIn_app (goodIn_sub (fun w h => (List.mem_cons_of_mem _ (List.mem_append_right _ (List.mem_append_right _ (List.mem_append_right _ (List.mem_append_left _ h)))))) (by decide +kernel)) (goodIn_sub (fun w h => (List.mem_cons_of_mem _ (List.mem_append_right _ (List.mem_append_right _ (List.mem_append_right _ (List.mem_append_right _ (List.mem_append_left _ h))))))) vg_c_savedBy)
set_option maxHeartbeats 4000000 in
set_option maxRecDepth 100000 in
theorem c_saved (l : Launch) (dC : Nat → ClassId) (dI : Nat → Nat → Nat) (h0 : Nat) (tp : Nat) (td : Nat) (sh : Nat) (ch : Nat) (sw : Nat) (wk : Nat) (g1 : Nat) (g2 : Nat) (g3 : Nat) (tl : Nat) (a1 : Nat) (a2 : Nat) (a3 : Nat) (a4 : Nat) (a5 : Nat) (kc : ClassId) (p0 : Int32) (sz : Nat) : Met l yX11_saved vs_c_saved ({ frames := 2, cells := 0, slots := 0, locals := 45 }) (va_Pc [.ref h0, .int p0] (wSt dC dI [(h0, .inr (11, [.ref tp, .int 0, .int 0, .int (-1), .ref td, .ref sh, .ref ch, .ref sw, .ref wk, .ref g1, .ref g2, .ref g3, .int 0, .int 0, .ref tl, .null, .null])), (ch, .inr (0, [.ref a1, .ref a2, .ref a3, .ref a4, .ref a5, .int 0, .int 0])), (a5, .inl (kc, 12, .inl (fun _ => 0)))] [(kc, .int)] sz)) (va_Qi (fun (r : Int32) (_ : Unit) => r = if tk p0 = 0 then -1 else 0) (fun (u : Unit) => wEn dC dI (va_A [(h0, .inr (11, [.ref tp, .int 0, .int 0, .int (-1), .ref td, .ref sh, .ref ch, .ref sw, .ref wk, .ref g1, .ref g2, .ref g3, .int 0, .int 0, .ref tl, .null, .null])), (ch, .inr (0, [.ref a1, .ref a2, .ref a3, .ref a4, .ref a5, .int 0, .int 0])), (a5, .inl (kc, 12, .inl (fun _ => 0)))] sz) [] []) (va_A [(h0, .inr (11, [.ref tp, .int 0, .int 0, .int (-1), .ref td, .ref sh, .ref ch, .ref sw, .ref wk, .ref g1, .ref g2, .ref g3, .int 0, .int 0, .ref tl, .null, .null])), (ch, .inr (0, [.ref a1, .ref a2, .ref a3, .ref a4, .ref a5, .int 0, .int 0])), (a5, .inl (kc, 12, .inl (fun _ => 0)))] sz)) 0 0 (va_A [(h0, .inr (11, [.ref tp, .int 0, .int 0, .int (-1), .ref td, .ref sh, .ref ch, .ref sw, .ref wk, .ref g1, .ref g2, .ref g3, .int 0, .int 0, .ref tl, .null, .null])), (ch, .inr (0, [.ref a1, .ref a2, .ref a3, .ref a4, .ref a5, .int 0, .int 0])), (a5, .inl (kc, 12, .inl (fun _ => 0)))] sz) := by
  refine Met.ofW (cc := cX11_saved) (maxL := 2) (ret := (some .int)) (by decide) rfl ?_
  intro p e s m args below meth c s₁ B hml hv
  obtain ⟨rfl, hsz, hP, hK, hD0, hE⟩ := hv
  have hx := B.exec
  have hb := B.bytes
  have hr := B.returns
  have hts := atoms_spec (ws := vs_c_saved) B.pre
  have hown : s.vm.findClass RX11 = some m.cls := findClass_of_methodNamed B.named
  have hlocks := B.notSynchronized
  subst hsz
  have hD := hD0.self (sz := s.heap.size)
  generalize hAe : va_A [(h0, .inr (11, [.ref tp, .int 0, .int 0, .int (-1), .ref td, .ref sh, .ref ch, .ref sw, .ref wk, .ref g1, .ref g2, .ref g3, .int 0, .int 0, .ref tl, .null, .null])), (ch, .inr (0, [.ref a1, .ref a2, .ref a3, .ref a4, .ref a5, .int 0, .int 0])), (a5, .inl (kc, 12, .inl (fun _ => 0)))] s.heap.size = A at hD ⊢
  have hA : ∀ q : Nat, s.heap.size ≤ q → A q := fun q h => by rw [← hAe]; exact Or.inr h
  have hl := lv_entry ([.ref h0, .int p0]) (n := 2) (Nat.le_of_ble_eq_true rfl)
  rw [lg_entry_eq]
  generalize (lg_sl ([.ref h0, .int p0]) ++ List.replicate (2 - (lg_sl ([.ref h0, .int p0])).length) Slot.unset).toArray = ls at hl ⊢
  have hl : lv_has ls 2 [(0, .ref h0), (1, .int p0)] := hl
  refine zH (A := A) (ws := [(h0, .inr (11, [.ref tp, .int 0, .int 0, .int (-1), .ref td, .ref sh, .ref ch, .ref sw, .ref wk, .ref g1, .ref g2, .ref g3, .int 0, .int 0, .ref tl, .null, .null])), (ch, .inr (0, [.ref a1, .ref a2, .ref a3, .ref a4, .ref a5, .int 0, .int 0])), (a5, .inl (kc, 12, .inl (fun _ => 0)))]) (fun H hP hS => ?_) hP
  have ho := fun w (h : w ∈ ow_c_saved) => hts w (List.mem_cons_of_mem _ (List.mem_append_left _ h))
  have hin11 : ∀ w ∈ u_ws RX11 TX11 17, w ∈ vs_c_saved := fun w h => (List.mem_cons_of_mem _ (List.mem_append_right _ (List.mem_append_right _ (List.mem_append_right _ (List.mem_append_right _ (List.mem_append_right _ h))))))
  refine lv_aload_n hx hb dX11_saved_0 rfl (lv_at hl 0 rfl) ?_
  refine va_get (D := (dC, dI)) (ci := 11) (v := .ref ch) (C := RX11) (T := TX11) (N := 17) hx hb hts hin11 hown hK hP 0 rfl rfl 6 (by decide) (ho (.fieldLink RX11 40 "NearEnough" "changes" "LNearEnough$Changes;") (List.mem_of_getElem? (i := 0) rfl)) (fun _ h9 => h9) rfl dX11_saved_1 ?_
  refine lv_iload_n hx hb dX11_saved_4 rfl (lv_at hl 1 rfl) ?_
  have hPc := hP.sub (ws' := [(ch, .inr (0, [.ref a1, .ref a2, .ref a3, .ref a4, .ref a5, .int 0, .int 0])), (a5, .inl (kc, 12, .inl (fun _ => 0)))]) [1, 2] rfl
  have hDc := hD.sub (ws' := [(ch, .inr (0, [.ref a1, .ref a2, .ref a3, .ref a4, .ref a5, .int 0, .int 0])), (a5, .inl (kc, 12, .inl (fun _ => 0)))]) [1, 2] (by decide) rfl
  have hKc := hK.sub (tys' := [(kc, .int)]) [0] rfl
  refine zz_i (wr := [(h0, .inr (11, [.ref tp, .int 0, .int 0, .int (-1), .ref td, .ref sh, .ref ch, .ref sw, .ref wk, .ref g1, .ref g2, .ref g3, .int 0, .int 0, .ref tl, .null, .null]))]) (va_runV (As := [.int p0]) (rest := []) ⟨hx, hb, hml, hown, hts⟩ (c_take l dC dI ch a1 a2 a3 a4 a5 kc (fun _ => 0) p0 0 H.size) (cwV 1 hts gd_c_saved_202_c_take rfl rfl rfl (by decide +kernel) ⟨Nat.le_of_ble_eq_true rfl, Nat.le_of_ble_eq_true rfl⟩) (preV hPc hKc hDc hE (ci := 0) (q0 := 0) rfl rfl) rfl rfl hl.1 rfl (lv_room (Nat.le_of_ble_eq_true rfl)) dX11_saved_5 ⟨Nat.le_of_ble_eq_true rfl, Nat.le_of_ble_eq_true rfl⟩) hK hP hD hS hA [1, 2] [0] rfl rfl (by decide) (by decide) (fun u H locs hK hP hD hS => ?_)
  obtain ⟨b1, f2⟩ := u
  have hP : va_P (dC, dI) vwCl [(h0, .inr (11, [.ref tp, .int 0, .int 0, .int (-1), .ref td, .ref sh, .ref ch, .ref sw, .ref wk, .ref g1, .ref g2, .ref g3, .int 0, .int 0, .ref tl, .null, .null])), (ch, .inr (0, [.ref a1, .ref a2, .ref a3, .ref a4, .ref a5, .int 0, .int b1])), (a5, .inl (kc, 12, .inl f2))] H := hP
  have hD : va_D A [(h0, .inr (11, [.ref tp, .int 0, .int 0, .int (-1), .ref td, .ref sh, .ref ch, .ref sw, .ref wk, .ref g1, .ref g2, .ref g3, .int 0, .int 0, .ref tl, .null, .null])), (ch, .inr (0, [.ref a1, .ref a2, .ref a3, .ref a4, .ref a5, .int 0, .int b1])), (a5, .inl (kc, 12, .inl f2))] := hD
  have hK : va_K (dC, dI) vwCl [(kc, .int)] s := hK
  refine W.widen (k := 0) (n := 0) (Nat.le_of_ble_eq_true rfl) (Nat.le_of_ble_eq_true rfl) ?_
  refine lv_if_eq (tgt := 22) hx hb dX11_saved_8 (by decide) (fun c_8 => ?_) (fun c_8 => ?_)
  · refine lv_iconst (v := (-1)) hx hb dX11_saved_22 (by decide) ?_
    refine W.widen (k := 0) (n := 0) (Nat.le_of_ble_eq_true rfl) (Nat.le_of_ble_eq_true rfl) ?_
    exact W.iret (v := (-1)) hx hb hr (fun t ht hW => ⟨⟨(-1), (), rfl, (by first | exact (if_pos (Classical.byContradiction c_8)).symm | exact (if_neg c_8).symm | exact (if_pos c_8).symm), wEn_of (hP.sub [] rfl) (hK.sub [] rfl) (hD.sub [] (by decide) rfl) ht hW⟩, hS.F ht⟩) hS.2.2 dX11_saved_23
  · refine lv_aload_n hx hb dX11_saved_11 rfl (lv_at hl 0 rfl) ?_
    refine va_get (D := (dC, dI)) (ci := 11) (v := .ref ch) (C := RX11) (T := TX11) (N := 17) hx hb hts hin11 hown hK hP 0 rfl rfl 6 (by decide) (ho (.fieldLink RX11 40 "NearEnough" "changes" "LNearEnough$Changes;") (List.mem_of_getElem? (i := 0) rfl)) (fun _ h9 => h9) rfl dX11_saved_12 ?_
    refine lv_iload_n hx hb dX11_saved_15 rfl (lv_at hl 1 rfl) ?_
    have hPc := hP.sub (ws' := [(ch, .inr (0, [.ref a1, .ref a2, .ref a3, .ref a4, .ref a5, .int 0, .int b1]))]) [1] rfl
    have hDc := hD.sub (ws' := [(ch, .inr (0, [.ref a1, .ref a2, .ref a3, .ref a4, .ref a5, .int 0, .int b1]))]) [1] (by decide) rfl
    have hKc := hK.sub (tys' := []) [] rfl
    refine zz_i (wr := [(h0, .inr (11, [.ref tp, .int 0, .int 0, .int (-1), .ref td, .ref sh, .ref ch, .ref sw, .ref wk, .ref g1, .ref g2, .ref g3, .int 0, .int 0, .ref tl, .null, .null])), (a5, .inl (kc, 12, .inl f2))]) (va_runV (As := [.int p0]) (rest := []) ⟨hx, hb, hml, hown, hts⟩ (c_savedBy l dC dI ch a1 a2 a3 a4 a5 b1 p0 H.size) (cwV 1 hts gd_c_saved_260_c_savedBy rfl rfl rfl (by decide +kernel) ⟨Nat.le_of_ble_eq_true rfl, Nat.le_of_ble_eq_true rfl⟩) (preV hPc hKc hDc hE (ci := 0) (q0 := 0) rfl rfl) rfl rfl hl.1 rfl (lv_room (Nat.le_of_ble_eq_true rfl)) dX11_saved_16 ⟨Nat.le_of_ble_eq_true rfl, Nat.le_of_ble_eq_true rfl⟩) hK hP hD hS hA [1] [0, 2] rfl rfl (by decide) (by decide) (fun u H locs hK hP hD hS => ?_)
    have hP : va_P (dC, dI) vwCl [(h0, .inr (11, [.ref tp, .int 0, .int 0, .int (-1), .ref td, .ref sh, .ref ch, .ref sw, .ref wk, .ref g1, .ref g2, .ref g3, .int 0, .int 0, .ref tl, .null, .null])), (a5, .inl (kc, 12, .inl f2)), (ch, .inr (0, [.ref a1, .ref a2, .ref a3, .ref a4, .ref a5, .int 0, .int b1]))] H := hP
    have hD : va_D A [(h0, .inr (11, [.ref tp, .int 0, .int 0, .int (-1), .ref td, .ref sh, .ref ch, .ref sw, .ref wk, .ref g1, .ref g2, .ref g3, .int 0, .int 0, .ref tl, .null, .null])), (a5, .inl (kc, 12, .inl f2)), (ch, .inr (0, [.ref a1, .ref a2, .ref a3, .ref a4, .ref a5, .int 0, .int b1]))] := hD
    have hK : va_K (dC, dI) vwCl [(kc, .int)] s := hK
    refine W.widen (k := 0) (n := 0) (Nat.le_of_ble_eq_true rfl) (Nat.le_of_ble_eq_true rfl) ?_
    refine lv_goto (tgt := 23) hx hb dX11_saved_19 (by decide) ?_
    refine W.widen (k := 0) (n := 0) (Nat.le_of_ble_eq_true rfl) (Nat.le_of_ble_eq_true rfl) ?_
    exact W.iret (v := 0) hx hb hr (fun t ht hW => ⟨⟨0, (), rfl, (by first | exact (if_pos (Classical.byContradiction c_8)).symm | exact (if_neg c_8).symm | exact (if_pos c_8).symm), wEn_of (hP.sub [] rfl) (hK.sub [] rfl) (hD.sub [] (by decide) rfl) ht hW⟩, hS.F ht⟩) hS.2.2 dX11_saved_23
def ow_c_ticks : List Cond := [.fieldLink RX11 40 "NearEnough" "changes" "LNearEnough$Changes;", .fieldLink RX11 26 "NearEnough" "told" "LNearEnough$Program;", .fieldLink RX11 123 "NearEnough$Program" "stepCount" "I"]
def vs_c_ticks : List Cond := .code yX11_ticks cX11_ticks 4 (some .int) :: (ow_c_ticks ++ (([.methodLink RX11 202 yX0_take, .instanceMethod yX0_take, .selects RX0 yX0_take yX0_take, .initialized RX0] : List Cond) ++ (vs_c_take ++ (wsX30 ++ (wsX110)))))
theorem vg_c_ticks : vs_c_ticks.all goodWord = true := by decide +kernel
theorem gd_c_ticks_202_c_take : GoodIn vs_c_ticks (wsV RX11 202 RX0 yX0_take vs_c_take) := goodIn_app (goodIn_sub (fun w h => (List.mem_cons_of_mem _ (List.mem_append_right _ (List.mem_append_left _ h)))) (by decide +kernel)) (goodIn_sub (fun w h => (List.mem_cons_of_mem _ (List.mem_append_right _ (List.mem_append_right _ (List.mem_append_left _ h))))) vg_c_take)
set_option maxHeartbeats 4000000 in
set_option maxRecDepth 100000 in
theorem c_ticks (l : Launch) (dC : Nat → ClassId) (dI : Nat → Nat → Nat) (h0 : Nat) (tp : Nat) (td : Nat) (sh : Nat) (ch : Nat) (sw : Nat) (wk : Nat) (g1 : Nat) (g2 : Nat) (g3 : Nat) (tl : Nat) (r1 : Nat) (r2 : Nat) (r3 : Nat) (r4 : Nat) (r5 : Nat) (a1 : Nat) (a2 : Nat) (a3 : Nat) (a4 : Nat) (a5 : Nat) (kc : ClassId) (p0 : Int32) (sz : Nat) : Met l yX11_ticks vs_c_ticks ({ frames := 2, cells := 0, slots := 0, locals := 45 }) (va_Pc [.ref h0, .int p0] (wSt dC dI [(h0, .inr (11, [.ref tp, .int 0, .int 0, .int (-1), .ref td, .ref sh, .ref ch, .ref sw, .ref wk, .ref g1, .ref g2, .ref g3, .int 0, .int 0, .ref tl, .null, .null])), (td, .inr (3, [.ref r1, .ref r2, .ref r3, .ref r4, .ref r5, .int 0, .int 0, .int 0])), (ch, .inr (0, [.ref a1, .ref a2, .ref a3, .ref a4, .ref a5, .int 0, .int 0])), (a5, .inl (kc, 12, .inl (fun _ => 0)))] [(kc, .int)] sz)) (va_Qi (fun (r : Int32) (_ : Unit) => r = if tk p0 = 0 then -1 else 0) (fun (u : Unit) => wEn dC dI (va_A [(h0, .inr (11, [.ref tp, .int 0, .int 0, .int (-1), .ref td, .ref sh, .ref ch, .ref sw, .ref wk, .ref g1, .ref g2, .ref g3, .int 0, .int 0, .ref tl, .null, .null])), (td, .inr (3, [.ref r1, .ref r2, .ref r3, .ref r4, .ref r5, .int 0, .int 0, .int 0])), (ch, .inr (0, [.ref a1, .ref a2, .ref a3, .ref a4, .ref a5, .int 0, .int 0])), (a5, .inl (kc, 12, .inl (fun _ => 0)))] sz) [] []) (va_A [(h0, .inr (11, [.ref tp, .int 0, .int 0, .int (-1), .ref td, .ref sh, .ref ch, .ref sw, .ref wk, .ref g1, .ref g2, .ref g3, .int 0, .int 0, .ref tl, .null, .null])), (td, .inr (3, [.ref r1, .ref r2, .ref r3, .ref r4, .ref r5, .int 0, .int 0, .int 0])), (ch, .inr (0, [.ref a1, .ref a2, .ref a3, .ref a4, .ref a5, .int 0, .int 0])), (a5, .inl (kc, 12, .inl (fun _ => 0)))] sz)) 0 0 (va_A [(h0, .inr (11, [.ref tp, .int 0, .int 0, .int (-1), .ref td, .ref sh, .ref ch, .ref sw, .ref wk, .ref g1, .ref g2, .ref g3, .int 0, .int 0, .ref tl, .null, .null])), (td, .inr (3, [.ref r1, .ref r2, .ref r3, .ref r4, .ref r5, .int 0, .int 0, .int 0])), (ch, .inr (0, [.ref a1, .ref a2, .ref a3, .ref a4, .ref a5, .int 0, .int 0])), (a5, .inl (kc, 12, .inl (fun _ => 0)))] sz) := by
  refine Met.ofW (cc := cX11_ticks) (maxL := 4) (ret := (some .int)) (by decide) rfl ?_
  intro p e s m args below meth c s₁ B hml hv
  obtain ⟨rfl, hsz, hP, hK, hD0, hE⟩ := hv
  have hx := B.exec
  have hb := B.bytes
  have hr := B.returns
  have hts := atoms_spec (ws := vs_c_ticks) B.pre
  have hown : s.vm.findClass RX11 = some m.cls := findClass_of_methodNamed B.named
  have hlocks := B.notSynchronized
  subst hsz
  have hD := hD0.self (sz := s.heap.size)
  generalize hAe : va_A [(h0, .inr (11, [.ref tp, .int 0, .int 0, .int (-1), .ref td, .ref sh, .ref ch, .ref sw, .ref wk, .ref g1, .ref g2, .ref g3, .int 0, .int 0, .ref tl, .null, .null])), (td, .inr (3, [.ref r1, .ref r2, .ref r3, .ref r4, .ref r5, .int 0, .int 0, .int 0])), (ch, .inr (0, [.ref a1, .ref a2, .ref a3, .ref a4, .ref a5, .int 0, .int 0])), (a5, .inl (kc, 12, .inl (fun _ => 0)))] s.heap.size = A at hD ⊢
  have hA : ∀ q : Nat, s.heap.size ≤ q → A q := fun q h => by rw [← hAe]; exact Or.inr h
  have hl := lv_entry ([.ref h0, .int p0]) (n := 4) (Nat.le_of_ble_eq_true rfl)
  rw [lg_entry_eq]
  generalize (lg_sl ([.ref h0, .int p0]) ++ List.replicate (4 - (lg_sl ([.ref h0, .int p0])).length) Slot.unset).toArray = ls at hl ⊢
  have hl : lv_has ls 4 [(0, .ref h0), (1, .int p0)] := hl
  refine zH (A := A) (ws := [(h0, .inr (11, [.ref tp, .int 0, .int 0, .int (-1), .ref td, .ref sh, .ref ch, .ref sw, .ref wk, .ref g1, .ref g2, .ref g3, .int 0, .int 0, .ref tl, .null, .null])), (td, .inr (3, [.ref r1, .ref r2, .ref r3, .ref r4, .ref r5, .int 0, .int 0, .int 0])), (ch, .inr (0, [.ref a1, .ref a2, .ref a3, .ref a4, .ref a5, .int 0, .int 0])), (a5, .inl (kc, 12, .inl (fun _ => 0)))]) (fun H hP hS => ?_) hP
  have ho := fun w (h : w ∈ ow_c_ticks) => hts w (List.mem_cons_of_mem _ (List.mem_append_left _ h))
  have hin3 : ∀ w ∈ u_ws RX3 TX3 8, w ∈ vs_c_ticks := fun w h => (List.mem_cons_of_mem _ (List.mem_append_right _ (List.mem_append_right _ (List.mem_append_right _ (List.mem_append_left _ h)))))
  have hin11 : ∀ w ∈ u_ws RX11 TX11 17, w ∈ vs_c_ticks := fun w h => (List.mem_cons_of_mem _ (List.mem_append_right _ (List.mem_append_right _ (List.mem_append_right _ (List.mem_append_right _ h)))))
  refine lv_aload_n hx hb dX11_ticks_0 rfl (lv_at hl 0 rfl) ?_
  refine va_get (D := (dC, dI)) (ci := 11) (v := .ref ch) (C := RX11) (T := TX11) (N := 17) hx hb hts hin11 hown hK hP 0 rfl rfl 6 (by decide) (ho (.fieldLink RX11 40 "NearEnough" "changes" "LNearEnough$Changes;") (List.mem_of_getElem? (i := 0) rfl)) (fun _ h9 => h9) rfl dX11_ticks_1 ?_
  refine lv_iload_n hx hb dX11_ticks_4 rfl (lv_at hl 1 rfl) ?_
  have hPc := hP.sub (ws' := [(ch, .inr (0, [.ref a1, .ref a2, .ref a3, .ref a4, .ref a5, .int 0, .int 0])), (a5, .inl (kc, 12, .inl (fun _ => 0)))]) [2, 3] rfl
  have hDc := hD.sub (ws' := [(ch, .inr (0, [.ref a1, .ref a2, .ref a3, .ref a4, .ref a5, .int 0, .int 0])), (a5, .inl (kc, 12, .inl (fun _ => 0)))]) [2, 3] (by decide) rfl
  have hKc := hK.sub (tys' := [(kc, .int)]) [0] rfl
  refine zz_i (wr := [(h0, .inr (11, [.ref tp, .int 0, .int 0, .int (-1), .ref td, .ref sh, .ref ch, .ref sw, .ref wk, .ref g1, .ref g2, .ref g3, .int 0, .int 0, .ref tl, .null, .null])), (td, .inr (3, [.ref r1, .ref r2, .ref r3, .ref r4, .ref r5, .int 0, .int 0, .int 0]))]) (va_runV (As := [.int p0]) (rest := []) ⟨hx, hb, hml, hown, hts⟩ (c_take l dC dI ch a1 a2 a3 a4 a5 kc (fun _ => 0) p0 0 H.size) (cwV 1 hts gd_c_ticks_202_c_take rfl rfl rfl (by decide +kernel) ⟨Nat.le_of_ble_eq_true rfl, Nat.le_of_ble_eq_true rfl⟩) (preV hPc hKc hDc hE (ci := 0) (q0 := 0) rfl rfl) rfl rfl hl.1 rfl (lv_room (Nat.le_of_ble_eq_true rfl)) dX11_ticks_5 ⟨Nat.le_of_ble_eq_true rfl, Nat.le_of_ble_eq_true rfl⟩) hK hP hD hS hA [2, 3] [0, 1] rfl rfl (by decide) (by decide) (fun u H locs hK hP hD hS => ?_)
  obtain ⟨b1, f2⟩ := u
  have hP : va_P (dC, dI) vwCl [(h0, .inr (11, [.ref tp, .int 0, .int 0, .int (-1), .ref td, .ref sh, .ref ch, .ref sw, .ref wk, .ref g1, .ref g2, .ref g3, .int 0, .int 0, .ref tl, .null, .null])), (td, .inr (3, [.ref r1, .ref r2, .ref r3, .ref r4, .ref r5, .int 0, .int 0, .int 0])), (ch, .inr (0, [.ref a1, .ref a2, .ref a3, .ref a4, .ref a5, .int 0, .int b1])), (a5, .inl (kc, 12, .inl f2))] H := hP
  have hD : va_D A [(h0, .inr (11, [.ref tp, .int 0, .int 0, .int (-1), .ref td, .ref sh, .ref ch, .ref sw, .ref wk, .ref g1, .ref g2, .ref g3, .int 0, .int 0, .ref tl, .null, .null])), (td, .inr (3, [.ref r1, .ref r2, .ref r3, .ref r4, .ref r5, .int 0, .int 0, .int 0])), (ch, .inr (0, [.ref a1, .ref a2, .ref a3, .ref a4, .ref a5, .int 0, .int b1])), (a5, .inl (kc, 12, .inl f2))] := hD
  have hK : va_K (dC, dI) vwCl [(kc, .int)] s := hK
  refine W.widen (k := 0) (n := 0) (Nat.le_of_ble_eq_true rfl) (Nat.le_of_ble_eq_true rfl) ?_
  refine lv_if_ne (tgt := 13) hx hb dX11_ticks_8 (by decide) (fun c_8 => ?_) (fun c_8 => ?_)
  · refine lv_iconst (v := 0) hx hb dX11_ticks_13 (by decide) ?_
    refine lv_istore_n (lv' := [(2, .int 0), (0, .ref h0), (1, .int p0)]) hx hb dX11_ticks_14 rfl hl (by decide) rfl (fun ls hl => ?_)
    refine lv_iconst (v := 0) hx hb dX11_ticks_15 (by decide) ?_
    refine lv_istore_n (lv' := [(3, .int 0), (2, .int 0), (0, .ref h0), (1, .int p0)]) hx hb dX11_ticks_16 rfl hl (by decide) rfl (fun ls hl => ?_)
    refine lv_iload_n hx hb dX11_ticks_17 rfl (lv_at hl 0 rfl) ?_
    refine lv_aload_n hx hb dX11_ticks_18 rfl (lv_at hl 2 rfl) ?_
    refine va_get (D := (dC, dI)) (ci := 11) (v := .ref td) (C := RX11) (T := TX11) (N := 17) hx hb hts hin11 hown hK hP 0 rfl rfl 4 (by decide) (ho (.fieldLink RX11 26 "NearEnough" "told" "LNearEnough$Program;") (List.mem_of_getElem? (i := 1) rfl)) (fun _ h9 => h9) rfl dX11_ticks_19 ?_
    refine va_get (D := (dC, dI)) (ci := 3) (v := .int 0) (C := RX3) (T := TX3) (N := 8) hx hb hts hin3 hown hK hP 1 rfl rfl 6 (by decide) (ho (.fieldLink RX11 123 "NearEnough$Program" "stepCount" "I") (List.mem_of_getElem? (i := 2) rfl)) (fun _ h9 => h9) rfl dX11_ticks_22 ?_
    refine lv_icmp_ge (tgt := 42) hx hb dX11_ticks_25 (by decide) (fun _ => ?_) (fun cc => absurd (by decide) cc)
    refine lv_iload_n hx hb dX11_ticks_42 rfl (lv_at hl 1 rfl) ?_
    refine W.widen (k := 0) (n := 0) (Nat.le_of_ble_eq_true rfl) (Nat.le_of_ble_eq_true rfl) ?_
    exact W.iret (v := 0) hx hb hr (fun t ht hW => ⟨⟨0, (), rfl, (by first | exact (if_pos (Classical.byContradiction c_8)).symm | exact (if_neg c_8).symm | exact (if_pos c_8).symm), wEn_of (hP.sub [] rfl) (hK.sub [] rfl) (hD.sub [] (by decide) rfl) ht hW⟩, hS.F ht⟩) hS.2.2 dX11_ticks_43
  · refine lv_iconst (v := (-1)) hx hb dX11_ticks_11 (by decide) ?_
    refine W.widen (k := 0) (n := 0) (Nat.le_of_ble_eq_true rfl) (Nat.le_of_ble_eq_true rfl) ?_
    exact W.iret (v := (-1)) hx hb hr (fun t ht hW => ⟨⟨(-1), (), rfl, (by first | exact (if_pos (Classical.byContradiction c_8)).symm | exact (if_neg c_8).symm | exact (if_pos c_8).symm), wEn_of (hP.sub [] rfl) (hK.sub [] rfl) (hD.sub [] (by decide) rfl) ht hW⟩, hS.F ht⟩) hS.2.2 dX11_ticks_12
def ow_c_isLet : List Cond := [.fieldLink RX11 26 "NearEnough" "told" "LNearEnough$Program;", .fieldLink RX11 281 "NearEnough$Program" "endCount" "I"]
def vs_c_isLet : List Cond := .code yX11_isLet cX11_isLet 3 (some .boolean) :: (ow_c_isLet ++ (wsX30 ++ (wsX110)))
theorem vg_c_isLet : vs_c_isLet.all goodWord = true := by decide +kernel
set_option maxHeartbeats 4000000 in
set_option maxRecDepth 100000 in
theorem c_isLet (l : Launch) (dC : Nat → ClassId) (dI : Nat → Nat → Nat) (h0 : Nat) (tp : Nat) (td : Nat) (sh : Nat) (ch : Nat) (sw : Nat) (wk : Nat) (g1 : Nat) (g2 : Nat) (g3 : Nat) (tl : Nat) (r1 : Nat) (r2 : Nat) (r3 : Nat) (r4 : Nat) (r5 : Nat) (sz : Nat) : Met l yX11_isLet vs_c_isLet ({ frames := 0, cells := 0, slots := 0, locals := 0 }) (va_Pc [.ref h0] (wSt dC dI [(h0, .inr (11, [.ref tp, .int 0, .int 0, .int (-1), .ref td, .ref sh, .ref ch, .ref sw, .ref wk, .ref g1, .ref g2, .ref g3, .int 0, .int 0, .ref tl, .null, .null])), (td, .inr (3, [.ref r1, .ref r2, .ref r3, .ref r4, .ref r5, .int 0, .int 0, .int 0]))] [] sz)) (va_Qi (fun (r : Int32) (_ : Unit) => r = 1) (fun (u : Unit) => wEn dC dI (va_A [(h0, .inr (11, [.ref tp, .int 0, .int 0, .int (-1), .ref td, .ref sh, .ref ch, .ref sw, .ref wk, .ref g1, .ref g2, .ref g3, .int 0, .int 0, .ref tl, .null, .null])), (td, .inr (3, [.ref r1, .ref r2, .ref r3, .ref r4, .ref r5, .int 0, .int 0, .int 0]))] sz) [(h0, .inr (11, [.ref tp, .int 0, .int 0, .int (-1), .ref td, .ref sh, .ref ch, .ref sw, .ref wk, .ref g1, .ref g2, .ref g3, .int 0, .int 0, .ref tl, .null, .null])), (td, .inr (3, [.ref r1, .ref r2, .ref r3, .ref r4, .ref r5, .int 0, .int 0, .int 0]))] []) (va_A [(h0, .inr (11, [.ref tp, .int 0, .int 0, .int (-1), .ref td, .ref sh, .ref ch, .ref sw, .ref wk, .ref g1, .ref g2, .ref g3, .int 0, .int 0, .ref tl, .null, .null])), (td, .inr (3, [.ref r1, .ref r2, .ref r3, .ref r4, .ref r5, .int 0, .int 0, .int 0]))] sz)) 0 0 (va_A [(h0, .inr (11, [.ref tp, .int 0, .int 0, .int (-1), .ref td, .ref sh, .ref ch, .ref sw, .ref wk, .ref g1, .ref g2, .ref g3, .int 0, .int 0, .ref tl, .null, .null])), (td, .inr (3, [.ref r1, .ref r2, .ref r3, .ref r4, .ref r5, .int 0, .int 0, .int 0]))] sz) := by
  refine Met.ofW (cc := cX11_isLet) (maxL := 3) (ret := (some .boolean)) (by decide) rfl ?_
  intro p e s m args below meth c s₁ B hml hv
  obtain ⟨rfl, hsz, hP, hK, hD0, hE⟩ := hv
  have hx := B.exec
  have hb := B.bytes
  have hr := B.returns
  have hts := atoms_spec (ws := vs_c_isLet) B.pre
  have hown : s.vm.findClass RX11 = some m.cls := findClass_of_methodNamed B.named
  have hlocks := B.notSynchronized
  subst hsz
  have hD := hD0.self (sz := s.heap.size)
  generalize hAe : va_A [(h0, .inr (11, [.ref tp, .int 0, .int 0, .int (-1), .ref td, .ref sh, .ref ch, .ref sw, .ref wk, .ref g1, .ref g2, .ref g3, .int 0, .int 0, .ref tl, .null, .null])), (td, .inr (3, [.ref r1, .ref r2, .ref r3, .ref r4, .ref r5, .int 0, .int 0, .int 0]))] s.heap.size = A at hD ⊢
  have hA : ∀ q : Nat, s.heap.size ≤ q → A q := fun q h => by rw [← hAe]; exact Or.inr h
  have hl := lv_entry ([.ref h0]) (n := 3) (Nat.le_of_ble_eq_true rfl)
  rw [lg_entry_eq]
  generalize (lg_sl ([.ref h0]) ++ List.replicate (3 - (lg_sl ([.ref h0])).length) Slot.unset).toArray = ls at hl ⊢
  have hl : lv_has ls 3 [(0, .ref h0)] := hl
  refine zH (A := A) (ws := [(h0, .inr (11, [.ref tp, .int 0, .int 0, .int (-1), .ref td, .ref sh, .ref ch, .ref sw, .ref wk, .ref g1, .ref g2, .ref g3, .int 0, .int 0, .ref tl, .null, .null])), (td, .inr (3, [.ref r1, .ref r2, .ref r3, .ref r4, .ref r5, .int 0, .int 0, .int 0]))]) (fun H hP hS => ?_) hP
  have ho := fun w (h : w ∈ ow_c_isLet) => hts w (List.mem_cons_of_mem _ (List.mem_append_left _ h))
  have hin3 : ∀ w ∈ u_ws RX3 TX3 8, w ∈ vs_c_isLet := fun w h => (List.mem_cons_of_mem _ (List.mem_append_right _ (List.mem_append_left _ h)))
  have hin11 : ∀ w ∈ u_ws RX11 TX11 17, w ∈ vs_c_isLet := fun w h => (List.mem_cons_of_mem _ (List.mem_append_right _ (List.mem_append_right _ h)))
  refine lv_iconst (v := 0) hx hb dX11_isLet_0 (by decide) ?_
  refine lv_istore_n (lv' := [(1, .int 0), (0, .ref h0)]) hx hb dX11_isLet_1 rfl hl (by decide) rfl (fun ls hl => ?_)
  refine lv_iconst (v := 0) hx hb dX11_isLet_2 (by decide) ?_
  refine lv_istore_n (lv' := [(2, .int 0), (1, .int 0), (0, .ref h0)]) hx hb dX11_isLet_3 rfl hl (by decide) rfl (fun ls hl => ?_)
  refine lv_iload_n hx hb dX11_isLet_4 rfl (lv_at hl 0 rfl) ?_
  refine lv_aload_n hx hb dX11_isLet_5 rfl (lv_at hl 2 rfl) ?_
  refine va_get (D := (dC, dI)) (ci := 11) (v := .ref td) (C := RX11) (T := TX11) (N := 17) hx hb hts hin11 hown hK hP 0 rfl rfl 4 (by decide) (ho (.fieldLink RX11 26 "NearEnough" "told" "LNearEnough$Program;") (List.mem_of_getElem? (i := 0) rfl)) (fun _ h9 => h9) rfl dX11_isLet_6 ?_
  refine va_get (D := (dC, dI)) (ci := 3) (v := .int 0) (C := RX3) (T := TX3) (N := 8) hx hb hts hin3 hown hK hP 1 rfl rfl 7 (by decide) (ho (.fieldLink RX11 281 "NearEnough$Program" "endCount" "I") (List.mem_of_getElem? (i := 1) rfl)) (fun _ h9 => h9) rfl dX11_isLet_9 ?_
  refine lv_icmp_ge (tgt := 70) hx hb dX11_isLet_12 (by decide) (fun _ => ?_) (fun cc => absurd (by decide) cc)
  refine lv_iload_n hx hb dX11_isLet_70 rfl (lv_at hl 1 rfl) ?_
  refine lv_if_eq (tgt := 81) hx hb dX11_isLet_71 (by decide) (fun _ => ?_) (fun cc => absurd (by decide) cc)
  refine lv_iconst (v := 1) hx hb dX11_isLet_81 (by decide) ?_
  refine lv_goto (tgt := 86) hx hb dX11_isLet_82 (by decide) ?_
  refine W.widen (k := 0) (n := 0) (Nat.le_of_ble_eq_true rfl) (Nat.le_of_ble_eq_true rfl) ?_
  exact W.zret (v := 1) hx hb hr rfl (fun t ht hW => ⟨⟨1, (), rfl, rfl, wEn_of (hP.sub [0, 1] rfl) (hK.sub [] rfl) (hD.sub [0, 1] (by decide) rfl) ht hW⟩, hS.F ht⟩) hS.2.2 dX11_isLet_86
def ow_c_let : List Cond := [.fieldLink RX11 40 "NearEnough" "changes" "LNearEnough$Changes;", .fieldLink RX11 49 "NearEnough" "shown" "LNearEnough$Shown;"]
def vs_c_let : List Cond := .code yX11_let cX11_let 2 (some .int) :: (ow_c_let ++ (([.methodLink RX11 202 yX0_take, .instanceMethod yX0_take, .selects RX0 yX0_take yX0_take, .initialized RX0] : List Cond) ++ (vs_c_take ++ (([.methodLink RX11 205 yX8_show, .instanceMethod yX8_show, .selects RX8 yX8_show yX8_show, .initialized RX8] : List Cond) ++ (vs_c_show ++ (([.methodLink RX11 277 yX11_isLet, .instanceMethod yX11_isLet, .selects RX11 yX11_isLet yX11_isLet, .initialized RX11] : List Cond) ++ (vs_c_isLet ++ (wsX110))))))))
theorem vg_c_let : vs_c_let.all goodWord = true := by decide +kernel
theorem gd_c_let_202_c_take : GoodIn vs_c_let (wsV RX11 202 RX0 yX0_take vs_c_take) := goodIn_app (goodIn_sub (fun w h => (List.mem_cons_of_mem _ (List.mem_append_right _ (List.mem_append_left _ h)))) (by decide +kernel)) (goodIn_sub (fun w h => (List.mem_cons_of_mem _ (List.mem_append_right _ (List.mem_append_right _ (List.mem_append_left _ h))))) vg_c_take)
theorem gd_c_let_205_c_show : GoodIn vs_c_let (wsV RX11 205 RX8 yX8_show vs_c_show) := goodIn_app (goodIn_sub (fun w h => (List.mem_cons_of_mem _ (List.mem_append_right _ (List.mem_append_right _ (List.mem_append_right _ (List.mem_append_left _ h)))))) (by decide +kernel)) (goodIn_sub (fun w h => (List.mem_cons_of_mem _ (List.mem_append_right _ (List.mem_append_right _ (List.mem_append_right _ (List.mem_append_right _ (List.mem_append_left _ h))))))) vg_c_show)
theorem gd_c_let_277_c_isLet : GoodIn vs_c_let (wsV RX11 277 RX11 yX11_isLet vs_c_isLet) := goodIn_app (goodIn_sub (fun w h => (List.mem_cons_of_mem _ (List.mem_append_right _ (List.mem_append_right _ (List.mem_append_right _ (List.mem_append_right _ (List.mem_append_right _ (List.mem_append_left _ h)))))))) (by decide +kernel)) (goodIn_sub (fun w h => (List.mem_cons_of_mem _ (List.mem_append_right _ (List.mem_append_right _ (List.mem_append_right _ (List.mem_append_right _ (List.mem_append_right _ (List.mem_append_right _ (List.mem_append_left _ h))))))))) vg_c_isLet)
set_option maxHeartbeats 4000000 in
set_option maxRecDepth 100000 in
theorem c_let (l : Launch) (dC : Nat → ClassId) (dI : Nat → Nat → Nat) (h0 : Nat) (tp : Nat) (td : Nat) (sh : Nat) (ch : Nat) (sw : Nat) (wk : Nat) (g1 : Nat) (g2 : Nat) (g3 : Nat) (tl : Nat) (r1 : Nat) (r2 : Nat) (r3 : Nat) (r4 : Nat) (r5 : Nat) (w1 : Nat) (w2 : Nat) (a1 : Nat) (a2 : Nat) (a3 : Nat) (a4 : Nat) (a5 : Nat) (kc : ClassId) (p0 : Int32) (sz : Nat) : Met l yX11_let vs_c_let ({ frames := 2, cells := 0, slots := 0, locals := 45 }) (va_Pc [.ref h0, .int p0] (wSt dC dI [(h0, .inr (11, [.ref tp, .int 0, .int 0, .int (-1), .ref td, .ref sh, .ref ch, .ref sw, .ref wk, .ref g1, .ref g2, .ref g3, .int 0, .int 0, .ref tl, .null, .null])), (td, .inr (3, [.ref r1, .ref r2, .ref r3, .ref r4, .ref r5, .int 0, .int 0, .int 0])), (sw, .inr (8, [.ref td, .ref ch, .ref w1, .ref w2, .long 0, .long 0, .int 0, .int 0, .int 0])), (ch, .inr (0, [.ref a1, .ref a2, .ref a3, .ref a4, .ref a5, .int 0, .int 0])), (a5, .inl (kc, 12, .inl (fun _ => 0)))] [(kc, .int)] sz)) (va_Qi (fun (r : Int32) (_ : Unit) => r = if tk p0 = 0 then -1 else 1) (fun (u : Unit) => wEn dC dI (va_A [(h0, .inr (11, [.ref tp, .int 0, .int 0, .int (-1), .ref td, .ref sh, .ref ch, .ref sw, .ref wk, .ref g1, .ref g2, .ref g3, .int 0, .int 0, .ref tl, .null, .null])), (td, .inr (3, [.ref r1, .ref r2, .ref r3, .ref r4, .ref r5, .int 0, .int 0, .int 0])), (sw, .inr (8, [.ref td, .ref ch, .ref w1, .ref w2, .long 0, .long 0, .int 0, .int 0, .int 0])), (ch, .inr (0, [.ref a1, .ref a2, .ref a3, .ref a4, .ref a5, .int 0, .int 0])), (a5, .inl (kc, 12, .inl (fun _ => 0)))] sz) [] []) (va_A [(h0, .inr (11, [.ref tp, .int 0, .int 0, .int (-1), .ref td, .ref sh, .ref ch, .ref sw, .ref wk, .ref g1, .ref g2, .ref g3, .int 0, .int 0, .ref tl, .null, .null])), (td, .inr (3, [.ref r1, .ref r2, .ref r3, .ref r4, .ref r5, .int 0, .int 0, .int 0])), (sw, .inr (8, [.ref td, .ref ch, .ref w1, .ref w2, .long 0, .long 0, .int 0, .int 0, .int 0])), (ch, .inr (0, [.ref a1, .ref a2, .ref a3, .ref a4, .ref a5, .int 0, .int 0])), (a5, .inl (kc, 12, .inl (fun _ => 0)))] sz)) 0 0 (va_A [(h0, .inr (11, [.ref tp, .int 0, .int 0, .int (-1), .ref td, .ref sh, .ref ch, .ref sw, .ref wk, .ref g1, .ref g2, .ref g3, .int 0, .int 0, .ref tl, .null, .null])), (td, .inr (3, [.ref r1, .ref r2, .ref r3, .ref r4, .ref r5, .int 0, .int 0, .int 0])), (sw, .inr (8, [.ref td, .ref ch, .ref w1, .ref w2, .long 0, .long 0, .int 0, .int 0, .int 0])), (ch, .inr (0, [.ref a1, .ref a2, .ref a3, .ref a4, .ref a5, .int 0, .int 0])), (a5, .inl (kc, 12, .inl (fun _ => 0)))] sz) := by
  refine Met.ofW (cc := cX11_let) (maxL := 2) (ret := (some .int)) (by decide) rfl ?_
  intro p e s m args below meth c s₁ B hml hv
  obtain ⟨rfl, hsz, hP, hK, hD0, hE⟩ := hv
  have hx := B.exec
  have hb := B.bytes
  have hr := B.returns
  have hts := atoms_spec (ws := vs_c_let) B.pre
  have hown : s.vm.findClass RX11 = some m.cls := findClass_of_methodNamed B.named
  have hlocks := B.notSynchronized
  subst hsz
  have hD := hD0.self (sz := s.heap.size)
  generalize hAe : va_A [(h0, .inr (11, [.ref tp, .int 0, .int 0, .int (-1), .ref td, .ref sh, .ref ch, .ref sw, .ref wk, .ref g1, .ref g2, .ref g3, .int 0, .int 0, .ref tl, .null, .null])), (td, .inr (3, [.ref r1, .ref r2, .ref r3, .ref r4, .ref r5, .int 0, .int 0, .int 0])), (sw, .inr (8, [.ref td, .ref ch, .ref w1, .ref w2, .long 0, .long 0, .int 0, .int 0, .int 0])), (ch, .inr (0, [.ref a1, .ref a2, .ref a3, .ref a4, .ref a5, .int 0, .int 0])), (a5, .inl (kc, 12, .inl (fun _ => 0)))] s.heap.size = A at hD ⊢
  have hA : ∀ q : Nat, s.heap.size ≤ q → A q := fun q h => by rw [← hAe]; exact Or.inr h
  have hl := lv_entry ([.ref h0, .int p0]) (n := 2) (Nat.le_of_ble_eq_true rfl)
  rw [lg_entry_eq]
  generalize (lg_sl ([.ref h0, .int p0]) ++ List.replicate (2 - (lg_sl ([.ref h0, .int p0])).length) Slot.unset).toArray = ls at hl ⊢
  have hl : lv_has ls 2 [(0, .ref h0), (1, .int p0)] := hl
  refine zH (A := A) (ws := [(h0, .inr (11, [.ref tp, .int 0, .int 0, .int (-1), .ref td, .ref sh, .ref ch, .ref sw, .ref wk, .ref g1, .ref g2, .ref g3, .int 0, .int 0, .ref tl, .null, .null])), (td, .inr (3, [.ref r1, .ref r2, .ref r3, .ref r4, .ref r5, .int 0, .int 0, .int 0])), (sw, .inr (8, [.ref td, .ref ch, .ref w1, .ref w2, .long 0, .long 0, .int 0, .int 0, .int 0])), (ch, .inr (0, [.ref a1, .ref a2, .ref a3, .ref a4, .ref a5, .int 0, .int 0])), (a5, .inl (kc, 12, .inl (fun _ => 0)))]) (fun H hP hS => ?_) hP
  have ho := fun w (h : w ∈ ow_c_let) => hts w (List.mem_cons_of_mem _ (List.mem_append_left _ h))
  have hin11 : ∀ w ∈ u_ws RX11 TX11 17, w ∈ vs_c_let := fun w h => (List.mem_cons_of_mem _ (List.mem_append_right _ (List.mem_append_right _ (List.mem_append_right _ (List.mem_append_right _ (List.mem_append_right _ (List.mem_append_right _ (List.mem_append_right _ h))))))))
  refine lv_aload_n hx hb dX11_let_0 rfl (lv_at hl 0 rfl) ?_
  refine va_get (D := (dC, dI)) (ci := 11) (v := .ref ch) (C := RX11) (T := TX11) (N := 17) hx hb hts hin11 hown hK hP 0 rfl rfl 6 (by decide) (ho (.fieldLink RX11 40 "NearEnough" "changes" "LNearEnough$Changes;") (List.mem_of_getElem? (i := 0) rfl)) (fun _ h9 => h9) rfl dX11_let_1 ?_
  refine lv_iload_n hx hb dX11_let_4 rfl (lv_at hl 1 rfl) ?_
  have hPc := hP.sub (ws' := [(ch, .inr (0, [.ref a1, .ref a2, .ref a3, .ref a4, .ref a5, .int 0, .int 0])), (a5, .inl (kc, 12, .inl (fun _ => 0)))]) [3, 4] rfl
  have hDc := hD.sub (ws' := [(ch, .inr (0, [.ref a1, .ref a2, .ref a3, .ref a4, .ref a5, .int 0, .int 0])), (a5, .inl (kc, 12, .inl (fun _ => 0)))]) [3, 4] (by decide) rfl
  have hKc := hK.sub (tys' := [(kc, .int)]) [0] rfl
  refine zz_i (wr := [(h0, .inr (11, [.ref tp, .int 0, .int 0, .int (-1), .ref td, .ref sh, .ref ch, .ref sw, .ref wk, .ref g1, .ref g2, .ref g3, .int 0, .int 0, .ref tl, .null, .null])), (td, .inr (3, [.ref r1, .ref r2, .ref r3, .ref r4, .ref r5, .int 0, .int 0, .int 0])), (sw, .inr (8, [.ref td, .ref ch, .ref w1, .ref w2, .long 0, .long 0, .int 0, .int 0, .int 0]))]) (va_runV (As := [.int p0]) (rest := []) ⟨hx, hb, hml, hown, hts⟩ (c_take l dC dI ch a1 a2 a3 a4 a5 kc (fun _ => 0) p0 0 H.size) (cwV 1 hts gd_c_let_202_c_take rfl rfl rfl (by decide +kernel) ⟨Nat.le_of_ble_eq_true rfl, Nat.le_of_ble_eq_true rfl⟩) (preV hPc hKc hDc hE (ci := 0) (q0 := 0) rfl rfl) rfl rfl hl.1 rfl (lv_room (Nat.le_of_ble_eq_true rfl)) dX11_let_5 ⟨Nat.le_of_ble_eq_true rfl, Nat.le_of_ble_eq_true rfl⟩) hK hP hD hS hA [3, 4] [0, 1, 2] rfl rfl (by decide) (by decide) (fun u H locs hK hP hD hS => ?_)
  obtain ⟨b1, f2⟩ := u
  have hP : va_P (dC, dI) vwCl [(h0, .inr (11, [.ref tp, .int 0, .int 0, .int (-1), .ref td, .ref sh, .ref ch, .ref sw, .ref wk, .ref g1, .ref g2, .ref g3, .int 0, .int 0, .ref tl, .null, .null])), (td, .inr (3, [.ref r1, .ref r2, .ref r3, .ref r4, .ref r5, .int 0, .int 0, .int 0])), (sw, .inr (8, [.ref td, .ref ch, .ref w1, .ref w2, .long 0, .long 0, .int 0, .int 0, .int 0])), (ch, .inr (0, [.ref a1, .ref a2, .ref a3, .ref a4, .ref a5, .int 0, .int b1])), (a5, .inl (kc, 12, .inl f2))] H := hP
  have hD : va_D A [(h0, .inr (11, [.ref tp, .int 0, .int 0, .int (-1), .ref td, .ref sh, .ref ch, .ref sw, .ref wk, .ref g1, .ref g2, .ref g3, .int 0, .int 0, .ref tl, .null, .null])), (td, .inr (3, [.ref r1, .ref r2, .ref r3, .ref r4, .ref r5, .int 0, .int 0, .int 0])), (sw, .inr (8, [.ref td, .ref ch, .ref w1, .ref w2, .long 0, .long 0, .int 0, .int 0, .int 0])), (ch, .inr (0, [.ref a1, .ref a2, .ref a3, .ref a4, .ref a5, .int 0, .int b1])), (a5, .inl (kc, 12, .inl f2))] := hD
  have hK : va_K (dC, dI) vwCl [(kc, .int)] s := hK
  refine W.widen (k := 0) (n := 0) (Nat.le_of_ble_eq_true rfl) (Nat.le_of_ble_eq_true rfl) ?_
  refine lv_if_ne (tgt := 13) hx hb dX11_let_8 (by decide) (fun c_8 => ?_) (fun c_8 => ?_)
  · refine lv_aload_n hx hb dX11_let_13 rfl (lv_at hl 0 rfl) ?_
    refine va_get (D := (dC, dI)) (ci := 11) (v := .ref sw) (C := RX11) (T := TX11) (N := 17) hx hb hts hin11 hown hK hP 0 rfl rfl 7 (by decide) (ho (.fieldLink RX11 49 "NearEnough" "shown" "LNearEnough$Shown;") (List.mem_of_getElem? (i := 1) rfl)) (fun _ h9 => h9) rfl dX11_let_14 ?_
    refine lv_iconst (v := 0) hx hb dX11_let_17 (by decide) ?_
    have hPc := hP.sub (ws' := [(sw, .inr (8, [.ref td, .ref ch, .ref w1, .ref w2, .long 0, .long 0, .int 0, .int 0, .int 0])), (td, .inr (3, [.ref r1, .ref r2, .ref r3, .ref r4, .ref r5, .int 0, .int 0, .int 0]))]) [2, 1] rfl
    have hDc := hD.sub (ws' := [(sw, .inr (8, [.ref td, .ref ch, .ref w1, .ref w2, .long 0, .long 0, .int 0, .int 0, .int 0])), (td, .inr (3, [.ref r1, .ref r2, .ref r3, .ref r4, .ref r5, .int 0, .int 0, .int 0]))]) [2, 1] (by decide) rfl
    have hKc := hK.sub (tys' := []) [] rfl
    refine zz_i (wr := [(h0, .inr (11, [.ref tp, .int 0, .int 0, .int (-1), .ref td, .ref sh, .ref ch, .ref sw, .ref wk, .ref g1, .ref g2, .ref g3, .int 0, .int 0, .ref tl, .null, .null])), (ch, .inr (0, [.ref a1, .ref a2, .ref a3, .ref a4, .ref a5, .int 0, .int b1])), (a5, .inl (kc, 12, .inl f2))]) (va_runV (As := [.int 0]) (rest := []) ⟨hx, hb, hml, hown, hts⟩ (c_show l dC dI sw ch w1 w2 td r1 r2 r3 r4 r5 0 0 0 H.size) (cwV 1 hts gd_c_let_205_c_show rfl rfl rfl (by decide +kernel) ⟨Nat.le_of_ble_eq_true rfl, Nat.le_of_ble_eq_true rfl⟩) (preV hPc hKc hDc hE (ci := 8) (q0 := 0) rfl rfl) rfl rfl hl.1 rfl (lv_room (Nat.le_of_ble_eq_true rfl)) dX11_let_18 ⟨Nat.le_of_ble_eq_true rfl, Nat.le_of_ble_eq_true rfl⟩) hK hP hD hS hA [2, 1] [0, 3, 4] rfl rfl (by decide) (by decide) (fun u H locs hK hP hD hS => ?_)
    have hP : va_P (dC, dI) vwCl [(h0, .inr (11, [.ref tp, .int 0, .int 0, .int (-1), .ref td, .ref sh, .ref ch, .ref sw, .ref wk, .ref g1, .ref g2, .ref g3, .int 0, .int 0, .ref tl, .null, .null])), (ch, .inr (0, [.ref a1, .ref a2, .ref a3, .ref a4, .ref a5, .int 0, .int b1])), (a5, .inl (kc, 12, .inl f2)), (sw, .inr (8, [.ref td, .ref ch, .ref w1, .ref w2, .long 0, .long 0, .int 0, .int 0, .int 0])), (td, .inr (3, [.ref r1, .ref r2, .ref r3, .ref r4, .ref r5, .int 0, .int 0, .int 0]))] H := hP
    have hD : va_D A [(h0, .inr (11, [.ref tp, .int 0, .int 0, .int (-1), .ref td, .ref sh, .ref ch, .ref sw, .ref wk, .ref g1, .ref g2, .ref g3, .int 0, .int 0, .ref tl, .null, .null])), (ch, .inr (0, [.ref a1, .ref a2, .ref a3, .ref a4, .ref a5, .int 0, .int b1])), (a5, .inl (kc, 12, .inl f2)), (sw, .inr (8, [.ref td, .ref ch, .ref w1, .ref w2, .long 0, .long 0, .int 0, .int 0, .int 0])), (td, .inr (3, [.ref r1, .ref r2, .ref r3, .ref r4, .ref r5, .int 0, .int 0, .int 0]))] := hD
    have hK : va_K (dC, dI) vwCl [(kc, .int)] s := hK
    refine W.widen (k := 0) (n := 0) (Nat.le_of_ble_eq_true rfl) (Nat.le_of_ble_eq_true rfl) ?_
    refine lv_iconst (v := (-1)) hx hb dX11_let_21 (by decide) ?_
    refine lv_icmp_ne (tgt := 36) hx hb dX11_let_22 (by decide) (fun cc => absurd cc (by decide)) (fun _ => ?_)
    refine lv_aload_n hx hb dX11_let_25 rfl (lv_at hl 0 rfl) ?_
    have hPc := hP.sub (ws' := [(h0, .inr (11, [.ref tp, .int 0, .int 0, .int (-1), .ref td, .ref sh, .ref ch, .ref sw, .ref wk, .ref g1, .ref g2, .ref g3, .int 0, .int 0, .ref tl, .null, .null])), (td, .inr (3, [.ref r1, .ref r2, .ref r3, .ref r4, .ref r5, .int 0, .int 0, .int 0]))]) [0, 4] rfl
    have hDc := hD.sub (ws' := [(h0, .inr (11, [.ref tp, .int 0, .int 0, .int (-1), .ref td, .ref sh, .ref ch, .ref sw, .ref wk, .ref g1, .ref g2, .ref g3, .int 0, .int 0, .ref tl, .null, .null])), (td, .inr (3, [.ref r1, .ref r2, .ref r3, .ref r4, .ref r5, .int 0, .int 0, .int 0]))]) [0, 4] (by decide) rfl
    have hKc := hK.sub (tys' := []) [] rfl
    refine zz_i (wr := [(ch, .inr (0, [.ref a1, .ref a2, .ref a3, .ref a4, .ref a5, .int 0, .int b1])), (a5, .inl (kc, 12, .inl f2)), (sw, .inr (8, [.ref td, .ref ch, .ref w1, .ref w2, .long 0, .long 0, .int 0, .int 0, .int 0]))]) (va_runV (As := []) (rest := []) ⟨hx, hb, hml, hown, hts⟩ (c_isLet l dC dI h0 tp td sh ch sw wk g1 g2 g3 tl r1 r2 r3 r4 r5 H.size) (cwV 0 hts gd_c_let_277_c_isLet rfl rfl rfl (by decide +kernel) ⟨Nat.le_of_ble_eq_true rfl, Nat.le_of_ble_eq_true rfl⟩) (preV hPc hKc hDc hE (ci := 11) (q0 := 0) rfl rfl) rfl rfl hl.1 rfl (lv_room (Nat.le_of_ble_eq_true rfl)) dX11_let_26 ⟨Nat.le_of_ble_eq_true rfl, Nat.le_of_ble_eq_true rfl⟩) hK hP hD hS hA [0, 4] [1, 2, 3] rfl rfl (by decide) (by decide) (fun u H locs hK hP hD hS => ?_)
    have hP : va_P (dC, dI) vwCl [(ch, .inr (0, [.ref a1, .ref a2, .ref a3, .ref a4, .ref a5, .int 0, .int b1])), (a5, .inl (kc, 12, .inl f2)), (sw, .inr (8, [.ref td, .ref ch, .ref w1, .ref w2, .long 0, .long 0, .int 0, .int 0, .int 0])), (h0, .inr (11, [.ref tp, .int 0, .int 0, .int (-1), .ref td, .ref sh, .ref ch, .ref sw, .ref wk, .ref g1, .ref g2, .ref g3, .int 0, .int 0, .ref tl, .null, .null])), (td, .inr (3, [.ref r1, .ref r2, .ref r3, .ref r4, .ref r5, .int 0, .int 0, .int 0]))] H := hP
    have hD : va_D A [(ch, .inr (0, [.ref a1, .ref a2, .ref a3, .ref a4, .ref a5, .int 0, .int b1])), (a5, .inl (kc, 12, .inl f2)), (sw, .inr (8, [.ref td, .ref ch, .ref w1, .ref w2, .long 0, .long 0, .int 0, .int 0, .int 0])), (h0, .inr (11, [.ref tp, .int 0, .int 0, .int (-1), .ref td, .ref sh, .ref ch, .ref sw, .ref wk, .ref g1, .ref g2, .ref g3, .int 0, .int 0, .ref tl, .null, .null])), (td, .inr (3, [.ref r1, .ref r2, .ref r3, .ref r4, .ref r5, .int 0, .int 0, .int 0]))] := hD
    have hK : va_K (dC, dI) vwCl [(kc, .int)] s := hK
    refine W.widen (k := 0) (n := 0) (Nat.le_of_ble_eq_true rfl) (Nat.le_of_ble_eq_true rfl) ?_
    refine lv_if_eq (tgt := 36) hx hb dX11_let_29 (by decide) (fun cc => absurd cc (by decide)) (fun _ => ?_)
    refine lv_iconst (v := 1) hx hb dX11_let_32 (by decide) ?_
    refine lv_goto (tgt := 37) hx hb dX11_let_33 (by decide) ?_
    refine W.widen (k := 0) (n := 0) (Nat.le_of_ble_eq_true rfl) (Nat.le_of_ble_eq_true rfl) ?_
    exact W.iret (v := 1) hx hb hr (fun t ht hW => ⟨⟨1, (), rfl, (by first | exact (if_pos (Classical.byContradiction c_8)).symm | exact (if_neg c_8).symm | exact (if_pos c_8).symm), wEn_of (hP.sub [] rfl) (hK.sub [] rfl) (hD.sub [] (by decide) rfl) ht hW⟩, hS.F ht⟩) hS.2.2 dX11_let_37
  · refine lv_iconst (v := (-1)) hx hb dX11_let_11 (by decide) ?_
    refine W.widen (k := 0) (n := 0) (Nat.le_of_ble_eq_true rfl) (Nat.le_of_ble_eq_true rfl) ?_
    exact W.iret (v := (-1)) hx hb hr (fun t ht hW => ⟨⟨(-1), (), rfl, (by first | exact (if_pos (Classical.byContradiction c_8)).symm | exact (if_neg c_8).symm | exact (if_pos c_8).symm), wEn_of (hP.sub [] rfl) (hK.sub [] rfl) (hD.sub [] (by decide) rfl) ht hW⟩, hS.F ht⟩) hS.2.2 dX11_let_12
def ow_c_best : List Cond := [.fieldLink RX11 49 "NearEnough" "shown" "LNearEnough$Shown;", .fieldLink RX11 40 "NearEnough" "changes" "LNearEnough$Changes;", .fieldLink RX11 314 "NearEnough$Changes" "bits" "I"]
def vs_c_best : List Cond := .code yX11_best cX11_best 5 (some .int) :: (ow_c_best ++ (([.methodLink RX11 308 yX8_restart, .instanceMethod yX8_restart, .selects RX8 yX8_restart yX8_restart, .initialized RX8] : List Cond) ++ (vs_c_restart ++ (([.methodLink RX11 311 yX8_next, .instanceMethod yX8_next, .selects RX8 yX8_next yX8_next, .initialized RX8] : List Cond) ++ (vs_c_next1 ++ (([.methodLink RX11 260 yX0_savedBy, .instanceMethod yX0_savedBy, .selects RX0 yX0_savedBy yX0_savedBy, .initialized RX0] : List Cond) ++ (vs_c_savedBy ++ (([.methodLink RX11 317 yX11_isBetter, .static yX11_isBetter, .initialized yX11_isBetter.cls] : List Cond) ++ (vs_c_isBetter0 ++ (vs_c_next2 ++ (wsX00 ++ (wsX110))))))))))))
theorem vg_c_best : vs_c_best.all goodWord = true := by decide +kernel
theorem gd_c_best_308_c_restart : GoodIn vs_c_best (wsV RX11 308 RX8 yX8_restart vs_c_restart) := goodIn_app (goodIn_sub (fun w h => (List.mem_cons_of_mem _ (List.mem_append_right _ (List.mem_append_left _ h)))) (by decide +kernel)) (goodIn_sub (fun w h => (List.mem_cons_of_mem _ (List.mem_append_right _ (List.mem_append_right _ (List.mem_append_left _ h))))) vg_c_restart)
theorem gd_c_best_311_c_next1 : GoodIn vs_c_best (wsV RX11 311 RX8 yX8_next vs_c_next1) := goodIn_app (goodIn_sub (fun w h => (List.mem_cons_of_mem _ (List.mem_append_right _ (List.mem_append_right _ (List.mem_append_right _ (List.mem_append_left _ h)))))) (by decide +kernel)) (goodIn_sub (fun w h => (List.mem_cons_of_mem _ (List.mem_append_right _ (List.mem_append_right _ (List.mem_append_right _ (List.mem_append_right _ (List.mem_append_left _ h))))))) vg_c_next1)
theorem gd_c_best_260_c_savedBy : GoodIn vs_c_best (wsV RX11 260 RX0 yX0_savedBy vs_c_savedBy) := goodIn_app (goodIn_sub (fun w h => (List.mem_cons_of_mem _ (List.mem_append_right _ (List.mem_append_right _ (List.mem_append_right _ (List.mem_append_right _ (List.mem_append_right _ (List.mem_append_left _ h)))))))) (by decide +kernel)) (goodIn_sub (fun w h => (List.mem_cons_of_mem _ (List.mem_append_right _ (List.mem_append_right _ (List.mem_append_right _ (List.mem_append_right _ (List.mem_append_right _ (List.mem_append_right _ (List.mem_append_left _ h))))))))) vg_c_savedBy)
theorem gd_c_best_317_c_isBetter0 : GoodIn vs_c_best (va_wsS RX11 317 yX11_isBetter vs_c_isBetter0) := goodIn_app (goodIn_sub (fun w h => (List.mem_cons_of_mem _ (List.mem_append_right _ (List.mem_append_right _ (List.mem_append_right _ (List.mem_append_right _ (List.mem_append_right _ (List.mem_append_right _ (List.mem_append_right _ (List.mem_append_left _ h)))))))))) (by decide +kernel)) (goodIn_sub (fun w h => (List.mem_cons_of_mem _ (List.mem_append_right _ (List.mem_append_right _ (List.mem_append_right _ (List.mem_append_right _ (List.mem_append_right _ (List.mem_append_right _ (List.mem_append_right _ (List.mem_append_right _ (List.mem_append_left _ h))))))))))) vg_c_isBetter0)
theorem gd_c_best_311_c_next2 : GoodIn vs_c_best (wsV RX11 311 RX8 yX8_next vs_c_next2) := goodIn_app (goodIn_sub (fun w h => (List.mem_cons_of_mem _ (List.mem_append_right _ (List.mem_append_right _ (List.mem_append_right _ (List.mem_append_left _ h)))))) (by decide +kernel)) (goodIn_sub (fun w h => (List.mem_cons_of_mem _ (List.mem_append_right _ (List.mem_append_right _ (List.mem_append_right _ (List.mem_append_right _ (List.mem_append_right _ (List.mem_append_right _ (List.mem_append_right _ (List.mem_append_right _ (List.mem_append_right _ (List.mem_append_left _ h)))))))))))) vg_c_next2)
set_option maxHeartbeats 4000000 in
set_option maxRecDepth 100000 in
theorem c_best (l : Launch) (dC : Nat → ClassId) (dI : Nat → Nat → Nat) (h0 : Nat) (tp : Nat) (td : Nat) (sh : Nat) (ch : Nat) (sw : Nat) (wk : Nat) (g1 : Nat) (g2 : Nat) (g3 : Nat) (tl : Nat) (r1 : Nat) (r2 : Nat) (r3 : Nat) (r4 : Nat) (r5 : Nat) (w1 : Nat) (w2 : Nat) (a1 : Nat) (a2 : Nat) (a3 : Nat) (a4 : Nat) (a5 : Nat) (kc : ClassId) (sz : Nat) : Met l yX11_best vs_c_best ({ frames := 3, cells := 0, slots := 0, locals := 65 }) (va_Pc [.ref h0] (wSt dC dI [(h0, .inr (11, [.ref tp, .int 0, .int 0, .int (-1), .ref td, .ref sh, .ref ch, .ref sw, .ref wk, .ref g1, .ref g2, .ref g3, .int 0, .int 0, .ref tl, .null, .null])), (td, .inr (3, [.ref r1, .ref r2, .ref r3, .ref r4, .ref r5, .int 0, .int 0, .int 0])), (sw, .inr (8, [.ref td, .ref ch, .ref w1, .ref w2, .long 0, .long 0, .int 0, .int 0, .int 0])), (ch, .inr (0, [.ref a1, .ref a2, .ref a3, .ref a4, .ref a5, .int 0, .int 0])), (a5, .inl (kc, 12, .inl (fun _ => 0)))] [(kc, .int)] sz)) (va_Qi (fun (r : Int32) (_ : Unit) => r = 0) (fun (u : Unit) => wEn dC dI (va_A [(h0, .inr (11, [.ref tp, .int 0, .int 0, .int (-1), .ref td, .ref sh, .ref ch, .ref sw, .ref wk, .ref g1, .ref g2, .ref g3, .int 0, .int 0, .ref tl, .null, .null])), (td, .inr (3, [.ref r1, .ref r2, .ref r3, .ref r4, .ref r5, .int 0, .int 0, .int 0])), (sw, .inr (8, [.ref td, .ref ch, .ref w1, .ref w2, .long 0, .long 0, .int 0, .int 0, .int 0])), (ch, .inr (0, [.ref a1, .ref a2, .ref a3, .ref a4, .ref a5, .int 0, .int 0])), (a5, .inl (kc, 12, .inl (fun _ => 0)))] sz) [] []) (va_A [(h0, .inr (11, [.ref tp, .int 0, .int 0, .int (-1), .ref td, .ref sh, .ref ch, .ref sw, .ref wk, .ref g1, .ref g2, .ref g3, .int 0, .int 0, .ref tl, .null, .null])), (td, .inr (3, [.ref r1, .ref r2, .ref r3, .ref r4, .ref r5, .int 0, .int 0, .int 0])), (sw, .inr (8, [.ref td, .ref ch, .ref w1, .ref w2, .long 0, .long 0, .int 0, .int 0, .int 0])), (ch, .inr (0, [.ref a1, .ref a2, .ref a3, .ref a4, .ref a5, .int 0, .int 0])), (a5, .inl (kc, 12, .inl (fun _ => 0)))] sz)) 0 0 (va_A [(h0, .inr (11, [.ref tp, .int 0, .int 0, .int (-1), .ref td, .ref sh, .ref ch, .ref sw, .ref wk, .ref g1, .ref g2, .ref g3, .int 0, .int 0, .ref tl, .null, .null])), (td, .inr (3, [.ref r1, .ref r2, .ref r3, .ref r4, .ref r5, .int 0, .int 0, .int 0])), (sw, .inr (8, [.ref td, .ref ch, .ref w1, .ref w2, .long 0, .long 0, .int 0, .int 0, .int 0])), (ch, .inr (0, [.ref a1, .ref a2, .ref a3, .ref a4, .ref a5, .int 0, .int 0])), (a5, .inl (kc, 12, .inl (fun _ => 0)))] sz) := by
  refine Met.ofW (cc := cX11_best) (maxL := 5) (ret := (some .int)) (by decide) rfl ?_
  intro p e s m args below meth c s₁ B hml hv
  obtain ⟨rfl, hsz, hP, hK, hD0, hE⟩ := hv
  have hx := B.exec
  have hb := B.bytes
  have hr := B.returns
  have hts := atoms_spec (ws := vs_c_best) B.pre
  have hown : s.vm.findClass RX11 = some m.cls := findClass_of_methodNamed B.named
  have hlocks := B.notSynchronized
  subst hsz
  have hD := hD0.self (sz := s.heap.size)
  generalize hAe : va_A [(h0, .inr (11, [.ref tp, .int 0, .int 0, .int (-1), .ref td, .ref sh, .ref ch, .ref sw, .ref wk, .ref g1, .ref g2, .ref g3, .int 0, .int 0, .ref tl, .null, .null])), (td, .inr (3, [.ref r1, .ref r2, .ref r3, .ref r4, .ref r5, .int 0, .int 0, .int 0])), (sw, .inr (8, [.ref td, .ref ch, .ref w1, .ref w2, .long 0, .long 0, .int 0, .int 0, .int 0])), (ch, .inr (0, [.ref a1, .ref a2, .ref a3, .ref a4, .ref a5, .int 0, .int 0])), (a5, .inl (kc, 12, .inl (fun _ => 0)))] s.heap.size = A at hD ⊢
  have hA : ∀ q : Nat, s.heap.size ≤ q → A q := fun q h => by rw [← hAe]; exact Or.inr h
  have hl := lv_entry ([.ref h0]) (n := 5) (Nat.le_of_ble_eq_true rfl)
  rw [lg_entry_eq]
  generalize (lg_sl ([.ref h0]) ++ List.replicate (5 - (lg_sl ([.ref h0])).length) Slot.unset).toArray = ls at hl ⊢
  have hl : lv_has ls 5 [(0, .ref h0)] := hl
  refine zH (A := A) (ws := [(h0, .inr (11, [.ref tp, .int 0, .int 0, .int (-1), .ref td, .ref sh, .ref ch, .ref sw, .ref wk, .ref g1, .ref g2, .ref g3, .int 0, .int 0, .ref tl, .null, .null])), (td, .inr (3, [.ref r1, .ref r2, .ref r3, .ref r4, .ref r5, .int 0, .int 0, .int 0])), (sw, .inr (8, [.ref td, .ref ch, .ref w1, .ref w2, .long 0, .long 0, .int 0, .int 0, .int 0])), (ch, .inr (0, [.ref a1, .ref a2, .ref a3, .ref a4, .ref a5, .int 0, .int 0])), (a5, .inl (kc, 12, .inl (fun _ => 0)))]) (fun H hP hS => ?_) hP
  have ho := fun w (h : w ∈ ow_c_best) => hts w (List.mem_cons_of_mem _ (List.mem_append_left _ h))
  have hin0 : ∀ w ∈ u_ws RX0 TX0 7, w ∈ vs_c_best := fun w h => (List.mem_cons_of_mem _ (List.mem_append_right _ (List.mem_append_right _ (List.mem_append_right _ (List.mem_append_right _ (List.mem_append_right _ (List.mem_append_right _ (List.mem_append_right _ (List.mem_append_right _ (List.mem_append_right _ (List.mem_append_right _ (List.mem_append_left _ h))))))))))))
  have hin11 : ∀ w ∈ u_ws RX11 TX11 17, w ∈ vs_c_best := fun w h => (List.mem_cons_of_mem _ (List.mem_append_right _ (List.mem_append_right _ (List.mem_append_right _ (List.mem_append_right _ (List.mem_append_right _ (List.mem_append_right _ (List.mem_append_right _ (List.mem_append_right _ (List.mem_append_right _ (List.mem_append_right _ (List.mem_append_right _ h))))))))))))
  refine lv_iconst (v := 0) hx hb dX11_best_0 (by decide) ?_
  refine lv_istore_n (lv' := [(1, .int 0), (0, .ref h0)]) hx hb dX11_best_1 rfl hl (by decide) rfl (fun ls hl => ?_)
  refine lv_iconst (v := 0) hx hb dX11_best_2 (by decide) ?_
  refine lv_istore_n (lv' := [(2, .int 0), (1, .int 0), (0, .ref h0)]) hx hb dX11_best_3 rfl hl (by decide) rfl (fun ls hl => ?_)
  refine lv_aload_n hx hb dX11_best_4 rfl (lv_at hl 2 rfl) ?_
  refine va_get (D := (dC, dI)) (ci := 11) (v := .ref sw) (C := RX11) (T := TX11) (N := 17) hx hb hts hin11 hown hK hP 0 rfl rfl 7 (by decide) (ho (.fieldLink RX11 49 "NearEnough" "shown" "LNearEnough$Shown;") (List.mem_of_getElem? (i := 0) rfl)) (fun _ h9 => h9) rfl dX11_best_5 ?_
  have hPc := hP.sub (ws' := [(sw, .inr (8, [.ref td, .ref ch, .ref w1, .ref w2, .long 0, .long 0, .int 0, .int 0, .int 0])), (ch, .inr (0, [.ref a1, .ref a2, .ref a3, .ref a4, .ref a5, .int 0, .int 0])), (a5, .inl (kc, 12, .inl (fun _ => 0)))]) [2, 3, 4] rfl
  have hDc := hD.sub (ws' := [(sw, .inr (8, [.ref td, .ref ch, .ref w1, .ref w2, .long 0, .long 0, .int 0, .int 0, .int 0])), (ch, .inr (0, [.ref a1, .ref a2, .ref a3, .ref a4, .ref a5, .int 0, .int 0])), (a5, .inl (kc, 12, .inl (fun _ => 0)))]) [2, 3, 4] (by decide) rfl
  have hKc := hK.sub (tys' := [(kc, .int)]) [0] rfl
  refine zz_v (wr := [(h0, .inr (11, [.ref tp, .int 0, .int 0, .int (-1), .ref td, .ref sh, .ref ch, .ref sw, .ref wk, .ref g1, .ref g2, .ref g3, .int 0, .int 0, .ref tl, .null, .null])), (td, .inr (3, [.ref r1, .ref r2, .ref r3, .ref r4, .ref r5, .int 0, .int 0, .int 0]))]) (va_runV (As := []) (rest := []) ⟨hx, hb, hml, hown, hts⟩ (c_restart l dC dI sw ch w1 w2 td a1 a2 a3 a4 a5 kc (fun _ => 0) 0 0 0 0 H.size) (cwV 0 hts gd_c_best_308_c_restart rfl rfl rfl (by decide +kernel) ⟨Nat.le_of_ble_eq_true rfl, Nat.le_of_ble_eq_true rfl⟩) (preV hPc hKc hDc hE (ci := 8) (q0 := 0) rfl rfl) rfl rfl hl.1 rfl (lv_room (Nat.le_of_ble_eq_true rfl)) dX11_best_8 ⟨Nat.le_of_ble_eq_true rfl, Nat.le_of_ble_eq_true rfl⟩) hK hP hD hS hA [2, 3, 4] [0, 1] rfl rfl (by decide) (by decide) (fun f1 H locs hK hP hD hS => ?_)
  have hP : va_P (dC, dI) vwCl [(h0, .inr (11, [.ref tp, .int 0, .int 0, .int (-1), .ref td, .ref sh, .ref ch, .ref sw, .ref wk, .ref g1, .ref g2, .ref g3, .int 0, .int 0, .ref tl, .null, .null])), (td, .inr (3, [.ref r1, .ref r2, .ref r3, .ref r4, .ref r5, .int 0, .int 0, .int 0])), (sw, .inr (8, [.ref td, .ref ch, .ref w1, .ref w2, .long 0, .long 0, .int 0, .int 0, .int 0])), (ch, .inr (0, [.ref a1, .ref a2, .ref a3, .ref a4, .ref a5, .int 0, .int 0])), (a5, .inl (kc, 12, .inl f1))] H := hP
  have hD : va_D A [(h0, .inr (11, [.ref tp, .int 0, .int 0, .int (-1), .ref td, .ref sh, .ref ch, .ref sw, .ref wk, .ref g1, .ref g2, .ref g3, .int 0, .int 0, .ref tl, .null, .null])), (td, .inr (3, [.ref r1, .ref r2, .ref r3, .ref r4, .ref r5, .int 0, .int 0, .int 0])), (sw, .inr (8, [.ref td, .ref ch, .ref w1, .ref w2, .long 0, .long 0, .int 0, .int 0, .int 0])), (ch, .inr (0, [.ref a1, .ref a2, .ref a3, .ref a4, .ref a5, .int 0, .int 0])), (a5, .inl (kc, 12, .inl f1))] := hD
  have hK : va_K (dC, dI) vwCl [(kc, .int)] s := hK
  refine W.widen (k := 0) (n := 0) (Nat.le_of_ble_eq_true rfl) (Nat.le_of_ble_eq_true rfl) ?_
  refine lv_iconst (v := 0) hx hb dX11_best_11 (by decide) ?_
  refine lv_istore_n (lv' := [(3, .int 0), (2, .int 0), (1, .int 0), (0, .ref h0)]) hx hb dX11_best_12 rfl hl (by decide) rfl (fun ls hl => ?_)
  refine lv_iload_n hx hb dX11_best_13 rfl (lv_at hl 0 rfl) ?_
  refine lv_sipush (v := 4096) hx hb dX11_best_14 (by decide) ?_
  refine lv_icmp_ge (tgt := 87) hx hb dX11_best_17 (by decide) (fun cc => absurd cc (by decide)) (fun _ => ?_)
  refine lv_aload_n hx hb dX11_best_20 rfl (lv_at hl 3 rfl) ?_
  refine va_get (D := (dC, dI)) (ci := 11) (v := .ref sw) (C := RX11) (T := TX11) (N := 17) hx hb hts hin11 hown hK hP 0 rfl rfl 7 (by decide) (ho (.fieldLink RX11 49 "NearEnough" "shown" "LNearEnough$Shown;") (List.mem_of_getElem? (i := 0) rfl)) (fun _ h9 => h9) rfl dX11_best_21 ?_
  have hPc := hP.sub (ws' := [(sw, .inr (8, [.ref td, .ref ch, .ref w1, .ref w2, .long 0, .long 0, .int 0, .int 0, .int 0])), (td, .inr (3, [.ref r1, .ref r2, .ref r3, .ref r4, .ref r5, .int 0, .int 0, .int 0]))]) [2, 1] rfl
  have hDc := hD.sub (ws' := [(sw, .inr (8, [.ref td, .ref ch, .ref w1, .ref w2, .long 0, .long 0, .int 0, .int 0, .int 0])), (td, .inr (3, [.ref r1, .ref r2, .ref r3, .ref r4, .ref r5, .int 0, .int 0, .int 0]))]) [2, 1] (by decide) rfl
  have hKc := hK.sub (tys' := []) [] rfl
  refine zz_i (wr := [(h0, .inr (11, [.ref tp, .int 0, .int 0, .int (-1), .ref td, .ref sh, .ref ch, .ref sw, .ref wk, .ref g1, .ref g2, .ref g3, .int 0, .int 0, .ref tl, .null, .null])), (ch, .inr (0, [.ref a1, .ref a2, .ref a3, .ref a4, .ref a5, .int 0, .int 0])), (a5, .inl (kc, 12, .inl f1))]) (va_runV (As := []) (rest := []) ⟨hx, hb, hml, hown, hts⟩ (c_next1 l dC dI sw ch w1 w2 td r1 r2 r3 r4 r5 0 0 H.size) (cwV 0 hts gd_c_best_311_c_next1 rfl rfl rfl (by decide +kernel) ⟨Nat.le_of_ble_eq_true rfl, Nat.le_of_ble_eq_true rfl⟩) (preV hPc hKc hDc hE (ci := 8) (q0 := 0) rfl rfl) rfl rfl hl.1 rfl (lv_room (Nat.le_of_ble_eq_true rfl)) dX11_best_24 ⟨Nat.le_of_ble_eq_true rfl, Nat.le_of_ble_eq_true rfl⟩) hK hP hD hS hA [2, 1] [0, 3, 4] rfl rfl (by decide) (by decide) (fun u H locs hK hP hD hS => ?_)
  have hP : va_P (dC, dI) vwCl [(h0, .inr (11, [.ref tp, .int 0, .int 0, .int (-1), .ref td, .ref sh, .ref ch, .ref sw, .ref wk, .ref g1, .ref g2, .ref g3, .int 0, .int 0, .ref tl, .null, .null])), (ch, .inr (0, [.ref a1, .ref a2, .ref a3, .ref a4, .ref a5, .int 0, .int 0])), (a5, .inl (kc, 12, .inl f1)), (sw, .inr (8, [.ref td, .ref ch, .ref w1, .ref w2, .long 0, .long 0, .int 1, .int (-1), .int 0])), (td, .inr (3, [.ref r1, .ref r2, .ref r3, .ref r4, .ref r5, .int 0, .int 0, .int 0]))] H := hP
  have hD : va_D A [(h0, .inr (11, [.ref tp, .int 0, .int 0, .int (-1), .ref td, .ref sh, .ref ch, .ref sw, .ref wk, .ref g1, .ref g2, .ref g3, .int 0, .int 0, .ref tl, .null, .null])), (ch, .inr (0, [.ref a1, .ref a2, .ref a3, .ref a4, .ref a5, .int 0, .int 0])), (a5, .inl (kc, 12, .inl f1)), (sw, .inr (8, [.ref td, .ref ch, .ref w1, .ref w2, .long 0, .long 0, .int 1, .int (-1), .int 0])), (td, .inr (3, [.ref r1, .ref r2, .ref r3, .ref r4, .ref r5, .int 0, .int 0, .int 0]))] := hD
  have hK : va_K (dC, dI) vwCl [(kc, .int)] s := hK
  refine W.widen (k := 0) (n := 0) (Nat.le_of_ble_eq_true rfl) (Nat.le_of_ble_eq_true rfl) ?_
  refine lv_if_eq (tgt := 87) hx hb dX11_best_27 (by decide) (fun cc => absurd cc (by decide)) (fun _ => ?_)
  refine lv_aload_n hx hb dX11_best_30 rfl (lv_at hl 3 rfl) ?_
  refine va_get (D := (dC, dI)) (ci := 11) (v := .ref ch) (C := RX11) (T := TX11) (N := 17) hx hb hts hin11 hown hK hP 0 rfl rfl 6 (by decide) (ho (.fieldLink RX11 40 "NearEnough" "changes" "LNearEnough$Changes;") (List.mem_of_getElem? (i := 1) rfl)) (fun _ h9 => h9) rfl dX11_best_31 ?_
  refine lv_aload_n hx hb dX11_best_34 rfl (lv_at hl 3 rfl) ?_
  refine va_get (D := (dC, dI)) (ci := 11) (v := .ref ch) (C := RX11) (T := TX11) (N := 17) hx hb hts hin11 hown hK hP 0 rfl rfl 6 (by decide) (ho (.fieldLink RX11 40 "NearEnough" "changes" "LNearEnough$Changes;") (List.mem_of_getElem? (i := 1) rfl)) (fun _ h9 => h9) rfl dX11_best_35 ?_
  refine va_get (D := (dC, dI)) (ci := 0) (v := .int 0) (C := RX0) (T := TX0) (N := 7) hx hb hts hin0 hown hK hP 1 rfl rfl 6 (by decide) (ho (.fieldLink RX11 314 "NearEnough$Changes" "bits" "I") (List.mem_of_getElem? (i := 2) rfl)) (fun _ h9 => h9) rfl dX11_best_38 ?_
  have hPc := hP.sub (ws' := [(ch, .inr (0, [.ref a1, .ref a2, .ref a3, .ref a4, .ref a5, .int 0, .int 0]))]) [1] rfl
  have hDc := hD.sub (ws' := [(ch, .inr (0, [.ref a1, .ref a2, .ref a3, .ref a4, .ref a5, .int 0, .int 0]))]) [1] (by decide) rfl
  have hKc := hK.sub (tys' := []) [] rfl
  refine zz_i (wr := [(h0, .inr (11, [.ref tp, .int 0, .int 0, .int (-1), .ref td, .ref sh, .ref ch, .ref sw, .ref wk, .ref g1, .ref g2, .ref g3, .int 0, .int 0, .ref tl, .null, .null])), (a5, .inl (kc, 12, .inl f1)), (sw, .inr (8, [.ref td, .ref ch, .ref w1, .ref w2, .long 0, .long 0, .int 1, .int (-1), .int 0])), (td, .inr (3, [.ref r1, .ref r2, .ref r3, .ref r4, .ref r5, .int 0, .int 0, .int 0]))]) (va_runV (As := [.int 0]) (rest := []) ⟨hx, hb, hml, hown, hts⟩ (c_savedBy l dC dI ch a1 a2 a3 a4 a5 0 0 H.size) (cwV 1 hts gd_c_best_260_c_savedBy rfl rfl rfl (by decide +kernel) ⟨Nat.le_of_ble_eq_true rfl, Nat.le_of_ble_eq_true rfl⟩) (preV hPc hKc hDc hE (ci := 0) (q0 := 0) rfl rfl) rfl rfl hl.1 rfl (lv_room (Nat.le_of_ble_eq_true rfl)) dX11_best_41 ⟨Nat.le_of_ble_eq_true rfl, Nat.le_of_ble_eq_true rfl⟩) hK hP hD hS hA [1] [0, 2, 3, 4] rfl rfl (by decide) (by decide) (fun u H locs hK hP hD hS => ?_)
  have hP : va_P (dC, dI) vwCl [(h0, .inr (11, [.ref tp, .int 0, .int 0, .int (-1), .ref td, .ref sh, .ref ch, .ref sw, .ref wk, .ref g1, .ref g2, .ref g3, .int 0, .int 0, .ref tl, .null, .null])), (a5, .inl (kc, 12, .inl f1)), (sw, .inr (8, [.ref td, .ref ch, .ref w1, .ref w2, .long 0, .long 0, .int 1, .int (-1), .int 0])), (td, .inr (3, [.ref r1, .ref r2, .ref r3, .ref r4, .ref r5, .int 0, .int 0, .int 0])), (ch, .inr (0, [.ref a1, .ref a2, .ref a3, .ref a4, .ref a5, .int 0, .int 0]))] H := hP
  have hD : va_D A [(h0, .inr (11, [.ref tp, .int 0, .int 0, .int (-1), .ref td, .ref sh, .ref ch, .ref sw, .ref wk, .ref g1, .ref g2, .ref g3, .int 0, .int 0, .ref tl, .null, .null])), (a5, .inl (kc, 12, .inl f1)), (sw, .inr (8, [.ref td, .ref ch, .ref w1, .ref w2, .long 0, .long 0, .int 1, .int (-1), .int 0])), (td, .inr (3, [.ref r1, .ref r2, .ref r3, .ref r4, .ref r5, .int 0, .int 0, .int 0])), (ch, .inr (0, [.ref a1, .ref a2, .ref a3, .ref a4, .ref a5, .int 0, .int 0]))] := hD
  have hK : va_K (dC, dI) vwCl [(kc, .int)] s := hK
  refine W.widen (k := 0) (n := 0) (Nat.le_of_ble_eq_true rfl) (Nat.le_of_ble_eq_true rfl) ?_
  refine lv_istore (lv' := [(4, .int 0), (3, .int 0), (2, .int 0), (1, .int 0), (0, .ref h0)]) hx hb dX11_best_44 hl (by decide) rfl (fun ls hl => ?_)
  refine lv_iload hx hb dX11_best_46 (lv_at hl 0 rfl) ?_
  refine lv_aload_n hx hb dX11_best_48 rfl (lv_at hl 4 rfl) ?_
  refine va_get (D := (dC, dI)) (ci := 11) (v := .ref ch) (C := RX11) (T := TX11) (N := 17) hx hb hts hin11 hown hK hP 0 rfl rfl 6 (by decide) (ho (.fieldLink RX11 40 "NearEnough" "changes" "LNearEnough$Changes;") (List.mem_of_getElem? (i := 1) rfl)) (fun _ h9 => h9) rfl dX11_best_49 ?_
  refine va_get (D := (dC, dI)) (ci := 0) (v := .int 0) (C := RX0) (T := TX0) (N := 7) hx hb hts hin0 hown hK hP 4 rfl rfl 6 (by decide) (ho (.fieldLink RX11 314 "NearEnough$Changes" "bits" "I") (List.mem_of_getElem? (i := 2) rfl)) (fun _ h9 => h9) rfl dX11_best_52 ?_
  refine lv_iload_n hx hb dX11_best_55 rfl (lv_at hl 2 rfl) ?_
  refine lv_iload_n hx hb dX11_best_56 rfl (lv_at hl 3 rfl) ?_
  have hPc := hP.sub (ws' := []) [] rfl
  have hDc := hD.sub (ws' := []) [] (by decide) rfl
  have hKc := hK.sub (tys' := []) [] rfl
  refine zz_i (wr := [(h0, .inr (11, [.ref tp, .int 0, .int 0, .int (-1), .ref td, .ref sh, .ref ch, .ref sw, .ref wk, .ref g1, .ref g2, .ref g3, .int 0, .int 0, .ref tl, .null, .null])), (a5, .inl (kc, 12, .inl f1)), (sw, .inr (8, [.ref td, .ref ch, .ref w1, .ref w2, .long 0, .long 0, .int 1, .int (-1), .int 0])), (td, .inr (3, [.ref r1, .ref r2, .ref r3, .ref r4, .ref r5, .int 0, .int 0, .int 0])), (ch, .inr (0, [.ref a1, .ref a2, .ref a3, .ref a4, .ref a5, .int 0, .int 0]))]) (va_runS (As := [.int 0, .int 0, .int 0, .int 0]) (rest := []) ⟨hx, hb, hml, hown, hts⟩ (c_isBetter0 l dC dI H.size) (va_cwS 4 hts gd_c_best_317_c_isBetter0 rfl rfl rfl (by decide +kernel) ⟨Nat.le_of_ble_eq_true rfl, Nat.le_of_ble_eq_true rfl⟩) (preS hPc hKc hDc hE) rfl rfl hl.1 rfl (lv_room (Nat.le_of_ble_eq_true rfl)) dX11_best_57 ⟨Nat.le_of_ble_eq_true rfl, Nat.le_of_ble_eq_true rfl⟩) hK hP hD hS hA [] [0, 1, 2, 3, 4] rfl rfl (by decide) (by decide) (fun u H locs hK hP hD hS => ?_)
  have hP : va_P (dC, dI) vwCl [(h0, .inr (11, [.ref tp, .int 0, .int 0, .int (-1), .ref td, .ref sh, .ref ch, .ref sw, .ref wk, .ref g1, .ref g2, .ref g3, .int 0, .int 0, .ref tl, .null, .null])), (a5, .inl (kc, 12, .inl f1)), (sw, .inr (8, [.ref td, .ref ch, .ref w1, .ref w2, .long 0, .long 0, .int 1, .int (-1), .int 0])), (td, .inr (3, [.ref r1, .ref r2, .ref r3, .ref r4, .ref r5, .int 0, .int 0, .int 0])), (ch, .inr (0, [.ref a1, .ref a2, .ref a3, .ref a4, .ref a5, .int 0, .int 0]))] H := hP
  have hD : va_D A [(h0, .inr (11, [.ref tp, .int 0, .int 0, .int (-1), .ref td, .ref sh, .ref ch, .ref sw, .ref wk, .ref g1, .ref g2, .ref g3, .int 0, .int 0, .ref tl, .null, .null])), (a5, .inl (kc, 12, .inl f1)), (sw, .inr (8, [.ref td, .ref ch, .ref w1, .ref w2, .long 0, .long 0, .int 1, .int (-1), .int 0])), (td, .inr (3, [.ref r1, .ref r2, .ref r3, .ref r4, .ref r5, .int 0, .int 0, .int 0])), (ch, .inr (0, [.ref a1, .ref a2, .ref a3, .ref a4, .ref a5, .int 0, .int 0]))] := hD
  have hK : va_K (dC, dI) vwCl [(kc, .int)] s := hK
  refine W.widen (k := 0) (n := 0) (Nat.le_of_ble_eq_true rfl) (Nat.le_of_ble_eq_true rfl) ?_
  refine lv_if_eq (tgt := 81) hx hb dX11_best_60 (by decide) (fun _ => ?_) (fun cc => absurd (by decide) cc)
  refine lv_iinc (v := 1) (lv' := [(3, .int 1), (4, .int 0), (2, .int 0), (1, .int 0), (0, .ref h0)]) hx hb dX11_best_81 hl (k := 1) rfl (by decide) (by decide) rfl (fun ls hl => ?_)
  refine lv_goto (tgt := 13) hx hb dX11_best_84 (by decide) ?_
  refine lv_iload_n hx hb dX11_best_13 rfl (lv_at hl 0 rfl) ?_
  refine lv_sipush (v := 4096) hx hb dX11_best_14 (by decide) ?_
  refine lv_icmp_ge (tgt := 87) hx hb dX11_best_17 (by decide) (fun cc => absurd cc (by decide)) (fun _ => ?_)
  refine lv_aload_n hx hb dX11_best_20 rfl (lv_at hl 4 rfl) ?_
  refine va_get (D := (dC, dI)) (ci := 11) (v := .ref sw) (C := RX11) (T := TX11) (N := 17) hx hb hts hin11 hown hK hP 0 rfl rfl 7 (by decide) (ho (.fieldLink RX11 49 "NearEnough" "shown" "LNearEnough$Shown;") (List.mem_of_getElem? (i := 0) rfl)) (fun _ h9 => h9) rfl dX11_best_21 ?_
  have hPc := hP.sub (ws' := [(sw, .inr (8, [.ref td, .ref ch, .ref w1, .ref w2, .long 0, .long 0, .int 1, .int (-1), .int 0])), (ch, .inr (0, [.ref a1, .ref a2, .ref a3, .ref a4, .ref a5, .int 0, .int 0]))]) [2, 4] rfl
  have hDc := hD.sub (ws' := [(sw, .inr (8, [.ref td, .ref ch, .ref w1, .ref w2, .long 0, .long 0, .int 1, .int (-1), .int 0])), (ch, .inr (0, [.ref a1, .ref a2, .ref a3, .ref a4, .ref a5, .int 0, .int 0]))]) [2, 4] (by decide) rfl
  have hKc := hK.sub (tys' := []) [] rfl
  refine zz_i (wr := [(h0, .inr (11, [.ref tp, .int 0, .int 0, .int (-1), .ref td, .ref sh, .ref ch, .ref sw, .ref wk, .ref g1, .ref g2, .ref g3, .int 0, .int 0, .ref tl, .null, .null])), (a5, .inl (kc, 12, .inl f1)), (td, .inr (3, [.ref r1, .ref r2, .ref r3, .ref r4, .ref r5, .int 0, .int 0, .int 0]))]) (va_runV (As := []) (rest := []) ⟨hx, hb, hml, hown, hts⟩ (c_next2 l dC dI sw ch w1 w2 td a1 a2 a3 a4 a5 0 0 H.size) (cwV 0 hts gd_c_best_311_c_next2 rfl rfl rfl (by decide +kernel) ⟨Nat.le_of_ble_eq_true rfl, Nat.le_of_ble_eq_true rfl⟩) (preV hPc hKc hDc hE (ci := 8) (q0 := 0) rfl rfl) rfl rfl hl.1 rfl (lv_room (Nat.le_of_ble_eq_true rfl)) dX11_best_24 ⟨Nat.le_of_ble_eq_true rfl, Nat.le_of_ble_eq_true rfl⟩) hK hP hD hS hA [2, 4] [0, 1, 3] rfl rfl (by decide) (by decide) (fun u H locs hK hP hD hS => ?_)
  have hP : va_P (dC, dI) vwCl [(h0, .inr (11, [.ref tp, .int 0, .int 0, .int (-1), .ref td, .ref sh, .ref ch, .ref sw, .ref wk, .ref g1, .ref g2, .ref g3, .int 0, .int 0, .ref tl, .null, .null])), (a5, .inl (kc, 12, .inl f1)), (td, .inr (3, [.ref r1, .ref r2, .ref r3, .ref r4, .ref r5, .int 0, .int 0, .int 0])), (sw, .inr (8, [.ref td, .ref ch, .ref w1, .ref w2, .long 0, .long 0, .int 1, .int (-1), .int 12])), (ch, .inr (0, [.ref a1, .ref a2, .ref a3, .ref a4, .ref a5, .int 0, .int 0]))] H := hP
  have hD : va_D A [(h0, .inr (11, [.ref tp, .int 0, .int 0, .int (-1), .ref td, .ref sh, .ref ch, .ref sw, .ref wk, .ref g1, .ref g2, .ref g3, .int 0, .int 0, .ref tl, .null, .null])), (a5, .inl (kc, 12, .inl f1)), (td, .inr (3, [.ref r1, .ref r2, .ref r3, .ref r4, .ref r5, .int 0, .int 0, .int 0])), (sw, .inr (8, [.ref td, .ref ch, .ref w1, .ref w2, .long 0, .long 0, .int 1, .int (-1), .int 12])), (ch, .inr (0, [.ref a1, .ref a2, .ref a3, .ref a4, .ref a5, .int 0, .int 0]))] := hD
  have hK : va_K (dC, dI) vwCl [(kc, .int)] s := hK
  refine W.widen (k := 0) (n := 0) (Nat.le_of_ble_eq_true rfl) (Nat.le_of_ble_eq_true rfl) ?_
  refine lv_if_eq (tgt := 87) hx hb dX11_best_27 (by decide) (fun _ => ?_) (fun cc => absurd (by decide) cc)
  refine lv_iload_n hx hb dX11_best_87 rfl (lv_at hl 3 rfl) ?_
  refine W.widen (k := 0) (n := 0) (Nat.le_of_ble_eq_true rfl) (Nat.le_of_ble_eq_true rfl) ?_
  exact W.iret (v := 0) hx hb hr (fun t ht hW => ⟨⟨0, (), rfl, rfl, wEn_of (hP.sub [] rfl) (hK.sub [] rfl) (hD.sub [] (by decide) rfl) ht hW⟩, hS.F ht⟩) hS.2.2 dX11_best_88
def ow_c_front : List Cond := [.fieldLink RX11 26 "NearEnough" "told" "LNearEnough$Program;"]
def vs_c_front : List Cond := .code yX11_front cX11_front 3 (some .int) :: (ow_c_front ++ (([.methodLink RX11 227 yX3_hasEnd, .instanceMethod yX3_hasEnd, .selects RX3 yX3_hasEnd yX3_hasEnd, .initialized RX3] : List Cond) ++ (vs_c_hasEnd ++ (wsX110))))
theorem vg_c_front : vs_c_front.all goodWord = true := by decide +kernel
theorem gd_c_front_227_c_hasEnd : GoodIn vs_c_front (wsV RX11 227 RX3 yX3_hasEnd vs_c_hasEnd) := goodIn_app (goodIn_sub (fun w h => (List.mem_cons_of_mem _ (List.mem_append_right _ (List.mem_append_left _ h)))) (by decide +kernel)) (goodIn_sub (fun w h => (List.mem_cons_of_mem _ (List.mem_append_right _ (List.mem_append_right _ (List.mem_append_left _ h))))) vg_c_hasEnd)
set_option maxHeartbeats 4000000 in
set_option maxRecDepth 100000 in
theorem c_front (l : Launch) (dC : Nat → ClassId) (dI : Nat → Nat → Nat) (h0 : Nat) (tp : Nat) (td : Nat) (sh : Nat) (ch : Nat) (sw : Nat) (wk : Nat) (g1 : Nat) (g2 : Nat) (g3 : Nat) (tl : Nat) (r1 : Nat) (r2 : Nat) (r3 : Nat) (r4 : Nat) (r5 : Nat) (p0 : Int32) (sz : Nat) : Met l yX11_front vs_c_front ({ frames := 1, cells := 0, slots := 0, locals := 21 }) (va_Pc [.ref h0, .int p0] (wSt dC dI [(h0, .inr (11, [.ref tp, .int 0, .int 0, .int (-1), .ref td, .ref sh, .ref ch, .ref sw, .ref wk, .ref g1, .ref g2, .ref g3, .int 0, .int 0, .ref tl, .null, .null])), (td, .inr (3, [.ref r1, .ref r2, .ref r3, .ref r4, .ref r5, .int 0, .int 0, .int 0]))] [] sz)) (va_Qi (fun (r : Int32) (_ : Unit) => r = (-1)) (fun (u : Unit) => wEn dC dI (va_A [(h0, .inr (11, [.ref tp, .int 0, .int 0, .int (-1), .ref td, .ref sh, .ref ch, .ref sw, .ref wk, .ref g1, .ref g2, .ref g3, .int 0, .int 0, .ref tl, .null, .null])), (td, .inr (3, [.ref r1, .ref r2, .ref r3, .ref r4, .ref r5, .int 0, .int 0, .int 0]))] sz) [] []) (va_A [(h0, .inr (11, [.ref tp, .int 0, .int 0, .int (-1), .ref td, .ref sh, .ref ch, .ref sw, .ref wk, .ref g1, .ref g2, .ref g3, .int 0, .int 0, .ref tl, .null, .null])), (td, .inr (3, [.ref r1, .ref r2, .ref r3, .ref r4, .ref r5, .int 0, .int 0, .int 0]))] sz)) 0 0 (va_A [(h0, .inr (11, [.ref tp, .int 0, .int 0, .int (-1), .ref td, .ref sh, .ref ch, .ref sw, .ref wk, .ref g1, .ref g2, .ref g3, .int 0, .int 0, .ref tl, .null, .null])), (td, .inr (3, [.ref r1, .ref r2, .ref r3, .ref r4, .ref r5, .int 0, .int 0, .int 0]))] sz) := by
  refine Met.ofW (cc := cX11_front) (maxL := 3) (ret := (some .int)) (by decide) rfl ?_
  intro p e s m args below meth c s₁ B hml hv
  obtain ⟨rfl, hsz, hP, hK, hD0, hE⟩ := hv
  have hx := B.exec
  have hb := B.bytes
  have hr := B.returns
  have hts := atoms_spec (ws := vs_c_front) B.pre
  have hown : s.vm.findClass RX11 = some m.cls := findClass_of_methodNamed B.named
  have hlocks := B.notSynchronized
  subst hsz
  have hD := hD0.self (sz := s.heap.size)
  generalize hAe : va_A [(h0, .inr (11, [.ref tp, .int 0, .int 0, .int (-1), .ref td, .ref sh, .ref ch, .ref sw, .ref wk, .ref g1, .ref g2, .ref g3, .int 0, .int 0, .ref tl, .null, .null])), (td, .inr (3, [.ref r1, .ref r2, .ref r3, .ref r4, .ref r5, .int 0, .int 0, .int 0]))] s.heap.size = A at hD ⊢
  have hA : ∀ q : Nat, s.heap.size ≤ q → A q := fun q h => by rw [← hAe]; exact Or.inr h
  have hl := lv_entry ([.ref h0, .int p0]) (n := 3) (Nat.le_of_ble_eq_true rfl)
  rw [lg_entry_eq]
  generalize (lg_sl ([.ref h0, .int p0]) ++ List.replicate (3 - (lg_sl ([.ref h0, .int p0])).length) Slot.unset).toArray = ls at hl ⊢
  have hl : lv_has ls 3 [(0, .ref h0), (1, .int p0)] := hl
  refine zH (A := A) (ws := [(h0, .inr (11, [.ref tp, .int 0, .int 0, .int (-1), .ref td, .ref sh, .ref ch, .ref sw, .ref wk, .ref g1, .ref g2, .ref g3, .int 0, .int 0, .ref tl, .null, .null])), (td, .inr (3, [.ref r1, .ref r2, .ref r3, .ref r4, .ref r5, .int 0, .int 0, .int 0]))]) (fun H hP hS => ?_) hP
  have ho := fun w (h : w ∈ ow_c_front) => hts w (List.mem_cons_of_mem _ (List.mem_append_left _ h))
  have hin11 : ∀ w ∈ u_ws RX11 TX11 17, w ∈ vs_c_front := fun w h => (List.mem_cons_of_mem _ (List.mem_append_right _ (List.mem_append_right _ (List.mem_append_right _ h))))
  refine lv_aload_n hx hb dX11_front_0 rfl (lv_at hl 0 rfl) ?_
  refine va_get (D := (dC, dI)) (ci := 11) (v := .ref td) (C := RX11) (T := TX11) (N := 17) hx hb hts hin11 hown hK hP 0 rfl rfl 4 (by decide) (ho (.fieldLink RX11 26 "NearEnough" "told" "LNearEnough$Program;") (List.mem_of_getElem? (i := 0) rfl)) (fun _ h9 => h9) rfl dX11_front_1 ?_
  refine lv_iload_n hx hb dX11_front_4 rfl (lv_at hl 1 rfl) ?_
  have hPc := hP.sub (ws' := [(td, .inr (3, [.ref r1, .ref r2, .ref r3, .ref r4, .ref r5, .int 0, .int 0, .int 0]))]) [1] rfl
  have hDc := hD.sub (ws' := [(td, .inr (3, [.ref r1, .ref r2, .ref r3, .ref r4, .ref r5, .int 0, .int 0, .int 0]))]) [1] (by decide) rfl
  have hKc := hK.sub (tys' := []) [] rfl
  refine zz_i (wr := [(h0, .inr (11, [.ref tp, .int 0, .int 0, .int (-1), .ref td, .ref sh, .ref ch, .ref sw, .ref wk, .ref g1, .ref g2, .ref g3, .int 0, .int 0, .ref tl, .null, .null]))]) (va_runV (As := [.int p0]) (rest := []) ⟨hx, hb, hml, hown, hts⟩ (c_hasEnd l dC dI td r1 r2 r3 r4 r5 p0 H.size) (cwV 1 hts gd_c_front_227_c_hasEnd rfl rfl rfl (by decide +kernel) ⟨Nat.le_of_ble_eq_true rfl, Nat.le_of_ble_eq_true rfl⟩) (preV hPc hKc hDc hE (ci := 3) (q0 := 0) rfl rfl) rfl rfl hl.1 rfl (lv_room (Nat.le_of_ble_eq_true rfl)) dX11_front_5 ⟨Nat.le_of_ble_eq_true rfl, Nat.le_of_ble_eq_true rfl⟩) hK hP hD hS hA [1] [0] rfl rfl (by decide) (by decide) (fun u H locs hK hP hD hS => ?_)
  have hP : va_P (dC, dI) vwCl [(h0, .inr (11, [.ref tp, .int 0, .int 0, .int (-1), .ref td, .ref sh, .ref ch, .ref sw, .ref wk, .ref g1, .ref g2, .ref g3, .int 0, .int 0, .ref tl, .null, .null])), (td, .inr (3, [.ref r1, .ref r2, .ref r3, .ref r4, .ref r5, .int 0, .int 0, .int 0]))] H := hP
  have hD : va_D A [(h0, .inr (11, [.ref tp, .int 0, .int 0, .int (-1), .ref td, .ref sh, .ref ch, .ref sw, .ref wk, .ref g1, .ref g2, .ref g3, .int 0, .int 0, .ref tl, .null, .null])), (td, .inr (3, [.ref r1, .ref r2, .ref r3, .ref r4, .ref r5, .int 0, .int 0, .int 0]))] := hD
  have hK : va_K (dC, dI) vwCl [] s := hK
  refine W.widen (k := 0) (n := 0) (Nat.le_of_ble_eq_true rfl) (Nat.le_of_ble_eq_true rfl) ?_
  refine lv_if_ne (tgt := 13) hx hb dX11_front_8 (by decide) (fun cc => absurd cc (by decide)) (fun _ => ?_)
  refine lv_iconst (v := (-1)) hx hb dX11_front_11 (by decide) ?_
  refine W.widen (k := 0) (n := 0) (Nat.le_of_ble_eq_true rfl) (Nat.le_of_ble_eq_true rfl) ?_
  exact W.iret (v := (-1)) hx hb hr (fun t ht hW => ⟨⟨(-1), (), rfl, rfl, wEn_of (hP.sub [] rfl) (hK.sub [] rfl) (hD.sub [] (by decide) rfl) ht hW⟩, hS.F ht⟩) hS.2.2 dX11_front_12
def ow_c_pair : List Cond := [.fieldLink RX11 26 "NearEnough" "told" "LNearEnough$Program;", .constantLong RX11 212 (-1)]
def vs_c_pair : List Cond := .code yX11_pair cX11_pair 5 (some .long) :: (ow_c_pair ++ (([.methodLink RX11 227 yX3_hasEnd, .instanceMethod yX3_hasEnd, .selects RX3 yX3_hasEnd yX3_hasEnd, .initialized RX3] : List Cond) ++ (vs_c_hasEnd ++ (wsX110))))
theorem vg_c_pair : vs_c_pair.all goodWord = true := by decide +kernel
theorem gd_c_pair_227_c_hasEnd : GoodIn vs_c_pair (wsV RX11 227 RX3 yX3_hasEnd vs_c_hasEnd) := goodIn_app (goodIn_sub (fun w h => (List.mem_cons_of_mem _ (List.mem_append_right _ (List.mem_append_left _ h)))) (by decide +kernel)) (goodIn_sub (fun w h => (List.mem_cons_of_mem _ (List.mem_append_right _ (List.mem_append_right _ (List.mem_append_left _ h))))) vg_c_hasEnd)
set_option maxHeartbeats 4000000 in
set_option maxRecDepth 100000 in
theorem c_pair (l : Launch) (dC : Nat → ClassId) (dI : Nat → Nat → Nat) (h0 : Nat) (tp : Nat) (td : Nat) (sh : Nat) (ch : Nat) (sw : Nat) (wk : Nat) (g1 : Nat) (g2 : Nat) (g3 : Nat) (tl : Nat) (r1 : Nat) (r2 : Nat) (r3 : Nat) (r4 : Nat) (r5 : Nat) (p0 : Int32) (p1 : Int32) (p2 : Int32) (sz : Nat) : Met l yX11_pair vs_c_pair ({ frames := 1, cells := 0, slots := 0, locals := 21 }) (va_Pc [.ref h0, .int p0, .int p1, .int p2] (wSt dC dI [(h0, .inr (11, [.ref tp, .int 0, .int 0, .int (-1), .ref td, .ref sh, .ref ch, .ref sw, .ref wk, .ref g1, .ref g2, .ref g3, .int 0, .int 0, .ref tl, .null, .null])), (td, .inr (3, [.ref r1, .ref r2, .ref r3, .ref r4, .ref r5, .int 0, .int 0, .int 0]))] [] sz)) (va_Ql (fun (r : Int64) (_ : Unit) => r = (-1)) (fun (u : Unit) => wEn dC dI (va_A [(h0, .inr (11, [.ref tp, .int 0, .int 0, .int (-1), .ref td, .ref sh, .ref ch, .ref sw, .ref wk, .ref g1, .ref g2, .ref g3, .int 0, .int 0, .ref tl, .null, .null])), (td, .inr (3, [.ref r1, .ref r2, .ref r3, .ref r4, .ref r5, .int 0, .int 0, .int 0]))] sz) [] []) (va_A [(h0, .inr (11, [.ref tp, .int 0, .int 0, .int (-1), .ref td, .ref sh, .ref ch, .ref sw, .ref wk, .ref g1, .ref g2, .ref g3, .int 0, .int 0, .ref tl, .null, .null])), (td, .inr (3, [.ref r1, .ref r2, .ref r3, .ref r4, .ref r5, .int 0, .int 0, .int 0]))] sz)) 0 0 (va_A [(h0, .inr (11, [.ref tp, .int 0, .int 0, .int (-1), .ref td, .ref sh, .ref ch, .ref sw, .ref wk, .ref g1, .ref g2, .ref g3, .int 0, .int 0, .ref tl, .null, .null])), (td, .inr (3, [.ref r1, .ref r2, .ref r3, .ref r4, .ref r5, .int 0, .int 0, .int 0]))] sz) := by
  refine Met.ofW (cc := cX11_pair) (maxL := 5) (ret := (some .long)) (by decide) rfl ?_
  intro p e s m args below meth c s₁ B hml hv
  obtain ⟨rfl, hsz, hP, hK, hD0, hE⟩ := hv
  have hx := B.exec
  have hb := B.bytes
  have hr := B.returns
  have hts := atoms_spec (ws := vs_c_pair) B.pre
  have hown : s.vm.findClass RX11 = some m.cls := findClass_of_methodNamed B.named
  have hlocks := B.notSynchronized
  subst hsz
  have hD := hD0.self (sz := s.heap.size)
  generalize hAe : va_A [(h0, .inr (11, [.ref tp, .int 0, .int 0, .int (-1), .ref td, .ref sh, .ref ch, .ref sw, .ref wk, .ref g1, .ref g2, .ref g3, .int 0, .int 0, .ref tl, .null, .null])), (td, .inr (3, [.ref r1, .ref r2, .ref r3, .ref r4, .ref r5, .int 0, .int 0, .int 0]))] s.heap.size = A at hD ⊢
  have hA : ∀ q : Nat, s.heap.size ≤ q → A q := fun q h => by rw [← hAe]; exact Or.inr h
  have hl := lv_entry ([.ref h0, .int p0, .int p1, .int p2]) (n := 5) (Nat.le_of_ble_eq_true rfl)
  rw [lg_entry_eq]
  generalize (lg_sl ([.ref h0, .int p0, .int p1, .int p2]) ++ List.replicate (5 - (lg_sl ([.ref h0, .int p0, .int p1, .int p2])).length) Slot.unset).toArray = ls at hl ⊢
  have hl : lv_has ls 5 [(0, .ref h0), (1, .int p0), (2, .int p1), (3, .int p2)] := hl
  refine zH (A := A) (ws := [(h0, .inr (11, [.ref tp, .int 0, .int 0, .int (-1), .ref td, .ref sh, .ref ch, .ref sw, .ref wk, .ref g1, .ref g2, .ref g3, .int 0, .int 0, .ref tl, .null, .null])), (td, .inr (3, [.ref r1, .ref r2, .ref r3, .ref r4, .ref r5, .int 0, .int 0, .int 0]))]) (fun H hP hS => ?_) hP
  have ho := fun w (h : w ∈ ow_c_pair) => hts w (List.mem_cons_of_mem _ (List.mem_append_left _ h))
  have hin11 : ∀ w ∈ u_ws RX11 TX11 17, w ∈ vs_c_pair := fun w h => (List.mem_cons_of_mem _ (List.mem_append_right _ (List.mem_append_right _ (List.mem_append_right _ h))))
  refine lv_aload_n hx hb dX11_pair_0 rfl (lv_at hl 0 rfl) ?_
  refine va_get (D := (dC, dI)) (ci := 11) (v := .ref td) (C := RX11) (T := TX11) (N := 17) hx hb hts hin11 hown hK hP 0 rfl rfl 4 (by decide) (ho (.fieldLink RX11 26 "NearEnough" "told" "LNearEnough$Program;") (List.mem_of_getElem? (i := 0) rfl)) (fun _ h9 => h9) rfl dX11_pair_1 ?_
  refine lv_iload_n hx hb dX11_pair_4 rfl (lv_at hl 1 rfl) ?_
  have hPc := hP.sub (ws' := [(td, .inr (3, [.ref r1, .ref r2, .ref r3, .ref r4, .ref r5, .int 0, .int 0, .int 0]))]) [1] rfl
  have hDc := hD.sub (ws' := [(td, .inr (3, [.ref r1, .ref r2, .ref r3, .ref r4, .ref r5, .int 0, .int 0, .int 0]))]) [1] (by decide) rfl
  have hKc := hK.sub (tys' := []) [] rfl
  refine zz_i (wr := [(h0, .inr (11, [.ref tp, .int 0, .int 0, .int (-1), .ref td, .ref sh, .ref ch, .ref sw, .ref wk, .ref g1, .ref g2, .ref g3, .int 0, .int 0, .ref tl, .null, .null]))]) (va_runV (As := [.int p0]) (rest := []) ⟨hx, hb, hml, hown, hts⟩ (c_hasEnd l dC dI td r1 r2 r3 r4 r5 p0 H.size) (cwV 1 hts gd_c_pair_227_c_hasEnd rfl rfl rfl (by decide +kernel) ⟨Nat.le_of_ble_eq_true rfl, Nat.le_of_ble_eq_true rfl⟩) (preV hPc hKc hDc hE (ci := 3) (q0 := 0) rfl rfl) rfl rfl hl.1 rfl (lv_room (Nat.le_of_ble_eq_true rfl)) dX11_pair_5 ⟨Nat.le_of_ble_eq_true rfl, Nat.le_of_ble_eq_true rfl⟩) hK hP hD hS hA [1] [0] rfl rfl (by decide) (by decide) (fun u H locs hK hP hD hS => ?_)
  have hP : va_P (dC, dI) vwCl [(h0, .inr (11, [.ref tp, .int 0, .int 0, .int (-1), .ref td, .ref sh, .ref ch, .ref sw, .ref wk, .ref g1, .ref g2, .ref g3, .int 0, .int 0, .ref tl, .null, .null])), (td, .inr (3, [.ref r1, .ref r2, .ref r3, .ref r4, .ref r5, .int 0, .int 0, .int 0]))] H := hP
  have hD : va_D A [(h0, .inr (11, [.ref tp, .int 0, .int 0, .int (-1), .ref td, .ref sh, .ref ch, .ref sw, .ref wk, .ref g1, .ref g2, .ref g3, .int 0, .int 0, .ref tl, .null, .null])), (td, .inr (3, [.ref r1, .ref r2, .ref r3, .ref r4, .ref r5, .int 0, .int 0, .int 0]))] := hD
  have hK : va_K (dC, dI) vwCl [] s := hK
  refine W.widen (k := 0) (n := 0) (Nat.le_of_ble_eq_true rfl) (Nat.le_of_ble_eq_true rfl) ?_
  refine lv_if_eq (tgt := 24) hx hb dX11_pair_8 (by decide) (fun _ => ?_) (fun cc => absurd (by decide) cc)
  refine lv_ldc2 (v := (-1)) hx hb hown (ho (.constantLong RX11 212 (-1)) (List.mem_of_getElem? (i := 1) rfl)) dX11_pair_24 ?_
  refine W.widen (k := 0) (n := 0) (Nat.le_of_ble_eq_true rfl) (Nat.le_of_ble_eq_true rfl) ?_
  exact W.lret (v := (-1)) hx hb hr (fun t ht hW => ⟨⟨(-1), (), rfl, rfl, wEn_of (hP.sub [] rfl) (hK.sub [] rfl) (hD.sub [] (by decide) rfl) ht hW⟩, hS.F ht⟩) hS.2.2 dX11_pair_27
def ow_c_guard : List Cond := [.fieldLink RX11 26 "NearEnough" "told" "LNearEnough$Program;"]
def vs_c_guard : List Cond := .code yX11_guard cX11_guard 4 (some .int) :: (ow_c_guard ++ (([.methodLink RX11 227 yX3_hasEnd, .instanceMethod yX3_hasEnd, .selects RX3 yX3_hasEnd yX3_hasEnd, .initialized RX3] : List Cond) ++ (vs_c_hasEnd ++ (wsX110))))
theorem vg_c_guard : vs_c_guard.all goodWord = true := by decide +kernel
theorem gd_c_guard_227_c_hasEnd : GoodIn vs_c_guard (wsV RX11 227 RX3 yX3_hasEnd vs_c_hasEnd) := goodIn_app (goodIn_sub (fun w h => (List.mem_cons_of_mem _ (List.mem_append_right _ (List.mem_append_left _ h)))) (by decide +kernel)) (goodIn_sub (fun w h => (List.mem_cons_of_mem _ (List.mem_append_right _ (List.mem_append_right _ (List.mem_append_left _ h))))) vg_c_hasEnd)
set_option maxHeartbeats 4000000 in
set_option maxRecDepth 100000 in
theorem c_guard (l : Launch) (dC : Nat → ClassId) (dI : Nat → Nat → Nat) (h0 : Nat) (tp : Nat) (td : Nat) (sh : Nat) (ch : Nat) (sw : Nat) (wk : Nat) (g1 : Nat) (g2 : Nat) (g3 : Nat) (tl : Nat) (r1 : Nat) (r2 : Nat) (r3 : Nat) (r4 : Nat) (r5 : Nat) (p0 : Int32) (p1 : Int32) (p2 : Int32) (sz : Nat) : Met l yX11_guard vs_c_guard ({ frames := 1, cells := 0, slots := 0, locals := 21 }) (va_Pc [.ref h0, .int p0, .int p1, .int p2] (wSt dC dI [(h0, .inr (11, [.ref tp, .int 0, .int 0, .int (-1), .ref td, .ref sh, .ref ch, .ref sw, .ref wk, .ref g1, .ref g2, .ref g3, .int 0, .int 0, .ref tl, .null, .null])), (td, .inr (3, [.ref r1, .ref r2, .ref r3, .ref r4, .ref r5, .int 0, .int 0, .int 0]))] [] sz)) (va_Qi (fun (r : Int32) (_ : Unit) => r = (-1)) (fun (u : Unit) => wEn dC dI (va_A [(h0, .inr (11, [.ref tp, .int 0, .int 0, .int (-1), .ref td, .ref sh, .ref ch, .ref sw, .ref wk, .ref g1, .ref g2, .ref g3, .int 0, .int 0, .ref tl, .null, .null])), (td, .inr (3, [.ref r1, .ref r2, .ref r3, .ref r4, .ref r5, .int 0, .int 0, .int 0]))] sz) [] []) (va_A [(h0, .inr (11, [.ref tp, .int 0, .int 0, .int (-1), .ref td, .ref sh, .ref ch, .ref sw, .ref wk, .ref g1, .ref g2, .ref g3, .int 0, .int 0, .ref tl, .null, .null])), (td, .inr (3, [.ref r1, .ref r2, .ref r3, .ref r4, .ref r5, .int 0, .int 0, .int 0]))] sz)) 0 0 (va_A [(h0, .inr (11, [.ref tp, .int 0, .int 0, .int (-1), .ref td, .ref sh, .ref ch, .ref sw, .ref wk, .ref g1, .ref g2, .ref g3, .int 0, .int 0, .ref tl, .null, .null])), (td, .inr (3, [.ref r1, .ref r2, .ref r3, .ref r4, .ref r5, .int 0, .int 0, .int 0]))] sz) := by
  refine Met.ofW (cc := cX11_guard) (maxL := 4) (ret := (some .int)) (by decide) rfl ?_
  intro p e s m args below meth c s₁ B hml hv
  obtain ⟨rfl, hsz, hP, hK, hD0, hE⟩ := hv
  have hx := B.exec
  have hb := B.bytes
  have hr := B.returns
  have hts := atoms_spec (ws := vs_c_guard) B.pre
  have hown : s.vm.findClass RX11 = some m.cls := findClass_of_methodNamed B.named
  have hlocks := B.notSynchronized
  subst hsz
  have hD := hD0.self (sz := s.heap.size)
  generalize hAe : va_A [(h0, .inr (11, [.ref tp, .int 0, .int 0, .int (-1), .ref td, .ref sh, .ref ch, .ref sw, .ref wk, .ref g1, .ref g2, .ref g3, .int 0, .int 0, .ref tl, .null, .null])), (td, .inr (3, [.ref r1, .ref r2, .ref r3, .ref r4, .ref r5, .int 0, .int 0, .int 0]))] s.heap.size = A at hD ⊢
  have hA : ∀ q : Nat, s.heap.size ≤ q → A q := fun q h => by rw [← hAe]; exact Or.inr h
  have hl := lv_entry ([.ref h0, .int p0, .int p1, .int p2]) (n := 4) (Nat.le_of_ble_eq_true rfl)
  rw [lg_entry_eq]
  generalize (lg_sl ([.ref h0, .int p0, .int p1, .int p2]) ++ List.replicate (4 - (lg_sl ([.ref h0, .int p0, .int p1, .int p2])).length) Slot.unset).toArray = ls at hl ⊢
  have hl : lv_has ls 4 [(0, .ref h0), (1, .int p0), (2, .int p1), (3, .int p2)] := hl
  refine zH (A := A) (ws := [(h0, .inr (11, [.ref tp, .int 0, .int 0, .int (-1), .ref td, .ref sh, .ref ch, .ref sw, .ref wk, .ref g1, .ref g2, .ref g3, .int 0, .int 0, .ref tl, .null, .null])), (td, .inr (3, [.ref r1, .ref r2, .ref r3, .ref r4, .ref r5, .int 0, .int 0, .int 0]))]) (fun H hP hS => ?_) hP
  have ho := fun w (h : w ∈ ow_c_guard) => hts w (List.mem_cons_of_mem _ (List.mem_append_left _ h))
  have hin11 : ∀ w ∈ u_ws RX11 TX11 17, w ∈ vs_c_guard := fun w h => (List.mem_cons_of_mem _ (List.mem_append_right _ (List.mem_append_right _ (List.mem_append_right _ h))))
  refine lv_aload_n hx hb dX11_guard_0 rfl (lv_at hl 0 rfl) ?_
  refine va_get (D := (dC, dI)) (ci := 11) (v := .ref td) (C := RX11) (T := TX11) (N := 17) hx hb hts hin11 hown hK hP 0 rfl rfl 4 (by decide) (ho (.fieldLink RX11 26 "NearEnough" "told" "LNearEnough$Program;") (List.mem_of_getElem? (i := 0) rfl)) (fun _ h9 => h9) rfl dX11_guard_1 ?_
  refine lv_iload_n hx hb dX11_guard_4 rfl (lv_at hl 1 rfl) ?_
  have hPc := hP.sub (ws' := [(td, .inr (3, [.ref r1, .ref r2, .ref r3, .ref r4, .ref r5, .int 0, .int 0, .int 0]))]) [1] rfl
  have hDc := hD.sub (ws' := [(td, .inr (3, [.ref r1, .ref r2, .ref r3, .ref r4, .ref r5, .int 0, .int 0, .int 0]))]) [1] (by decide) rfl
  have hKc := hK.sub (tys' := []) [] rfl
  refine zz_i (wr := [(h0, .inr (11, [.ref tp, .int 0, .int 0, .int (-1), .ref td, .ref sh, .ref ch, .ref sw, .ref wk, .ref g1, .ref g2, .ref g3, .int 0, .int 0, .ref tl, .null, .null]))]) (va_runV (As := [.int p0]) (rest := []) ⟨hx, hb, hml, hown, hts⟩ (c_hasEnd l dC dI td r1 r2 r3 r4 r5 p0 H.size) (cwV 1 hts gd_c_guard_227_c_hasEnd rfl rfl rfl (by decide +kernel) ⟨Nat.le_of_ble_eq_true rfl, Nat.le_of_ble_eq_true rfl⟩) (preV hPc hKc hDc hE (ci := 3) (q0 := 0) rfl rfl) rfl rfl hl.1 rfl (lv_room (Nat.le_of_ble_eq_true rfl)) dX11_guard_5 ⟨Nat.le_of_ble_eq_true rfl, Nat.le_of_ble_eq_true rfl⟩) hK hP hD hS hA [1] [0] rfl rfl (by decide) (by decide) (fun u H locs hK hP hD hS => ?_)
  have hP : va_P (dC, dI) vwCl [(h0, .inr (11, [.ref tp, .int 0, .int 0, .int (-1), .ref td, .ref sh, .ref ch, .ref sw, .ref wk, .ref g1, .ref g2, .ref g3, .int 0, .int 0, .ref tl, .null, .null])), (td, .inr (3, [.ref r1, .ref r2, .ref r3, .ref r4, .ref r5, .int 0, .int 0, .int 0]))] H := hP
  have hD : va_D A [(h0, .inr (11, [.ref tp, .int 0, .int 0, .int (-1), .ref td, .ref sh, .ref ch, .ref sw, .ref wk, .ref g1, .ref g2, .ref g3, .int 0, .int 0, .ref tl, .null, .null])), (td, .inr (3, [.ref r1, .ref r2, .ref r3, .ref r4, .ref r5, .int 0, .int 0, .int 0]))] := hD
  have hK : va_K (dC, dI) vwCl [] s := hK
  refine W.widen (k := 0) (n := 0) (Nat.le_of_ble_eq_true rfl) (Nat.le_of_ble_eq_true rfl) ?_
  refine lv_if_eq (tgt := 33) hx hb dX11_guard_8 (by decide) (fun _ => ?_) (fun cc => absurd (by decide) cc)
  refine lv_iconst (v := (-1)) hx hb dX11_guard_33 (by decide) ?_
  refine W.widen (k := 0) (n := 0) (Nat.le_of_ble_eq_true rfl) (Nat.le_of_ble_eq_true rfl) ?_
  exact W.iret (v := (-1)) hx hb hr (fun t ht hW => ⟨⟨(-1), (), rfl, rfl, wEn_of (hP.sub [] rfl) (hK.sub [] rfl) (hD.sub [] (by decide) rfl) ht hW⟩, hS.F ht⟩) hS.2.2 dX11_guard_34
def ow_c_through : List Cond := [.fieldLink RX11 26 "NearEnough" "told" "LNearEnough$Program;"]
def vs_c_through : List Cond := .code yX11_through cX11_through 7 (some .int) :: (ow_c_through ++ (([.methodLink RX11 227 yX3_hasEnd, .instanceMethod yX3_hasEnd, .selects RX3 yX3_hasEnd yX3_hasEnd, .initialized RX3] : List Cond) ++ (vs_c_hasEnd ++ (wsX110))))
theorem vg_c_through : vs_c_through.all goodWord = true := by decide +kernel
theorem gd_c_through_227_c_hasEnd : GoodIn vs_c_through (wsV RX11 227 RX3 yX3_hasEnd vs_c_hasEnd) := goodIn_app (goodIn_sub (fun w h => (List.mem_cons_of_mem _ (List.mem_append_right _ (List.mem_append_left _ h)))) (by decide +kernel)) (goodIn_sub (fun w h => (List.mem_cons_of_mem _ (List.mem_append_right _ (List.mem_append_right _ (List.mem_append_left _ h))))) vg_c_hasEnd)
set_option maxHeartbeats 4000000 in
set_option maxRecDepth 100000 in
theorem c_through (l : Launch) (dC : Nat → ClassId) (dI : Nat → Nat → Nat) (h0 : Nat) (tp : Nat) (td : Nat) (sh : Nat) (ch : Nat) (sw : Nat) (wk : Nat) (g1 : Nat) (g2 : Nat) (g3 : Nat) (tl : Nat) (r1 : Nat) (r2 : Nat) (r3 : Nat) (r4 : Nat) (r5 : Nat) (p0 : Int32) (p1 : Int32) (sz : Nat) : Met l yX11_through vs_c_through ({ frames := 1, cells := 0, slots := 0, locals := 21 }) (va_Pc [.ref h0, .int p0, .int p1] (wSt dC dI [(h0, .inr (11, [.ref tp, .int 0, .int 0, .int (-1), .ref td, .ref sh, .ref ch, .ref sw, .ref wk, .ref g1, .ref g2, .ref g3, .int 0, .int 0, .ref tl, .null, .null])), (td, .inr (3, [.ref r1, .ref r2, .ref r3, .ref r4, .ref r5, .int 0, .int 0, .int 0]))] [] sz)) (va_Qi (fun (r : Int32) (_ : Unit) => r = (-1)) (fun (u : Unit) => wEn dC dI (va_A [(h0, .inr (11, [.ref tp, .int 0, .int 0, .int (-1), .ref td, .ref sh, .ref ch, .ref sw, .ref wk, .ref g1, .ref g2, .ref g3, .int 0, .int 0, .ref tl, .null, .null])), (td, .inr (3, [.ref r1, .ref r2, .ref r3, .ref r4, .ref r5, .int 0, .int 0, .int 0]))] sz) [] []) (va_A [(h0, .inr (11, [.ref tp, .int 0, .int 0, .int (-1), .ref td, .ref sh, .ref ch, .ref sw, .ref wk, .ref g1, .ref g2, .ref g3, .int 0, .int 0, .ref tl, .null, .null])), (td, .inr (3, [.ref r1, .ref r2, .ref r3, .ref r4, .ref r5, .int 0, .int 0, .int 0]))] sz)) 0 0 (va_A [(h0, .inr (11, [.ref tp, .int 0, .int 0, .int (-1), .ref td, .ref sh, .ref ch, .ref sw, .ref wk, .ref g1, .ref g2, .ref g3, .int 0, .int 0, .ref tl, .null, .null])), (td, .inr (3, [.ref r1, .ref r2, .ref r3, .ref r4, .ref r5, .int 0, .int 0, .int 0]))] sz) := by
  refine Met.ofW (cc := cX11_through) (maxL := 7) (ret := (some .int)) (by decide) rfl ?_
  intro p e s m args below meth c s₁ B hml hv
  obtain ⟨rfl, hsz, hP, hK, hD0, hE⟩ := hv
  have hx := B.exec
  have hb := B.bytes
  have hr := B.returns
  have hts := atoms_spec (ws := vs_c_through) B.pre
  have hown : s.vm.findClass RX11 = some m.cls := findClass_of_methodNamed B.named
  have hlocks := B.notSynchronized
  subst hsz
  have hD := hD0.self (sz := s.heap.size)
  generalize hAe : va_A [(h0, .inr (11, [.ref tp, .int 0, .int 0, .int (-1), .ref td, .ref sh, .ref ch, .ref sw, .ref wk, .ref g1, .ref g2, .ref g3, .int 0, .int 0, .ref tl, .null, .null])), (td, .inr (3, [.ref r1, .ref r2, .ref r3, .ref r4, .ref r5, .int 0, .int 0, .int 0]))] s.heap.size = A at hD ⊢
  have hA : ∀ q : Nat, s.heap.size ≤ q → A q := fun q h => by rw [← hAe]; exact Or.inr h
  have hl := lv_entry ([.ref h0, .int p0, .int p1]) (n := 7) (Nat.le_of_ble_eq_true rfl)
  rw [lg_entry_eq]
  generalize (lg_sl ([.ref h0, .int p0, .int p1]) ++ List.replicate (7 - (lg_sl ([.ref h0, .int p0, .int p1])).length) Slot.unset).toArray = ls at hl ⊢
  have hl : lv_has ls 7 [(0, .ref h0), (1, .int p0), (2, .int p1)] := hl
  refine zH (A := A) (ws := [(h0, .inr (11, [.ref tp, .int 0, .int 0, .int (-1), .ref td, .ref sh, .ref ch, .ref sw, .ref wk, .ref g1, .ref g2, .ref g3, .int 0, .int 0, .ref tl, .null, .null])), (td, .inr (3, [.ref r1, .ref r2, .ref r3, .ref r4, .ref r5, .int 0, .int 0, .int 0]))]) (fun H hP hS => ?_) hP
  have ho := fun w (h : w ∈ ow_c_through) => hts w (List.mem_cons_of_mem _ (List.mem_append_left _ h))
  have hin11 : ∀ w ∈ u_ws RX11 TX11 17, w ∈ vs_c_through := fun w h => (List.mem_cons_of_mem _ (List.mem_append_right _ (List.mem_append_right _ (List.mem_append_right _ h))))
  refine lv_aload_n hx hb dX11_through_0 rfl (lv_at hl 0 rfl) ?_
  refine va_get (D := (dC, dI)) (ci := 11) (v := .ref td) (C := RX11) (T := TX11) (N := 17) hx hb hts hin11 hown hK hP 0 rfl rfl 4 (by decide) (ho (.fieldLink RX11 26 "NearEnough" "told" "LNearEnough$Program;") (List.mem_of_getElem? (i := 0) rfl)) (fun _ h9 => h9) rfl dX11_through_1 ?_
  refine lv_iload_n hx hb dX11_through_4 rfl (lv_at hl 1 rfl) ?_
  have hPc := hP.sub (ws' := [(td, .inr (3, [.ref r1, .ref r2, .ref r3, .ref r4, .ref r5, .int 0, .int 0, .int 0]))]) [1] rfl
  have hDc := hD.sub (ws' := [(td, .inr (3, [.ref r1, .ref r2, .ref r3, .ref r4, .ref r5, .int 0, .int 0, .int 0]))]) [1] (by decide) rfl
  have hKc := hK.sub (tys' := []) [] rfl
  refine zz_i (wr := [(h0, .inr (11, [.ref tp, .int 0, .int 0, .int (-1), .ref td, .ref sh, .ref ch, .ref sw, .ref wk, .ref g1, .ref g2, .ref g3, .int 0, .int 0, .ref tl, .null, .null]))]) (va_runV (As := [.int p0]) (rest := []) ⟨hx, hb, hml, hown, hts⟩ (c_hasEnd l dC dI td r1 r2 r3 r4 r5 p0 H.size) (cwV 1 hts gd_c_through_227_c_hasEnd rfl rfl rfl (by decide +kernel) ⟨Nat.le_of_ble_eq_true rfl, Nat.le_of_ble_eq_true rfl⟩) (preV hPc hKc hDc hE (ci := 3) (q0 := 0) rfl rfl) rfl rfl hl.1 rfl (lv_room (Nat.le_of_ble_eq_true rfl)) dX11_through_5 ⟨Nat.le_of_ble_eq_true rfl, Nat.le_of_ble_eq_true rfl⟩) hK hP hD hS hA [1] [0] rfl rfl (by decide) (by decide) (fun u H locs hK hP hD hS => ?_)
  have hP : va_P (dC, dI) vwCl [(h0, .inr (11, [.ref tp, .int 0, .int 0, .int (-1), .ref td, .ref sh, .ref ch, .ref sw, .ref wk, .ref g1, .ref g2, .ref g3, .int 0, .int 0, .ref tl, .null, .null])), (td, .inr (3, [.ref r1, .ref r2, .ref r3, .ref r4, .ref r5, .int 0, .int 0, .int 0]))] H := hP
  have hD : va_D A [(h0, .inr (11, [.ref tp, .int 0, .int 0, .int (-1), .ref td, .ref sh, .ref ch, .ref sw, .ref wk, .ref g1, .ref g2, .ref g3, .int 0, .int 0, .ref tl, .null, .null])), (td, .inr (3, [.ref r1, .ref r2, .ref r3, .ref r4, .ref r5, .int 0, .int 0, .int 0]))] := hD
  have hK : va_K (dC, dI) vwCl [] s := hK
  refine W.widen (k := 0) (n := 0) (Nat.le_of_ble_eq_true rfl) (Nat.le_of_ble_eq_true rfl) ?_
  refine lv_if_eq (tgt := 19) hx hb dX11_through_8 (by decide) (fun _ => ?_) (fun cc => absurd (by decide) cc)
  refine lv_iconst (v := (-1)) hx hb dX11_through_19 (by decide) ?_
  refine W.widen (k := 0) (n := 0) (Nat.le_of_ble_eq_true rfl) (Nat.le_of_ble_eq_true rfl) ?_
  exact W.iret (v := (-1)) hx hb hr (fun t ht hW => ⟨⟨(-1), (), rfl, rfl, wEn_of (hP.sub [] rfl) (hK.sub [] rfl) (hD.sub [] (by decide) rfl) ht hW⟩, hS.F ht⟩) hS.2.2 dX11_through_20
def ow_c_turned : List Cond := [.fieldLink RX11 26 "NearEnough" "told" "LNearEnough$Program;"]
def vs_c_turned : List Cond := .code yX11_turned cX11_turned 5 (some .int) :: (ow_c_turned ++ (([.methodLink RX11 227 yX3_hasEnd, .instanceMethod yX3_hasEnd, .selects RX3 yX3_hasEnd yX3_hasEnd, .initialized RX3] : List Cond) ++ (vs_c_hasEnd ++ (wsX110))))
theorem vg_c_turned : vs_c_turned.all goodWord = true := by decide +kernel
theorem gd_c_turned_227_c_hasEnd : GoodIn vs_c_turned (wsV RX11 227 RX3 yX3_hasEnd vs_c_hasEnd) := goodIn_app (goodIn_sub (fun w h => (List.mem_cons_of_mem _ (List.mem_append_right _ (List.mem_append_left _ h)))) (by decide +kernel)) (goodIn_sub (fun w h => (List.mem_cons_of_mem _ (List.mem_append_right _ (List.mem_append_right _ (List.mem_append_left _ h))))) vg_c_hasEnd)
set_option maxHeartbeats 4000000 in
set_option maxRecDepth 100000 in
theorem c_turned (l : Launch) (dC : Nat → ClassId) (dI : Nat → Nat → Nat) (h0 : Nat) (tp : Nat) (td : Nat) (sh : Nat) (ch : Nat) (sw : Nat) (wk : Nat) (g1 : Nat) (g2 : Nat) (g3 : Nat) (tl : Nat) (r1 : Nat) (r2 : Nat) (r3 : Nat) (r4 : Nat) (r5 : Nat) (p0 : Int32) (p1 : Int32) (sz : Nat) : Met l yX11_turned vs_c_turned ({ frames := 1, cells := 0, slots := 0, locals := 21 }) (va_Pc [.ref h0, .int p0, .int p1] (wSt dC dI [(h0, .inr (11, [.ref tp, .int 0, .int 0, .int (-1), .ref td, .ref sh, .ref ch, .ref sw, .ref wk, .ref g1, .ref g2, .ref g3, .int 0, .int 0, .ref tl, .null, .null])), (td, .inr (3, [.ref r1, .ref r2, .ref r3, .ref r4, .ref r5, .int 0, .int 0, .int 0]))] [] sz)) (va_Qi (fun (r : Int32) (_ : Unit) => r = (-1)) (fun (u : Unit) => wEn dC dI (va_A [(h0, .inr (11, [.ref tp, .int 0, .int 0, .int (-1), .ref td, .ref sh, .ref ch, .ref sw, .ref wk, .ref g1, .ref g2, .ref g3, .int 0, .int 0, .ref tl, .null, .null])), (td, .inr (3, [.ref r1, .ref r2, .ref r3, .ref r4, .ref r5, .int 0, .int 0, .int 0]))] sz) [] []) (va_A [(h0, .inr (11, [.ref tp, .int 0, .int 0, .int (-1), .ref td, .ref sh, .ref ch, .ref sw, .ref wk, .ref g1, .ref g2, .ref g3, .int 0, .int 0, .ref tl, .null, .null])), (td, .inr (3, [.ref r1, .ref r2, .ref r3, .ref r4, .ref r5, .int 0, .int 0, .int 0]))] sz)) 0 0 (va_A [(h0, .inr (11, [.ref tp, .int 0, .int 0, .int (-1), .ref td, .ref sh, .ref ch, .ref sw, .ref wk, .ref g1, .ref g2, .ref g3, .int 0, .int 0, .ref tl, .null, .null])), (td, .inr (3, [.ref r1, .ref r2, .ref r3, .ref r4, .ref r5, .int 0, .int 0, .int 0]))] sz) := by
  refine Met.ofW (cc := cX11_turned) (maxL := 5) (ret := (some .int)) (by decide) rfl ?_
  intro p e s m args below meth c s₁ B hml hv
  obtain ⟨rfl, hsz, hP, hK, hD0, hE⟩ := hv
  have hx := B.exec
  have hb := B.bytes
  have hr := B.returns
  have hts := atoms_spec (ws := vs_c_turned) B.pre
  have hown : s.vm.findClass RX11 = some m.cls := findClass_of_methodNamed B.named
  have hlocks := B.notSynchronized
  subst hsz
  have hD := hD0.self (sz := s.heap.size)
  generalize hAe : va_A [(h0, .inr (11, [.ref tp, .int 0, .int 0, .int (-1), .ref td, .ref sh, .ref ch, .ref sw, .ref wk, .ref g1, .ref g2, .ref g3, .int 0, .int 0, .ref tl, .null, .null])), (td, .inr (3, [.ref r1, .ref r2, .ref r3, .ref r4, .ref r5, .int 0, .int 0, .int 0]))] s.heap.size = A at hD ⊢
  have hA : ∀ q : Nat, s.heap.size ≤ q → A q := fun q h => by rw [← hAe]; exact Or.inr h
  have hl := lv_entry ([.ref h0, .int p0, .int p1]) (n := 5) (Nat.le_of_ble_eq_true rfl)
  rw [lg_entry_eq]
  generalize (lg_sl ([.ref h0, .int p0, .int p1]) ++ List.replicate (5 - (lg_sl ([.ref h0, .int p0, .int p1])).length) Slot.unset).toArray = ls at hl ⊢
  have hl : lv_has ls 5 [(0, .ref h0), (1, .int p0), (2, .int p1)] := hl
  refine zH (A := A) (ws := [(h0, .inr (11, [.ref tp, .int 0, .int 0, .int (-1), .ref td, .ref sh, .ref ch, .ref sw, .ref wk, .ref g1, .ref g2, .ref g3, .int 0, .int 0, .ref tl, .null, .null])), (td, .inr (3, [.ref r1, .ref r2, .ref r3, .ref r4, .ref r5, .int 0, .int 0, .int 0]))]) (fun H hP hS => ?_) hP
  have ho := fun w (h : w ∈ ow_c_turned) => hts w (List.mem_cons_of_mem _ (List.mem_append_left _ h))
  have hin11 : ∀ w ∈ u_ws RX11 TX11 17, w ∈ vs_c_turned := fun w h => (List.mem_cons_of_mem _ (List.mem_append_right _ (List.mem_append_right _ (List.mem_append_right _ h))))
  refine lv_aload_n hx hb dX11_turned_0 rfl (lv_at hl 0 rfl) ?_
  refine va_get (D := (dC, dI)) (ci := 11) (v := .ref td) (C := RX11) (T := TX11) (N := 17) hx hb hts hin11 hown hK hP 0 rfl rfl 4 (by decide) (ho (.fieldLink RX11 26 "NearEnough" "told" "LNearEnough$Program;") (List.mem_of_getElem? (i := 0) rfl)) (fun _ h9 => h9) rfl dX11_turned_1 ?_
  refine lv_iload_n hx hb dX11_turned_4 rfl (lv_at hl 1 rfl) ?_
  have hPc := hP.sub (ws' := [(td, .inr (3, [.ref r1, .ref r2, .ref r3, .ref r4, .ref r5, .int 0, .int 0, .int 0]))]) [1] rfl
  have hDc := hD.sub (ws' := [(td, .inr (3, [.ref r1, .ref r2, .ref r3, .ref r4, .ref r5, .int 0, .int 0, .int 0]))]) [1] (by decide) rfl
  have hKc := hK.sub (tys' := []) [] rfl
  refine zz_i (wr := [(h0, .inr (11, [.ref tp, .int 0, .int 0, .int (-1), .ref td, .ref sh, .ref ch, .ref sw, .ref wk, .ref g1, .ref g2, .ref g3, .int 0, .int 0, .ref tl, .null, .null]))]) (va_runV (As := [.int p0]) (rest := []) ⟨hx, hb, hml, hown, hts⟩ (c_hasEnd l dC dI td r1 r2 r3 r4 r5 p0 H.size) (cwV 1 hts gd_c_turned_227_c_hasEnd rfl rfl rfl (by decide +kernel) ⟨Nat.le_of_ble_eq_true rfl, Nat.le_of_ble_eq_true rfl⟩) (preV hPc hKc hDc hE (ci := 3) (q0 := 0) rfl rfl) rfl rfl hl.1 rfl (lv_room (Nat.le_of_ble_eq_true rfl)) dX11_turned_5 ⟨Nat.le_of_ble_eq_true rfl, Nat.le_of_ble_eq_true rfl⟩) hK hP hD hS hA [1] [0] rfl rfl (by decide) (by decide) (fun u H locs hK hP hD hS => ?_)
  have hP : va_P (dC, dI) vwCl [(h0, .inr (11, [.ref tp, .int 0, .int 0, .int (-1), .ref td, .ref sh, .ref ch, .ref sw, .ref wk, .ref g1, .ref g2, .ref g3, .int 0, .int 0, .ref tl, .null, .null])), (td, .inr (3, [.ref r1, .ref r2, .ref r3, .ref r4, .ref r5, .int 0, .int 0, .int 0]))] H := hP
  have hD : va_D A [(h0, .inr (11, [.ref tp, .int 0, .int 0, .int (-1), .ref td, .ref sh, .ref ch, .ref sw, .ref wk, .ref g1, .ref g2, .ref g3, .int 0, .int 0, .ref tl, .null, .null])), (td, .inr (3, [.ref r1, .ref r2, .ref r3, .ref r4, .ref r5, .int 0, .int 0, .int 0]))] := hD
  have hK : va_K (dC, dI) vwCl [] s := hK
  refine W.widen (k := 0) (n := 0) (Nat.le_of_ble_eq_true rfl) (Nat.le_of_ble_eq_true rfl) ?_
  refine lv_if_eq (tgt := 19) hx hb dX11_turned_8 (by decide) (fun _ => ?_) (fun cc => absurd (by decide) cc)
  refine lv_iconst (v := (-1)) hx hb dX11_turned_19 (by decide) ?_
  refine W.widen (k := 0) (n := 0) (Nat.le_of_ble_eq_true rfl) (Nat.le_of_ble_eq_true rfl) ?_
  exact W.iret (v := (-1)) hx hb hr (fun t ht hW => ⟨⟨(-1), (), rfl, rfl, wEn_of (hP.sub [] rfl) (hK.sub [] rfl) (hD.sub [] (by decide) rfl) ht hW⟩, hS.F ht⟩) hS.2.2 dX11_turned_20
def ow_c_worst : List Cond := [.fieldLink RX11 26 "NearEnough" "told" "LNearEnough$Program;", .constantLong RX11 221 (-1000000000000)]
def vs_c_worst : List Cond := .code yX11_worst cX11_worst 11 (some .long) :: (ow_c_worst ++ (([.methodLink RX11 227 yX3_hasEnd, .instanceMethod yX3_hasEnd, .selects RX3 yX3_hasEnd yX3_hasEnd, .initialized RX3] : List Cond) ++ (vs_c_hasEnd ++ (wsX110))))
theorem vg_c_worst : vs_c_worst.all goodWord = true := by decide +kernel
theorem gd_c_worst_227_c_hasEnd : GoodIn vs_c_worst (wsV RX11 227 RX3 yX3_hasEnd vs_c_hasEnd) := goodIn_app (goodIn_sub (fun w h => (List.mem_cons_of_mem _ (List.mem_append_right _ (List.mem_append_left _ h)))) (by decide +kernel)) (goodIn_sub (fun w h => (List.mem_cons_of_mem _ (List.mem_append_right _ (List.mem_append_right _ (List.mem_append_left _ h))))) vg_c_hasEnd)
set_option maxHeartbeats 4000000 in
set_option maxRecDepth 100000 in
theorem c_worst (l : Launch) (dC : Nat → ClassId) (dI : Nat → Nat → Nat) (h0 : Nat) (tp : Nat) (td : Nat) (sh : Nat) (ch : Nat) (sw : Nat) (wk : Nat) (g1 : Nat) (g2 : Nat) (g3 : Nat) (tl : Nat) (r1 : Nat) (r2 : Nat) (r3 : Nat) (r4 : Nat) (r5 : Nat) (p0 : Int32) (p1 : Int32) (p2 : Int32) (sz : Nat) : Met l yX11_worst vs_c_worst ({ frames := 1, cells := 0, slots := 0, locals := 21 }) (va_Pc [.ref h0, .int p0, .int p1, .int p2] (wSt dC dI [(h0, .inr (11, [.ref tp, .int 0, .int 0, .int (-1), .ref td, .ref sh, .ref ch, .ref sw, .ref wk, .ref g1, .ref g2, .ref g3, .int 0, .int 0, .ref tl, .null, .null])), (td, .inr (3, [.ref r1, .ref r2, .ref r3, .ref r4, .ref r5, .int 0, .int 0, .int 0]))] [] sz)) (va_Ql (fun (r : Int64) (_ : Unit) => r = (-1000000000000)) (fun (u : Unit) => wEn dC dI (va_A [(h0, .inr (11, [.ref tp, .int 0, .int 0, .int (-1), .ref td, .ref sh, .ref ch, .ref sw, .ref wk, .ref g1, .ref g2, .ref g3, .int 0, .int 0, .ref tl, .null, .null])), (td, .inr (3, [.ref r1, .ref r2, .ref r3, .ref r4, .ref r5, .int 0, .int 0, .int 0]))] sz) [] []) (va_A [(h0, .inr (11, [.ref tp, .int 0, .int 0, .int (-1), .ref td, .ref sh, .ref ch, .ref sw, .ref wk, .ref g1, .ref g2, .ref g3, .int 0, .int 0, .ref tl, .null, .null])), (td, .inr (3, [.ref r1, .ref r2, .ref r3, .ref r4, .ref r5, .int 0, .int 0, .int 0]))] sz)) 0 0 (va_A [(h0, .inr (11, [.ref tp, .int 0, .int 0, .int (-1), .ref td, .ref sh, .ref ch, .ref sw, .ref wk, .ref g1, .ref g2, .ref g3, .int 0, .int 0, .ref tl, .null, .null])), (td, .inr (3, [.ref r1, .ref r2, .ref r3, .ref r4, .ref r5, .int 0, .int 0, .int 0]))] sz) := by
  refine Met.ofW (cc := cX11_worst) (maxL := 11) (ret := (some .long)) (by decide) rfl ?_
  intro p e s m args below meth c s₁ B hml hv
  obtain ⟨rfl, hsz, hP, hK, hD0, hE⟩ := hv
  have hx := B.exec
  have hb := B.bytes
  have hr := B.returns
  have hts := atoms_spec (ws := vs_c_worst) B.pre
  have hown : s.vm.findClass RX11 = some m.cls := findClass_of_methodNamed B.named
  have hlocks := B.notSynchronized
  subst hsz
  have hD := hD0.self (sz := s.heap.size)
  generalize hAe : va_A [(h0, .inr (11, [.ref tp, .int 0, .int 0, .int (-1), .ref td, .ref sh, .ref ch, .ref sw, .ref wk, .ref g1, .ref g2, .ref g3, .int 0, .int 0, .ref tl, .null, .null])), (td, .inr (3, [.ref r1, .ref r2, .ref r3, .ref r4, .ref r5, .int 0, .int 0, .int 0]))] s.heap.size = A at hD ⊢
  have hA : ∀ q : Nat, s.heap.size ≤ q → A q := fun q h => by rw [← hAe]; exact Or.inr h
  have hl := lv_entry ([.ref h0, .int p0, .int p1, .int p2]) (n := 11) (Nat.le_of_ble_eq_true rfl)
  rw [lg_entry_eq]
  generalize (lg_sl ([.ref h0, .int p0, .int p1, .int p2]) ++ List.replicate (11 - (lg_sl ([.ref h0, .int p0, .int p1, .int p2])).length) Slot.unset).toArray = ls at hl ⊢
  have hl : lv_has ls 11 [(0, .ref h0), (1, .int p0), (2, .int p1), (3, .int p2)] := hl
  refine zH (A := A) (ws := [(h0, .inr (11, [.ref tp, .int 0, .int 0, .int (-1), .ref td, .ref sh, .ref ch, .ref sw, .ref wk, .ref g1, .ref g2, .ref g3, .int 0, .int 0, .ref tl, .null, .null])), (td, .inr (3, [.ref r1, .ref r2, .ref r3, .ref r4, .ref r5, .int 0, .int 0, .int 0]))]) (fun H hP hS => ?_) hP
  have ho := fun w (h : w ∈ ow_c_worst) => hts w (List.mem_cons_of_mem _ (List.mem_append_left _ h))
  have hin11 : ∀ w ∈ u_ws RX11 TX11 17, w ∈ vs_c_worst := fun w h => (List.mem_cons_of_mem _ (List.mem_append_right _ (List.mem_append_right _ (List.mem_append_right _ h))))
  refine lv_aload_n hx hb dX11_worst_0 rfl (lv_at hl 0 rfl) ?_
  refine va_get (D := (dC, dI)) (ci := 11) (v := .ref td) (C := RX11) (T := TX11) (N := 17) hx hb hts hin11 hown hK hP 0 rfl rfl 4 (by decide) (ho (.fieldLink RX11 26 "NearEnough" "told" "LNearEnough$Program;") (List.mem_of_getElem? (i := 0) rfl)) (fun _ h9 => h9) rfl dX11_worst_1 ?_
  refine lv_iload_n hx hb dX11_worst_4 rfl (lv_at hl 1 rfl) ?_
  have hPc := hP.sub (ws' := [(td, .inr (3, [.ref r1, .ref r2, .ref r3, .ref r4, .ref r5, .int 0, .int 0, .int 0]))]) [1] rfl
  have hDc := hD.sub (ws' := [(td, .inr (3, [.ref r1, .ref r2, .ref r3, .ref r4, .ref r5, .int 0, .int 0, .int 0]))]) [1] (by decide) rfl
  have hKc := hK.sub (tys' := []) [] rfl
  refine zz_i (wr := [(h0, .inr (11, [.ref tp, .int 0, .int 0, .int (-1), .ref td, .ref sh, .ref ch, .ref sw, .ref wk, .ref g1, .ref g2, .ref g3, .int 0, .int 0, .ref tl, .null, .null]))]) (va_runV (As := [.int p0]) (rest := []) ⟨hx, hb, hml, hown, hts⟩ (c_hasEnd l dC dI td r1 r2 r3 r4 r5 p0 H.size) (cwV 1 hts gd_c_worst_227_c_hasEnd rfl rfl rfl (by decide +kernel) ⟨Nat.le_of_ble_eq_true rfl, Nat.le_of_ble_eq_true rfl⟩) (preV hPc hKc hDc hE (ci := 3) (q0 := 0) rfl rfl) rfl rfl hl.1 rfl (lv_room (Nat.le_of_ble_eq_true rfl)) dX11_worst_5 ⟨Nat.le_of_ble_eq_true rfl, Nat.le_of_ble_eq_true rfl⟩) hK hP hD hS hA [1] [0] rfl rfl (by decide) (by decide) (fun u H locs hK hP hD hS => ?_)
  have hP : va_P (dC, dI) vwCl [(h0, .inr (11, [.ref tp, .int 0, .int 0, .int (-1), .ref td, .ref sh, .ref ch, .ref sw, .ref wk, .ref g1, .ref g2, .ref g3, .int 0, .int 0, .ref tl, .null, .null])), (td, .inr (3, [.ref r1, .ref r2, .ref r3, .ref r4, .ref r5, .int 0, .int 0, .int 0]))] H := hP
  have hD : va_D A [(h0, .inr (11, [.ref tp, .int 0, .int 0, .int (-1), .ref td, .ref sh, .ref ch, .ref sw, .ref wk, .ref g1, .ref g2, .ref g3, .int 0, .int 0, .ref tl, .null, .null])), (td, .inr (3, [.ref r1, .ref r2, .ref r3, .ref r4, .ref r5, .int 0, .int 0, .int 0]))] := hD
  have hK : va_K (dC, dI) vwCl [] s := hK
  refine W.widen (k := 0) (n := 0) (Nat.le_of_ble_eq_true rfl) (Nat.le_of_ble_eq_true rfl) ?_
  refine lv_if_eq (tgt := 28) hx hb dX11_worst_8 (by decide) (fun _ => ?_) (fun cc => absurd (by decide) cc)
  refine lv_ldc2 (v := (-1000000000000)) hx hb hown (ho (.constantLong RX11 221 (-1000000000000)) (List.mem_of_getElem? (i := 1) rfl)) dX11_worst_28 ?_
  refine W.widen (k := 0) (n := 0) (Nat.le_of_ble_eq_true rfl) (Nat.le_of_ble_eq_true rfl) ?_
  exact W.lret (v := (-1000000000000)) hx hb hr (fun t ht hW => ⟨⟨(-1000000000000), (), rfl, rfl, wEn_of (hP.sub [] rfl) (hK.sub [] rfl) (hD.sub [] (by decide) rfl) ht hW⟩, hS.F ht⟩) hS.2.2 dX11_worst_31
def ow_c_led : List Cond := [.fieldLink RX11 26 "NearEnough" "told" "LNearEnough$Program;", .constantLong RX11 221 (-1000000000000)]
def vs_c_led : List Cond := .code yX11_led cX11_led 8 (some .long) :: (ow_c_led ++ (([.methodLink RX11 227 yX3_hasEnd, .instanceMethod yX3_hasEnd, .selects RX3 yX3_hasEnd yX3_hasEnd, .initialized RX3] : List Cond) ++ (vs_c_hasEnd ++ (wsX110))))
theorem vg_c_led : vs_c_led.all goodWord = true := by decide +kernel
theorem gd_c_led_227_c_hasEnd : GoodIn vs_c_led (wsV RX11 227 RX3 yX3_hasEnd vs_c_hasEnd) := goodIn_app (goodIn_sub (fun w h => (List.mem_cons_of_mem _ (List.mem_append_right _ (List.mem_append_left _ h)))) (by decide +kernel)) (goodIn_sub (fun w h => (List.mem_cons_of_mem _ (List.mem_append_right _ (List.mem_append_right _ (List.mem_append_left _ h))))) vg_c_hasEnd)
set_option maxHeartbeats 4000000 in
set_option maxRecDepth 100000 in
theorem c_led (l : Launch) (dC : Nat → ClassId) (dI : Nat → Nat → Nat) (h0 : Nat) (tp : Nat) (td : Nat) (sh : Nat) (ch : Nat) (sw : Nat) (wk : Nat) (g1 : Nat) (g2 : Nat) (g3 : Nat) (tl : Nat) (r1 : Nat) (r2 : Nat) (r3 : Nat) (r4 : Nat) (r5 : Nat) (p0 : Int32) (p1 : Int32) (p2 : Int32) (p3 : Int32) (sz : Nat) : Met l yX11_led vs_c_led ({ frames := 1, cells := 0, slots := 0, locals := 21 }) (va_Pc [.ref h0, .int p0, .int p1, .int p2, .int p3] (wSt dC dI [(h0, .inr (11, [.ref tp, .int 0, .int 0, .int (-1), .ref td, .ref sh, .ref ch, .ref sw, .ref wk, .ref g1, .ref g2, .ref g3, .int 0, .int 0, .ref tl, .null, .null])), (td, .inr (3, [.ref r1, .ref r2, .ref r3, .ref r4, .ref r5, .int 0, .int 0, .int 0]))] [] sz)) (va_Ql (fun (r : Int64) (_ : Unit) => r = (-1000000000000)) (fun (u : Unit) => wEn dC dI (va_A [(h0, .inr (11, [.ref tp, .int 0, .int 0, .int (-1), .ref td, .ref sh, .ref ch, .ref sw, .ref wk, .ref g1, .ref g2, .ref g3, .int 0, .int 0, .ref tl, .null, .null])), (td, .inr (3, [.ref r1, .ref r2, .ref r3, .ref r4, .ref r5, .int 0, .int 0, .int 0]))] sz) [] []) (va_A [(h0, .inr (11, [.ref tp, .int 0, .int 0, .int (-1), .ref td, .ref sh, .ref ch, .ref sw, .ref wk, .ref g1, .ref g2, .ref g3, .int 0, .int 0, .ref tl, .null, .null])), (td, .inr (3, [.ref r1, .ref r2, .ref r3, .ref r4, .ref r5, .int 0, .int 0, .int 0]))] sz)) 0 0 (va_A [(h0, .inr (11, [.ref tp, .int 0, .int 0, .int (-1), .ref td, .ref sh, .ref ch, .ref sw, .ref wk, .ref g1, .ref g2, .ref g3, .int 0, .int 0, .ref tl, .null, .null])), (td, .inr (3, [.ref r1, .ref r2, .ref r3, .ref r4, .ref r5, .int 0, .int 0, .int 0]))] sz) := by
  refine Met.ofW (cc := cX11_led) (maxL := 8) (ret := (some .long)) (by decide) rfl ?_
  intro p e s m args below meth c s₁ B hml hv
  obtain ⟨rfl, hsz, hP, hK, hD0, hE⟩ := hv
  have hx := B.exec
  have hb := B.bytes
  have hr := B.returns
  have hts := atoms_spec (ws := vs_c_led) B.pre
  have hown : s.vm.findClass RX11 = some m.cls := findClass_of_methodNamed B.named
  have hlocks := B.notSynchronized
  subst hsz
  have hD := hD0.self (sz := s.heap.size)
  generalize hAe : va_A [(h0, .inr (11, [.ref tp, .int 0, .int 0, .int (-1), .ref td, .ref sh, .ref ch, .ref sw, .ref wk, .ref g1, .ref g2, .ref g3, .int 0, .int 0, .ref tl, .null, .null])), (td, .inr (3, [.ref r1, .ref r2, .ref r3, .ref r4, .ref r5, .int 0, .int 0, .int 0]))] s.heap.size = A at hD ⊢
  have hA : ∀ q : Nat, s.heap.size ≤ q → A q := fun q h => by rw [← hAe]; exact Or.inr h
  have hl := lv_entry ([.ref h0, .int p0, .int p1, .int p2, .int p3]) (n := 8) (Nat.le_of_ble_eq_true rfl)
  rw [lg_entry_eq]
  generalize (lg_sl ([.ref h0, .int p0, .int p1, .int p2, .int p3]) ++ List.replicate (8 - (lg_sl ([.ref h0, .int p0, .int p1, .int p2, .int p3])).length) Slot.unset).toArray = ls at hl ⊢
  have hl : lv_has ls 8 [(0, .ref h0), (1, .int p0), (2, .int p1), (3, .int p2), (4, .int p3)] := hl
  refine zH (A := A) (ws := [(h0, .inr (11, [.ref tp, .int 0, .int 0, .int (-1), .ref td, .ref sh, .ref ch, .ref sw, .ref wk, .ref g1, .ref g2, .ref g3, .int 0, .int 0, .ref tl, .null, .null])), (td, .inr (3, [.ref r1, .ref r2, .ref r3, .ref r4, .ref r5, .int 0, .int 0, .int 0]))]) (fun H hP hS => ?_) hP
  have ho := fun w (h : w ∈ ow_c_led) => hts w (List.mem_cons_of_mem _ (List.mem_append_left _ h))
  have hin11 : ∀ w ∈ u_ws RX11 TX11 17, w ∈ vs_c_led := fun w h => (List.mem_cons_of_mem _ (List.mem_append_right _ (List.mem_append_right _ (List.mem_append_right _ h))))
  refine lv_aload_n hx hb dX11_led_0 rfl (lv_at hl 0 rfl) ?_
  refine va_get (D := (dC, dI)) (ci := 11) (v := .ref td) (C := RX11) (T := TX11) (N := 17) hx hb hts hin11 hown hK hP 0 rfl rfl 4 (by decide) (ho (.fieldLink RX11 26 "NearEnough" "told" "LNearEnough$Program;") (List.mem_of_getElem? (i := 0) rfl)) (fun _ h9 => h9) rfl dX11_led_1 ?_
  refine lv_iload_n hx hb dX11_led_4 rfl (lv_at hl 1 rfl) ?_
  have hPc := hP.sub (ws' := [(td, .inr (3, [.ref r1, .ref r2, .ref r3, .ref r4, .ref r5, .int 0, .int 0, .int 0]))]) [1] rfl
  have hDc := hD.sub (ws' := [(td, .inr (3, [.ref r1, .ref r2, .ref r3, .ref r4, .ref r5, .int 0, .int 0, .int 0]))]) [1] (by decide) rfl
  have hKc := hK.sub (tys' := []) [] rfl
  refine zz_i (wr := [(h0, .inr (11, [.ref tp, .int 0, .int 0, .int (-1), .ref td, .ref sh, .ref ch, .ref sw, .ref wk, .ref g1, .ref g2, .ref g3, .int 0, .int 0, .ref tl, .null, .null]))]) (va_runV (As := [.int p0]) (rest := []) ⟨hx, hb, hml, hown, hts⟩ (c_hasEnd l dC dI td r1 r2 r3 r4 r5 p0 H.size) (cwV 1 hts gd_c_led_227_c_hasEnd rfl rfl rfl (by decide +kernel) ⟨Nat.le_of_ble_eq_true rfl, Nat.le_of_ble_eq_true rfl⟩) (preV hPc hKc hDc hE (ci := 3) (q0 := 0) rfl rfl) rfl rfl hl.1 rfl (lv_room (Nat.le_of_ble_eq_true rfl)) dX11_led_5 ⟨Nat.le_of_ble_eq_true rfl, Nat.le_of_ble_eq_true rfl⟩) hK hP hD hS hA [1] [0] rfl rfl (by decide) (by decide) (fun u H locs hK hP hD hS => ?_)
  have hP : va_P (dC, dI) vwCl [(h0, .inr (11, [.ref tp, .int 0, .int 0, .int (-1), .ref td, .ref sh, .ref ch, .ref sw, .ref wk, .ref g1, .ref g2, .ref g3, .int 0, .int 0, .ref tl, .null, .null])), (td, .inr (3, [.ref r1, .ref r2, .ref r3, .ref r4, .ref r5, .int 0, .int 0, .int 0]))] H := hP
  have hD : va_D A [(h0, .inr (11, [.ref tp, .int 0, .int 0, .int (-1), .ref td, .ref sh, .ref ch, .ref sw, .ref wk, .ref g1, .ref g2, .ref g3, .int 0, .int 0, .ref tl, .null, .null])), (td, .inr (3, [.ref r1, .ref r2, .ref r3, .ref r4, .ref r5, .int 0, .int 0, .int 0]))] := hD
  have hK : va_K (dC, dI) vwCl [] s := hK
  refine W.widen (k := 0) (n := 0) (Nat.le_of_ble_eq_true rfl) (Nat.le_of_ble_eq_true rfl) ?_
  refine lv_if_eq (tgt := 33) hx hb dX11_led_8 (by decide) (fun _ => ?_) (fun cc => absurd (by decide) cc)
  refine lv_ldc2 (v := (-1000000000000)) hx hb hown (ho (.constantLong RX11 221 (-1000000000000)) (List.mem_of_getElem? (i := 1) rfl)) dX11_led_33 ?_
  refine W.widen (k := 0) (n := 0) (Nat.le_of_ble_eq_true rfl) (Nat.le_of_ble_eq_true rfl) ?_
  exact W.lret (v := (-1000000000000)) hx hb hr (fun t ht hW => ⟨⟨(-1000000000000), (), rfl, rfl, wEn_of (hP.sub [] rfl) (hK.sub [] rfl) (hD.sub [] (by decide) rfl) ht hW⟩, hS.F ht⟩) hS.2.2 dX11_led_36
def ow_c_purse : List Cond := [.constant RX11 353 (99999), .fieldLink RX11 75 "NearEnough" "left" "I"]
def vs_c_purse : List Cond := .code yX11_purse cX11_purse 2 (some .boolean) :: (ow_c_purse ++ (wsX110))
theorem vg_c_purse : vs_c_purse.all goodWord = true := by decide +kernel
set_option maxHeartbeats 4000000 in
set_option maxRecDepth 100000 in
theorem c_purse (l : Launch) (dC : Nat → ClassId) (dI : Nat → Nat → Nat) (h0 : Nat) (tp : Nat) (td : Nat) (sh : Nat) (ch : Nat) (sw : Nat) (wk : Nat) (g1 : Nat) (g2 : Nat) (g3 : Nat) (tl : Nat) (p0 : Int32) (sz : Nat) : Met l yX11_purse vs_c_purse ({ frames := 0, cells := 0, slots := 0, locals := 0 }) (va_Pc [.ref h0, .int p0] (wSt dC dI [(h0, .inr (11, [.ref tp, .int 0, .int 0, .int (-1), .ref td, .ref sh, .ref ch, .ref sw, .ref wk, .ref g1, .ref g2, .ref g3, .int 0, .int 0, .ref tl, .null, .null]))] [] sz)) (va_Qi (fun (r : Int32) (_ : Unit) => r = isn p0 0 99999) (fun (u : Unit) => wEn dC dI (va_A [(h0, .inr (11, [.ref tp, .int 0, .int 0, .int (-1), .ref td, .ref sh, .ref ch, .ref sw, .ref wk, .ref g1, .ref g2, .ref g3, .int 0, .int 0, .ref tl, .null, .null]))] sz) [] []) (va_A [(h0, .inr (11, [.ref tp, .int 0, .int 0, .int (-1), .ref td, .ref sh, .ref ch, .ref sw, .ref wk, .ref g1, .ref g2, .ref g3, .int 0, .int 0, .ref tl, .null, .null]))] sz)) 0 0 (va_A [(h0, .inr (11, [.ref tp, .int 0, .int 0, .int (-1), .ref td, .ref sh, .ref ch, .ref sw, .ref wk, .ref g1, .ref g2, .ref g3, .int 0, .int 0, .ref tl, .null, .null]))] sz) := by
  refine Met.ofW (cc := cX11_purse) (maxL := 2) (ret := (some .boolean)) (by decide) rfl ?_
  intro p e s m args below meth c s₁ B hml hv
  obtain ⟨rfl, hsz, hP, hK, hD0, hE⟩ := hv
  have hx := B.exec
  have hb := B.bytes
  have hr := B.returns
  have hts := atoms_spec (ws := vs_c_purse) B.pre
  have hown : s.vm.findClass RX11 = some m.cls := findClass_of_methodNamed B.named
  have hlocks := B.notSynchronized
  subst hsz
  have hD := hD0.self (sz := s.heap.size)
  generalize hAe : va_A [(h0, .inr (11, [.ref tp, .int 0, .int 0, .int (-1), .ref td, .ref sh, .ref ch, .ref sw, .ref wk, .ref g1, .ref g2, .ref g3, .int 0, .int 0, .ref tl, .null, .null]))] s.heap.size = A at hD ⊢
  have hA : ∀ q : Nat, s.heap.size ≤ q → A q := fun q h => by rw [← hAe]; exact Or.inr h
  have hl := lv_entry ([.ref h0, .int p0]) (n := 2) (Nat.le_of_ble_eq_true rfl)
  rw [lg_entry_eq]
  generalize (lg_sl ([.ref h0, .int p0]) ++ List.replicate (2 - (lg_sl ([.ref h0, .int p0])).length) Slot.unset).toArray = ls at hl ⊢
  have hl : lv_has ls 2 [(0, .ref h0), (1, .int p0)] := hl
  refine zH (A := A) (ws := [(h0, .inr (11, [.ref tp, .int 0, .int 0, .int (-1), .ref td, .ref sh, .ref ch, .ref sw, .ref wk, .ref g1, .ref g2, .ref g3, .int 0, .int 0, .ref tl, .null, .null]))]) (fun H hP hS => ?_) hP
  have ho := fun w (h : w ∈ ow_c_purse) => hts w (List.mem_cons_of_mem _ (List.mem_append_left _ h))
  have hin11 : ∀ w ∈ u_ws RX11 TX11 17, w ∈ vs_c_purse := fun w h => (List.mem_cons_of_mem _ (List.mem_append_right _ h))
  refine lv_iload_n hx hb dX11_purse_0 rfl (lv_at hl 1 rfl) ?_
  refine lv_if_lt (tgt := 11) hx hb dX11_purse_1 (by decide) (fun c_1 => ?_) (fun c_1 => ?_)
  · refine lv_iconst (v := 0) hx hb dX11_purse_11 (by decide) ?_
    refine W.widen (k := 0) (n := 0) (Nat.le_of_ble_eq_true rfl) (Nat.le_of_ble_eq_true rfl) ?_
    exact W.zret (v := 0) hx hb hr rfl (fun t ht hW => ⟨⟨0, (), rfl, (by first | exact (isn_lo c_1).symm | exact (isn_hi' c_1 c_8).symm | exact (isn_in' c_1 c_8).symm), wEn_of (hP.sub [] rfl) (hK.sub [] rfl) (hD.sub [] (by decide) rfl) ht hW⟩, hS.F ht⟩) hS.2.2 dX11_purse_12
  · refine lv_iload_n hx hb dX11_purse_4 rfl (lv_at hl 1 rfl) ?_
    refine lv_ldcw (v := (99999)) hx hb hown (ho (.constant RX11 353 (99999)) (List.mem_of_getElem? (i := 0) rfl)) dX11_purse_5 ?_
    refine lv_icmp_le (tgt := 13) hx hb dX11_purse_8 (by decide) (fun c_8 => ?_) (fun c_8 => ?_)
    · refine lv_aload_n hx hb dX11_purse_13 rfl (lv_at hl 0 rfl) ?_
      refine lv_iload_n hx hb dX11_purse_14 rfl (lv_at hl 1 rfl) ?_
      refine va_put (D := (dC, dI)) (ci := 11) (v := .int p0) (ty := tyX11 13) (C := RX11) (T := TX11) (N := 17) hx hb hts hin11 tyX11 tyX11_ok nmX11 hown hK hP hD hS 0 rfl rfl 13 (by decide) (ho (.fieldLink RX11 75 "NearEnough" "left" "I") (List.mem_of_getElem? (i := 1) rfl)) (fun _ h9 => h9) rfl (by decide +kernel) rfl rfl (Nat.le_of_ble_eq_true rfl) dX11_purse_15 (fun H locs hP hD hS => ?_)
      have hP : va_P (dC, dI) vwCl [(h0, .inr (11, [.ref tp, .int 0, .int 0, .int (-1), .ref td, .ref sh, .ref ch, .ref sw, .ref wk, .ref g1, .ref g2, .ref g3, .int 0, .int p0, .ref tl, .null, .null]))] H := hP
      have hD : va_D A [(h0, .inr (11, [.ref tp, .int 0, .int 0, .int (-1), .ref td, .ref sh, .ref ch, .ref sw, .ref wk, .ref g1, .ref g2, .ref g3, .int 0, .int p0, .ref tl, .null, .null]))] := hD
      refine lv_iconst (v := 1) hx hb dX11_purse_18 (by decide) ?_
      refine W.widen (k := 0) (n := 0) (Nat.le_of_ble_eq_true rfl) (Nat.le_of_ble_eq_true rfl) ?_
      exact W.zret (v := 1) hx hb hr rfl (fun t ht hW => ⟨⟨1, (), rfl, (by first | exact (isn_lo c_1).symm | exact (isn_hi' c_1 c_8).symm | exact (isn_in' c_1 c_8).symm), wEn_of (hP.sub [] rfl) (hK.sub [] rfl) (hD.sub [] (by decide) rfl) ht hW⟩, hS.F ht⟩) hS.2.2 dX11_purse_19
    · refine lv_iconst (v := 0) hx hb dX11_purse_11 (by decide) ?_
      refine W.widen (k := 0) (n := 0) (Nat.le_of_ble_eq_true rfl) (Nat.le_of_ble_eq_true rfl) ?_
      exact W.zret (v := 0) hx hb hr rfl (fun t ht hW => ⟨⟨0, (), rfl, (by first | exact (isn_lo c_1).symm | exact (isn_hi' c_1 c_8).symm | exact (isn_in' c_1 c_8).symm), wEn_of (hP.sub [] rfl) (hK.sub [] rfl) (hD.sub [] (by decide) rfl) ht hW⟩, hS.F ht⟩) hS.2.2 dX11_purse_12
def ow_c_day : List Cond := [.fieldLink RX11 26 "NearEnough" "told" "LNearEnough$Program;"]
def vs_c_day : List Cond := .code yX11_day cX11_day 6 (some .int) :: (ow_c_day ++ (([.methodLink RX11 227 yX3_hasEnd, .instanceMethod yX3_hasEnd, .selects RX3 yX3_hasEnd yX3_hasEnd, .initialized RX3] : List Cond) ++ (vs_c_hasEnd ++ (wsX110))))
theorem vg_c_day : vs_c_day.all goodWord = true := by decide +kernel
theorem gd_c_day_227_c_hasEnd : GoodIn vs_c_day (wsV RX11 227 RX3 yX3_hasEnd vs_c_hasEnd) := goodIn_app (goodIn_sub (fun w h => (List.mem_cons_of_mem _ (List.mem_append_right _ (List.mem_append_left _ h)))) (by decide +kernel)) (goodIn_sub (fun w h => (List.mem_cons_of_mem _ (List.mem_append_right _ (List.mem_append_right _ (List.mem_append_left _ h))))) vg_c_hasEnd)
set_option maxHeartbeats 4000000 in
set_option maxRecDepth 100000 in
theorem c_day (l : Launch) (dC : Nat → ClassId) (dI : Nat → Nat → Nat) (h0 : Nat) (tp : Nat) (td : Nat) (sh : Nat) (ch : Nat) (sw : Nat) (wk : Nat) (g1 : Nat) (g2 : Nat) (g3 : Nat) (tl : Nat) (r1 : Nat) (r2 : Nat) (r3 : Nat) (r4 : Nat) (r5 : Nat) (p0 : Int32) (p1 : Int32) (p2 : Int32) (sz : Nat) : Met l yX11_day vs_c_day ({ frames := 1, cells := 0, slots := 0, locals := 21 }) (va_Pc [.ref h0, .int p0, .int p1, .int p2] (wSt dC dI [(h0, .inr (11, [.ref tp, .int 0, .int 0, .int (-1), .ref td, .ref sh, .ref ch, .ref sw, .ref wk, .ref g1, .ref g2, .ref g3, .int 0, .int 0, .ref tl, .null, .null])), (td, .inr (3, [.ref r1, .ref r2, .ref r3, .ref r4, .ref r5, .int 0, .int 0, .int 0]))] [] sz)) (va_Qi (fun (r : Int32) (_ : Unit) => r = (-1)) (fun (u : Unit) => wEn dC dI (va_A [(h0, .inr (11, [.ref tp, .int 0, .int 0, .int (-1), .ref td, .ref sh, .ref ch, .ref sw, .ref wk, .ref g1, .ref g2, .ref g3, .int 0, .int 0, .ref tl, .null, .null])), (td, .inr (3, [.ref r1, .ref r2, .ref r3, .ref r4, .ref r5, .int 0, .int 0, .int 0]))] sz) [] []) (va_A [(h0, .inr (11, [.ref tp, .int 0, .int 0, .int (-1), .ref td, .ref sh, .ref ch, .ref sw, .ref wk, .ref g1, .ref g2, .ref g3, .int 0, .int 0, .ref tl, .null, .null])), (td, .inr (3, [.ref r1, .ref r2, .ref r3, .ref r4, .ref r5, .int 0, .int 0, .int 0]))] sz)) 0 0 (va_A [(h0, .inr (11, [.ref tp, .int 0, .int 0, .int (-1), .ref td, .ref sh, .ref ch, .ref sw, .ref wk, .ref g1, .ref g2, .ref g3, .int 0, .int 0, .ref tl, .null, .null])), (td, .inr (3, [.ref r1, .ref r2, .ref r3, .ref r4, .ref r5, .int 0, .int 0, .int 0]))] sz) := by
  refine Met.ofW (cc := cX11_day) (maxL := 6) (ret := (some .int)) (by decide) rfl ?_
  intro p e s m args below meth c s₁ B hml hv
  obtain ⟨rfl, hsz, hP, hK, hD0, hE⟩ := hv
  have hx := B.exec
  have hb := B.bytes
  have hr := B.returns
  have hts := atoms_spec (ws := vs_c_day) B.pre
  have hown : s.vm.findClass RX11 = some m.cls := findClass_of_methodNamed B.named
  have hlocks := B.notSynchronized
  subst hsz
  have hD := hD0.self (sz := s.heap.size)
  generalize hAe : va_A [(h0, .inr (11, [.ref tp, .int 0, .int 0, .int (-1), .ref td, .ref sh, .ref ch, .ref sw, .ref wk, .ref g1, .ref g2, .ref g3, .int 0, .int 0, .ref tl, .null, .null])), (td, .inr (3, [.ref r1, .ref r2, .ref r3, .ref r4, .ref r5, .int 0, .int 0, .int 0]))] s.heap.size = A at hD ⊢
  have hA : ∀ q : Nat, s.heap.size ≤ q → A q := fun q h => by rw [← hAe]; exact Or.inr h
  have hl := lv_entry ([.ref h0, .int p0, .int p1, .int p2]) (n := 6) (Nat.le_of_ble_eq_true rfl)
  rw [lg_entry_eq]
  generalize (lg_sl ([.ref h0, .int p0, .int p1, .int p2]) ++ List.replicate (6 - (lg_sl ([.ref h0, .int p0, .int p1, .int p2])).length) Slot.unset).toArray = ls at hl ⊢
  have hl : lv_has ls 6 [(0, .ref h0), (1, .int p0), (2, .int p1), (3, .int p2)] := hl
  refine zH (A := A) (ws := [(h0, .inr (11, [.ref tp, .int 0, .int 0, .int (-1), .ref td, .ref sh, .ref ch, .ref sw, .ref wk, .ref g1, .ref g2, .ref g3, .int 0, .int 0, .ref tl, .null, .null])), (td, .inr (3, [.ref r1, .ref r2, .ref r3, .ref r4, .ref r5, .int 0, .int 0, .int 0]))]) (fun H hP hS => ?_) hP
  have ho := fun w (h : w ∈ ow_c_day) => hts w (List.mem_cons_of_mem _ (List.mem_append_left _ h))
  have hin11 : ∀ w ∈ u_ws RX11 TX11 17, w ∈ vs_c_day := fun w h => (List.mem_cons_of_mem _ (List.mem_append_right _ (List.mem_append_right _ (List.mem_append_right _ h))))
  refine lv_aload_n hx hb dX11_day_0 rfl (lv_at hl 0 rfl) ?_
  refine va_get (D := (dC, dI)) (ci := 11) (v := .ref td) (C := RX11) (T := TX11) (N := 17) hx hb hts hin11 hown hK hP 0 rfl rfl 4 (by decide) (ho (.fieldLink RX11 26 "NearEnough" "told" "LNearEnough$Program;") (List.mem_of_getElem? (i := 0) rfl)) (fun _ h9 => h9) rfl dX11_day_1 ?_
  refine lv_iload_n hx hb dX11_day_4 rfl (lv_at hl 1 rfl) ?_
  have hPc := hP.sub (ws' := [(td, .inr (3, [.ref r1, .ref r2, .ref r3, .ref r4, .ref r5, .int 0, .int 0, .int 0]))]) [1] rfl
  have hDc := hD.sub (ws' := [(td, .inr (3, [.ref r1, .ref r2, .ref r3, .ref r4, .ref r5, .int 0, .int 0, .int 0]))]) [1] (by decide) rfl
  have hKc := hK.sub (tys' := []) [] rfl
  refine zz_i (wr := [(h0, .inr (11, [.ref tp, .int 0, .int 0, .int (-1), .ref td, .ref sh, .ref ch, .ref sw, .ref wk, .ref g1, .ref g2, .ref g3, .int 0, .int 0, .ref tl, .null, .null]))]) (va_runV (As := [.int p0]) (rest := []) ⟨hx, hb, hml, hown, hts⟩ (c_hasEnd l dC dI td r1 r2 r3 r4 r5 p0 H.size) (cwV 1 hts gd_c_day_227_c_hasEnd rfl rfl rfl (by decide +kernel) ⟨Nat.le_of_ble_eq_true rfl, Nat.le_of_ble_eq_true rfl⟩) (preV hPc hKc hDc hE (ci := 3) (q0 := 0) rfl rfl) rfl rfl hl.1 rfl (lv_room (Nat.le_of_ble_eq_true rfl)) dX11_day_5 ⟨Nat.le_of_ble_eq_true rfl, Nat.le_of_ble_eq_true rfl⟩) hK hP hD hS hA [1] [0] rfl rfl (by decide) (by decide) (fun u H locs hK hP hD hS => ?_)
  have hP : va_P (dC, dI) vwCl [(h0, .inr (11, [.ref tp, .int 0, .int 0, .int (-1), .ref td, .ref sh, .ref ch, .ref sw, .ref wk, .ref g1, .ref g2, .ref g3, .int 0, .int 0, .ref tl, .null, .null])), (td, .inr (3, [.ref r1, .ref r2, .ref r3, .ref r4, .ref r5, .int 0, .int 0, .int 0]))] H := hP
  have hD : va_D A [(h0, .inr (11, [.ref tp, .int 0, .int 0, .int (-1), .ref td, .ref sh, .ref ch, .ref sw, .ref wk, .ref g1, .ref g2, .ref g3, .int 0, .int 0, .ref tl, .null, .null])), (td, .inr (3, [.ref r1, .ref r2, .ref r3, .ref r4, .ref r5, .int 0, .int 0, .int 0]))] := hD
  have hK : va_K (dC, dI) vwCl [] s := hK
  refine W.widen (k := 0) (n := 0) (Nat.le_of_ble_eq_true rfl) (Nat.le_of_ble_eq_true rfl) ?_
  refine lv_if_eq (tgt := 30) hx hb dX11_day_8 (by decide) (fun _ => ?_) (fun cc => absurd (by decide) cc)
  refine lv_iconst (v := (-1)) hx hb dX11_day_30 (by decide) ?_
  refine W.widen (k := 0) (n := 0) (Nat.le_of_ble_eq_true rfl) (Nat.le_of_ble_eq_true rfl) ?_
  exact W.iret (v := (-1)) hx hb hr (fun t ht hW => ⟨⟨(-1), (), rfl, rfl, wEn_of (hP.sub [] rfl) (hK.sub [] rfl) (hD.sub [] (by decide) rfl) ht hW⟩, hS.F ht⟩) hS.2.2 dX11_day_31
def ow_c_canPlan : List Cond := [.fieldLink RX11 26 "NearEnough" "told" "LNearEnough$Program;"]
def vs_c_canPlan : List Cond := .code yX11_canPlan cX11_canPlan 3 (some .boolean) :: (ow_c_canPlan ++ (([.methodLink RX11 227 yX3_hasEnd, .instanceMethod yX3_hasEnd, .selects RX3 yX3_hasEnd yX3_hasEnd, .initialized RX3] : List Cond) ++ (vs_c_hasEnd ++ (wsX110))))
theorem vg_c_canPlan : vs_c_canPlan.all goodWord = true := by decide +kernel
theorem gd_c_canPlan_227_c_hasEnd : GoodIn vs_c_canPlan (wsV RX11 227 RX3 yX3_hasEnd vs_c_hasEnd) := goodIn_app (goodIn_sub (fun w h => (List.mem_cons_of_mem _ (List.mem_append_right _ (List.mem_append_left _ h)))) (by decide +kernel)) (goodIn_sub (fun w h => (List.mem_cons_of_mem _ (List.mem_append_right _ (List.mem_append_right _ (List.mem_append_left _ h))))) vg_c_hasEnd)
set_option maxHeartbeats 4000000 in
set_option maxRecDepth 100000 in
theorem c_canPlan (l : Launch) (dC : Nat → ClassId) (dI : Nat → Nat → Nat) (h0 : Nat) (tp : Nat) (td : Nat) (sh : Nat) (ch : Nat) (sw : Nat) (wk : Nat) (g1 : Nat) (g2 : Nat) (g3 : Nat) (tl : Nat) (r1 : Nat) (r2 : Nat) (r3 : Nat) (r4 : Nat) (r5 : Nat) (x : Int32) (y : Int32) (sz : Nat) : Met l yX11_canPlan vs_c_canPlan ({ frames := 1, cells := 0, slots := 0, locals := 21 }) (va_Pc [.ref h0, .int x, .int y] (wSt dC dI [(h0, .inr (11, [.ref tp, .int 0, .int 0, .int (-1), .ref td, .ref sh, .ref ch, .ref sw, .ref wk, .ref g1, .ref g2, .ref g3, .int 0, .int 0, .ref tl, .null, .null])), (td, .inr (3, [.ref r1, .ref r2, .ref r3, .ref r4, .ref r5, .int 0, .int 0, .int 0]))] [] sz)) (va_Qi (fun (r : Int32) (_ : Unit) => r = 0) (fun (u : Unit) => wEn dC dI (va_A [(h0, .inr (11, [.ref tp, .int 0, .int 0, .int (-1), .ref td, .ref sh, .ref ch, .ref sw, .ref wk, .ref g1, .ref g2, .ref g3, .int 0, .int 0, .ref tl, .null, .null])), (td, .inr (3, [.ref r1, .ref r2, .ref r3, .ref r4, .ref r5, .int 0, .int 0, .int 0]))] sz) [(h0, .inr (11, [.ref tp, .int 0, .int 0, .int (-1), .ref td, .ref sh, .ref ch, .ref sw, .ref wk, .ref g1, .ref g2, .ref g3, .int 0, .int 0, .ref tl, .null, .null])), (td, .inr (3, [.ref r1, .ref r2, .ref r3, .ref r4, .ref r5, .int 0, .int 0, .int 0]))] []) (va_A [(h0, .inr (11, [.ref tp, .int 0, .int 0, .int (-1), .ref td, .ref sh, .ref ch, .ref sw, .ref wk, .ref g1, .ref g2, .ref g3, .int 0, .int 0, .ref tl, .null, .null])), (td, .inr (3, [.ref r1, .ref r2, .ref r3, .ref r4, .ref r5, .int 0, .int 0, .int 0]))] sz)) 0 0 (va_A [(h0, .inr (11, [.ref tp, .int 0, .int 0, .int (-1), .ref td, .ref sh, .ref ch, .ref sw, .ref wk, .ref g1, .ref g2, .ref g3, .int 0, .int 0, .ref tl, .null, .null])), (td, .inr (3, [.ref r1, .ref r2, .ref r3, .ref r4, .ref r5, .int 0, .int 0, .int 0]))] sz) := by
  refine Met.ofW (cc := cX11_canPlan) (maxL := 3) (ret := (some .boolean)) (by decide) rfl ?_
  intro p e s m args below meth c s₁ B hml hv
  obtain ⟨rfl, hsz, hP, hK, hD0, hE⟩ := hv
  have hx := B.exec
  have hb := B.bytes
  have hr := B.returns
  have hts := atoms_spec (ws := vs_c_canPlan) B.pre
  have hown : s.vm.findClass RX11 = some m.cls := findClass_of_methodNamed B.named
  have hlocks := B.notSynchronized
  subst hsz
  have hD := hD0.self (sz := s.heap.size)
  generalize hAe : va_A [(h0, .inr (11, [.ref tp, .int 0, .int 0, .int (-1), .ref td, .ref sh, .ref ch, .ref sw, .ref wk, .ref g1, .ref g2, .ref g3, .int 0, .int 0, .ref tl, .null, .null])), (td, .inr (3, [.ref r1, .ref r2, .ref r3, .ref r4, .ref r5, .int 0, .int 0, .int 0]))] s.heap.size = A at hD ⊢
  have hA : ∀ q : Nat, s.heap.size ≤ q → A q := fun q h => by rw [← hAe]; exact Or.inr h
  have hl := lv_entry ([.ref h0, .int x, .int y]) (n := 3) (Nat.le_of_ble_eq_true rfl)
  rw [lg_entry_eq]
  generalize (lg_sl ([.ref h0, .int x, .int y]) ++ List.replicate (3 - (lg_sl ([.ref h0, .int x, .int y])).length) Slot.unset).toArray = ls at hl ⊢
  have hl : lv_has ls 3 [(0, .ref h0), (1, .int x), (2, .int y)] := hl
  refine zH (A := A) (ws := [(h0, .inr (11, [.ref tp, .int 0, .int 0, .int (-1), .ref td, .ref sh, .ref ch, .ref sw, .ref wk, .ref g1, .ref g2, .ref g3, .int 0, .int 0, .ref tl, .null, .null])), (td, .inr (3, [.ref r1, .ref r2, .ref r3, .ref r4, .ref r5, .int 0, .int 0, .int 0]))]) (fun H hP hS => ?_) hP
  have ho := fun w (h : w ∈ ow_c_canPlan) => hts w (List.mem_cons_of_mem _ (List.mem_append_left _ h))
  have hin11 : ∀ w ∈ u_ws RX11 TX11 17, w ∈ vs_c_canPlan := fun w h => (List.mem_cons_of_mem _ (List.mem_append_right _ (List.mem_append_right _ (List.mem_append_right _ h))))
  refine lv_aload_n hx hb dX11_canPlan_0 rfl (lv_at hl 0 rfl) ?_
  refine va_get (D := (dC, dI)) (ci := 11) (v := .ref td) (C := RX11) (T := TX11) (N := 17) hx hb hts hin11 hown hK hP 0 rfl rfl 4 (by decide) (ho (.fieldLink RX11 26 "NearEnough" "told" "LNearEnough$Program;") (List.mem_of_getElem? (i := 0) rfl)) (fun _ h9 => h9) rfl dX11_canPlan_1 ?_
  refine lv_iload_n hx hb dX11_canPlan_4 rfl (lv_at hl 1 rfl) ?_
  have hPc := hP.sub (ws' := [(td, .inr (3, [.ref r1, .ref r2, .ref r3, .ref r4, .ref r5, .int 0, .int 0, .int 0]))]) [1] rfl
  have hDc := hD.sub (ws' := [(td, .inr (3, [.ref r1, .ref r2, .ref r3, .ref r4, .ref r5, .int 0, .int 0, .int 0]))]) [1] (by decide) rfl
  have hKc := hK.sub (tys' := []) [] rfl
  refine zz_i (wr := [(h0, .inr (11, [.ref tp, .int 0, .int 0, .int (-1), .ref td, .ref sh, .ref ch, .ref sw, .ref wk, .ref g1, .ref g2, .ref g3, .int 0, .int 0, .ref tl, .null, .null]))]) (va_runV (As := [.int x]) (rest := []) ⟨hx, hb, hml, hown, hts⟩ (c_hasEnd l dC dI td r1 r2 r3 r4 r5 x H.size) (cwV 1 hts gd_c_canPlan_227_c_hasEnd rfl rfl rfl (by decide +kernel) ⟨Nat.le_of_ble_eq_true rfl, Nat.le_of_ble_eq_true rfl⟩) (preV hPc hKc hDc hE (ci := 3) (q0 := 0) rfl rfl) rfl rfl hl.1 rfl (lv_room (Nat.le_of_ble_eq_true rfl)) dX11_canPlan_5 ⟨Nat.le_of_ble_eq_true rfl, Nat.le_of_ble_eq_true rfl⟩) hK hP hD hS hA [1] [0] rfl rfl (by decide) (by decide) (fun u H locs hK hP hD hS => ?_)
  have hP : va_P (dC, dI) vwCl [(h0, .inr (11, [.ref tp, .int 0, .int 0, .int (-1), .ref td, .ref sh, .ref ch, .ref sw, .ref wk, .ref g1, .ref g2, .ref g3, .int 0, .int 0, .ref tl, .null, .null])), (td, .inr (3, [.ref r1, .ref r2, .ref r3, .ref r4, .ref r5, .int 0, .int 0, .int 0]))] H := hP
  have hD : va_D A [(h0, .inr (11, [.ref tp, .int 0, .int 0, .int (-1), .ref td, .ref sh, .ref ch, .ref sw, .ref wk, .ref g1, .ref g2, .ref g3, .int 0, .int 0, .ref tl, .null, .null])), (td, .inr (3, [.ref r1, .ref r2, .ref r3, .ref r4, .ref r5, .int 0, .int 0, .int 0]))] := hD
  have hK : va_K (dC, dI) vwCl [] s := hK
  refine W.widen (k := 0) (n := 0) (Nat.le_of_ble_eq_true rfl) (Nat.le_of_ble_eq_true rfl) ?_
  refine lv_if_eq (tgt := 26) hx hb dX11_canPlan_8 (by decide) (fun _ => ?_) (fun cc => absurd (by decide) cc)
  refine lv_iconst (v := 0) hx hb dX11_canPlan_26 (by decide) ?_
  refine W.widen (k := 0) (n := 0) (Nat.le_of_ble_eq_true rfl) (Nat.le_of_ble_eq_true rfl) ?_
  exact W.zret (v := 0) hx hb hr rfl (fun t ht hW => ⟨⟨0, (), rfl, rfl, wEn_of (hP.sub [0, 1] rfl) (hK.sub [] rfl) (hD.sub [0, 1] (by decide) rfl) ht hW⟩, hS.F ht⟩) hS.2.2 dX11_canPlan_27
def ow_c_plan : List Cond := []
def vs_c_plan : List Cond := .code yX11_plan cX11_plan 4 (some .int) :: (ow_c_plan ++ (([.methodLink RX11 357 yX11_canPlan, .instanceMethod yX11_canPlan, .selects RX11 yX11_canPlan yX11_canPlan, .initialized RX11] : List Cond) ++ (vs_c_canPlan)))
theorem vg_c_plan : vs_c_plan.all goodWord = true := by decide +kernel
theorem gd_c_plan_357_c_canPlan : GoodIn vs_c_plan (wsV RX11 357 RX11 yX11_canPlan vs_c_canPlan) := goodIn_app (goodIn_sub (fun w h => (List.mem_cons_of_mem _ (List.mem_append_right _ (List.mem_append_left _ h)))) (by decide +kernel)) (goodIn_sub (fun w h => (List.mem_cons_of_mem _ (List.mem_append_right _ (List.mem_append_right _ h)))) vg_c_canPlan)
set_option maxHeartbeats 4000000 in
set_option maxRecDepth 100000 in
theorem c_plan (l : Launch) (dC : Nat → ClassId) (dI : Nat → Nat → Nat) (h0 : Nat) (tp : Nat) (td : Nat) (sh : Nat) (ch : Nat) (sw : Nat) (wk : Nat) (g1 : Nat) (g2 : Nat) (g3 : Nat) (tl : Nat) (r1 : Nat) (r2 : Nat) (r3 : Nat) (r4 : Nat) (r5 : Nat) (p0 : Int32) (p1 : Int32) (sz : Nat) : Met l yX11_plan vs_c_plan ({ frames := 2, cells := 0, slots := 0, locals := 43 }) (va_Pc [.ref h0, .int p0, .int p1] (wSt dC dI [(h0, .inr (11, [.ref tp, .int 0, .int 0, .int (-1), .ref td, .ref sh, .ref ch, .ref sw, .ref wk, .ref g1, .ref g2, .ref g3, .int 0, .int 0, .ref tl, .null, .null])), (td, .inr (3, [.ref r1, .ref r2, .ref r3, .ref r4, .ref r5, .int 0, .int 0, .int 0]))] [] sz)) (va_Qi (fun (r : Int32) (_ : Unit) => r = (-1)) (fun (u : Unit) => wEn dC dI (va_A [(h0, .inr (11, [.ref tp, .int 0, .int 0, .int (-1), .ref td, .ref sh, .ref ch, .ref sw, .ref wk, .ref g1, .ref g2, .ref g3, .int 0, .int 0, .ref tl, .null, .null])), (td, .inr (3, [.ref r1, .ref r2, .ref r3, .ref r4, .ref r5, .int 0, .int 0, .int 0]))] sz) [] []) (va_A [(h0, .inr (11, [.ref tp, .int 0, .int 0, .int (-1), .ref td, .ref sh, .ref ch, .ref sw, .ref wk, .ref g1, .ref g2, .ref g3, .int 0, .int 0, .ref tl, .null, .null])), (td, .inr (3, [.ref r1, .ref r2, .ref r3, .ref r4, .ref r5, .int 0, .int 0, .int 0]))] sz)) 0 0 (va_A [(h0, .inr (11, [.ref tp, .int 0, .int 0, .int (-1), .ref td, .ref sh, .ref ch, .ref sw, .ref wk, .ref g1, .ref g2, .ref g3, .int 0, .int 0, .ref tl, .null, .null])), (td, .inr (3, [.ref r1, .ref r2, .ref r3, .ref r4, .ref r5, .int 0, .int 0, .int 0]))] sz) := by
  refine Met.ofW (cc := cX11_plan) (maxL := 4) (ret := (some .int)) (by decide) rfl ?_
  intro p e s m args below meth c s₁ B hml hv
  obtain ⟨rfl, hsz, hP, hK, hD0, hE⟩ := hv
  have hx := B.exec
  have hb := B.bytes
  have hr := B.returns
  have hts := atoms_spec (ws := vs_c_plan) B.pre
  have hown : s.vm.findClass RX11 = some m.cls := findClass_of_methodNamed B.named
  have hlocks := B.notSynchronized
  subst hsz
  have hD := hD0.self (sz := s.heap.size)
  generalize hAe : va_A [(h0, .inr (11, [.ref tp, .int 0, .int 0, .int (-1), .ref td, .ref sh, .ref ch, .ref sw, .ref wk, .ref g1, .ref g2, .ref g3, .int 0, .int 0, .ref tl, .null, .null])), (td, .inr (3, [.ref r1, .ref r2, .ref r3, .ref r4, .ref r5, .int 0, .int 0, .int 0]))] s.heap.size = A at hD ⊢
  have hA : ∀ q : Nat, s.heap.size ≤ q → A q := fun q h => by rw [← hAe]; exact Or.inr h
  have hl := lv_entry ([.ref h0, .int p0, .int p1]) (n := 4) (Nat.le_of_ble_eq_true rfl)
  rw [lg_entry_eq]
  generalize (lg_sl ([.ref h0, .int p0, .int p1]) ++ List.replicate (4 - (lg_sl ([.ref h0, .int p0, .int p1])).length) Slot.unset).toArray = ls at hl ⊢
  have hl : lv_has ls 4 [(0, .ref h0), (1, .int p0), (2, .int p1)] := hl
  refine zH (A := A) (ws := [(h0, .inr (11, [.ref tp, .int 0, .int 0, .int (-1), .ref td, .ref sh, .ref ch, .ref sw, .ref wk, .ref g1, .ref g2, .ref g3, .int 0, .int 0, .ref tl, .null, .null])), (td, .inr (3, [.ref r1, .ref r2, .ref r3, .ref r4, .ref r5, .int 0, .int 0, .int 0]))]) (fun H hP hS => ?_) hP
  have ho := fun w (h : w ∈ ow_c_plan) => hts w (List.mem_cons_of_mem _ (List.mem_append_left _ h))
  refine lv_aload_n hx hb dX11_plan_0 rfl (lv_at hl 0 rfl) ?_
  refine lv_iload_n hx hb dX11_plan_1 rfl (lv_at hl 1 rfl) ?_
  refine lv_iload_n hx hb dX11_plan_2 rfl (lv_at hl 2 rfl) ?_
  have hPc := hP.sub (ws' := [(h0, .inr (11, [.ref tp, .int 0, .int 0, .int (-1), .ref td, .ref sh, .ref ch, .ref sw, .ref wk, .ref g1, .ref g2, .ref g3, .int 0, .int 0, .ref tl, .null, .null])), (td, .inr (3, [.ref r1, .ref r2, .ref r3, .ref r4, .ref r5, .int 0, .int 0, .int 0]))]) [0, 1] rfl
  have hDc := hD.sub (ws' := [(h0, .inr (11, [.ref tp, .int 0, .int 0, .int (-1), .ref td, .ref sh, .ref ch, .ref sw, .ref wk, .ref g1, .ref g2, .ref g3, .int 0, .int 0, .ref tl, .null, .null])), (td, .inr (3, [.ref r1, .ref r2, .ref r3, .ref r4, .ref r5, .int 0, .int 0, .int 0]))]) [0, 1] (by decide) rfl
  have hKc := hK.sub (tys' := []) [] rfl
  refine zz_i (wr := []) (va_runV (As := [.int p0, .int p1]) (rest := []) ⟨hx, hb, hml, hown, hts⟩ (c_canPlan l dC dI h0 tp td sh ch sw wk g1 g2 g3 tl r1 r2 r3 r4 r5 p0 p1 H.size) (cwV 2 hts gd_c_plan_357_c_canPlan rfl rfl rfl (by decide +kernel) ⟨Nat.le_of_ble_eq_true rfl, Nat.le_of_ble_eq_true rfl⟩) (preV hPc hKc hDc hE (ci := 11) (q0 := 0) rfl rfl) rfl rfl hl.1 rfl (lv_room (Nat.le_of_ble_eq_true rfl)) dX11_plan_3 ⟨Nat.le_of_ble_eq_true rfl, Nat.le_of_ble_eq_true rfl⟩) hK hP hD hS hA [0, 1] [] rfl rfl (by decide) (by decide) (fun u H locs hK hP hD hS => ?_)
  have hP : va_P (dC, dI) vwCl [(h0, .inr (11, [.ref tp, .int 0, .int 0, .int (-1), .ref td, .ref sh, .ref ch, .ref sw, .ref wk, .ref g1, .ref g2, .ref g3, .int 0, .int 0, .ref tl, .null, .null])), (td, .inr (3, [.ref r1, .ref r2, .ref r3, .ref r4, .ref r5, .int 0, .int 0, .int 0]))] H := hP
  have hD : va_D A [(h0, .inr (11, [.ref tp, .int 0, .int 0, .int (-1), .ref td, .ref sh, .ref ch, .ref sw, .ref wk, .ref g1, .ref g2, .ref g3, .int 0, .int 0, .ref tl, .null, .null])), (td, .inr (3, [.ref r1, .ref r2, .ref r3, .ref r4, .ref r5, .int 0, .int 0, .int 0]))] := hD
  have hK : va_K (dC, dI) vwCl [] s := hK
  refine W.widen (k := 0) (n := 0) (Nat.le_of_ble_eq_true rfl) (Nat.le_of_ble_eq_true rfl) ?_
  refine lv_if_ne (tgt := 11) hx hb dX11_plan_6 (by decide) (fun cc => absurd cc (by decide)) (fun _ => ?_)
  refine lv_iconst (v := (-1)) hx hb dX11_plan_9 (by decide) ?_
  refine W.widen (k := 0) (n := 0) (Nat.le_of_ble_eq_true rfl) (Nat.le_of_ble_eq_true rfl) ?_
  exact W.iret (v := (-1)) hx hb hr (fun t ht hW => ⟨⟨(-1), (), rfl, rfl, wEn_of (hP.sub [] rfl) (hK.sub [] rfl) (hD.sub [] (by decide) rfl) ht hW⟩, hS.F ht⟩) hS.2.2 dX11_plan_10
def ow_c_planned : List Cond := []
def vs_c_planned : List Cond := .code yX11_planned cX11_planned 5 (some .int) :: (ow_c_planned ++ (([.methodLink RX11 357 yX11_canPlan, .instanceMethod yX11_canPlan, .selects RX11 yX11_canPlan yX11_canPlan, .initialized RX11] : List Cond) ++ (vs_c_canPlan)))
theorem vg_c_planned : vs_c_planned.all goodWord = true := by decide +kernel
theorem gd_c_planned_357_c_canPlan : GoodIn vs_c_planned (wsV RX11 357 RX11 yX11_canPlan vs_c_canPlan) := goodIn_app (goodIn_sub (fun w h => (List.mem_cons_of_mem _ (List.mem_append_right _ (List.mem_append_left _ h)))) (by decide +kernel)) (goodIn_sub (fun w h => (List.mem_cons_of_mem _ (List.mem_append_right _ (List.mem_append_right _ h)))) vg_c_canPlan)
set_option maxHeartbeats 4000000 in
set_option maxRecDepth 100000 in
theorem c_planned (l : Launch) (dC : Nat → ClassId) (dI : Nat → Nat → Nat) (h0 : Nat) (tp : Nat) (td : Nat) (sh : Nat) (ch : Nat) (sw : Nat) (wk : Nat) (g1 : Nat) (g2 : Nat) (g3 : Nat) (tl : Nat) (r1 : Nat) (r2 : Nat) (r3 : Nat) (r4 : Nat) (r5 : Nat) (p0 : Int32) (p1 : Int32) (p2 : Int32) (sz : Nat) : Met l yX11_planned vs_c_planned ({ frames := 2, cells := 0, slots := 0, locals := 43 }) (va_Pc [.ref h0, .int p0, .int p1, .int p2] (wSt dC dI [(h0, .inr (11, [.ref tp, .int 0, .int 0, .int (-1), .ref td, .ref sh, .ref ch, .ref sw, .ref wk, .ref g1, .ref g2, .ref g3, .int 0, .int 0, .ref tl, .null, .null])), (td, .inr (3, [.ref r1, .ref r2, .ref r3, .ref r4, .ref r5, .int 0, .int 0, .int 0]))] [] sz)) (va_Qi (fun (r : Int32) (_ : Unit) => r = (-1)) (fun (u : Unit) => wEn dC dI (va_A [(h0, .inr (11, [.ref tp, .int 0, .int 0, .int (-1), .ref td, .ref sh, .ref ch, .ref sw, .ref wk, .ref g1, .ref g2, .ref g3, .int 0, .int 0, .ref tl, .null, .null])), (td, .inr (3, [.ref r1, .ref r2, .ref r3, .ref r4, .ref r5, .int 0, .int 0, .int 0]))] sz) [] []) (va_A [(h0, .inr (11, [.ref tp, .int 0, .int 0, .int (-1), .ref td, .ref sh, .ref ch, .ref sw, .ref wk, .ref g1, .ref g2, .ref g3, .int 0, .int 0, .ref tl, .null, .null])), (td, .inr (3, [.ref r1, .ref r2, .ref r3, .ref r4, .ref r5, .int 0, .int 0, .int 0]))] sz)) 0 0 (va_A [(h0, .inr (11, [.ref tp, .int 0, .int 0, .int (-1), .ref td, .ref sh, .ref ch, .ref sw, .ref wk, .ref g1, .ref g2, .ref g3, .int 0, .int 0, .ref tl, .null, .null])), (td, .inr (3, [.ref r1, .ref r2, .ref r3, .ref r4, .ref r5, .int 0, .int 0, .int 0]))] sz) := by
  refine Met.ofW (cc := cX11_planned) (maxL := 5) (ret := (some .int)) (by decide) rfl ?_
  intro p e s m args below meth c s₁ B hml hv
  obtain ⟨rfl, hsz, hP, hK, hD0, hE⟩ := hv
  have hx := B.exec
  have hb := B.bytes
  have hr := B.returns
  have hts := atoms_spec (ws := vs_c_planned) B.pre
  have hown : s.vm.findClass RX11 = some m.cls := findClass_of_methodNamed B.named
  have hlocks := B.notSynchronized
  subst hsz
  have hD := hD0.self (sz := s.heap.size)
  generalize hAe : va_A [(h0, .inr (11, [.ref tp, .int 0, .int 0, .int (-1), .ref td, .ref sh, .ref ch, .ref sw, .ref wk, .ref g1, .ref g2, .ref g3, .int 0, .int 0, .ref tl, .null, .null])), (td, .inr (3, [.ref r1, .ref r2, .ref r3, .ref r4, .ref r5, .int 0, .int 0, .int 0]))] s.heap.size = A at hD ⊢
  have hA : ∀ q : Nat, s.heap.size ≤ q → A q := fun q h => by rw [← hAe]; exact Or.inr h
  have hl := lv_entry ([.ref h0, .int p0, .int p1, .int p2]) (n := 5) (Nat.le_of_ble_eq_true rfl)
  rw [lg_entry_eq]
  generalize (lg_sl ([.ref h0, .int p0, .int p1, .int p2]) ++ List.replicate (5 - (lg_sl ([.ref h0, .int p0, .int p1, .int p2])).length) Slot.unset).toArray = ls at hl ⊢
  have hl : lv_has ls 5 [(0, .ref h0), (1, .int p0), (2, .int p1), (3, .int p2)] := hl
  refine zH (A := A) (ws := [(h0, .inr (11, [.ref tp, .int 0, .int 0, .int (-1), .ref td, .ref sh, .ref ch, .ref sw, .ref wk, .ref g1, .ref g2, .ref g3, .int 0, .int 0, .ref tl, .null, .null])), (td, .inr (3, [.ref r1, .ref r2, .ref r3, .ref r4, .ref r5, .int 0, .int 0, .int 0]))]) (fun H hP hS => ?_) hP
  have ho := fun w (h : w ∈ ow_c_planned) => hts w (List.mem_cons_of_mem _ (List.mem_append_left _ h))
  refine lv_aload_n hx hb dX11_planned_0 rfl (lv_at hl 0 rfl) ?_
  refine lv_iload_n hx hb dX11_planned_1 rfl (lv_at hl 1 rfl) ?_
  refine lv_iload_n hx hb dX11_planned_2 rfl (lv_at hl 2 rfl) ?_
  have hPc := hP.sub (ws' := [(h0, .inr (11, [.ref tp, .int 0, .int 0, .int (-1), .ref td, .ref sh, .ref ch, .ref sw, .ref wk, .ref g1, .ref g2, .ref g3, .int 0, .int 0, .ref tl, .null, .null])), (td, .inr (3, [.ref r1, .ref r2, .ref r3, .ref r4, .ref r5, .int 0, .int 0, .int 0]))]) [0, 1] rfl
  have hDc := hD.sub (ws' := [(h0, .inr (11, [.ref tp, .int 0, .int 0, .int (-1), .ref td, .ref sh, .ref ch, .ref sw, .ref wk, .ref g1, .ref g2, .ref g3, .int 0, .int 0, .ref tl, .null, .null])), (td, .inr (3, [.ref r1, .ref r2, .ref r3, .ref r4, .ref r5, .int 0, .int 0, .int 0]))]) [0, 1] (by decide) rfl
  have hKc := hK.sub (tys' := []) [] rfl
  refine zz_i (wr := []) (va_runV (As := [.int p0, .int p1]) (rest := []) ⟨hx, hb, hml, hown, hts⟩ (c_canPlan l dC dI h0 tp td sh ch sw wk g1 g2 g3 tl r1 r2 r3 r4 r5 p0 p1 H.size) (cwV 2 hts gd_c_planned_357_c_canPlan rfl rfl rfl (by decide +kernel) ⟨Nat.le_of_ble_eq_true rfl, Nat.le_of_ble_eq_true rfl⟩) (preV hPc hKc hDc hE (ci := 11) (q0 := 0) rfl rfl) rfl rfl hl.1 rfl (lv_room (Nat.le_of_ble_eq_true rfl)) dX11_planned_3 ⟨Nat.le_of_ble_eq_true rfl, Nat.le_of_ble_eq_true rfl⟩) hK hP hD hS hA [0, 1] [] rfl rfl (by decide) (by decide) (fun u H locs hK hP hD hS => ?_)
  have hP : va_P (dC, dI) vwCl [(h0, .inr (11, [.ref tp, .int 0, .int 0, .int (-1), .ref td, .ref sh, .ref ch, .ref sw, .ref wk, .ref g1, .ref g2, .ref g3, .int 0, .int 0, .ref tl, .null, .null])), (td, .inr (3, [.ref r1, .ref r2, .ref r3, .ref r4, .ref r5, .int 0, .int 0, .int 0]))] H := hP
  have hD : va_D A [(h0, .inr (11, [.ref tp, .int 0, .int 0, .int (-1), .ref td, .ref sh, .ref ch, .ref sw, .ref wk, .ref g1, .ref g2, .ref g3, .int 0, .int 0, .ref tl, .null, .null])), (td, .inr (3, [.ref r1, .ref r2, .ref r3, .ref r4, .ref r5, .int 0, .int 0, .int 0]))] := hD
  have hK : va_K (dC, dI) vwCl [] s := hK
  refine W.widen (k := 0) (n := 0) (Nat.le_of_ble_eq_true rfl) (Nat.le_of_ble_eq_true rfl) ?_
  refine lv_if_eq (tgt := 20) hx hb dX11_planned_6 (by decide) (fun _ => ?_) (fun cc => absurd (by decide) cc)
  refine lv_iconst (v := (-1)) hx hb dX11_planned_20 (by decide) ?_
  refine W.widen (k := 0) (n := 0) (Nat.le_of_ble_eq_true rfl) (Nat.le_of_ble_eq_true rfl) ?_
  exact W.iret (v := (-1)) hx hb hr (fun t ht hW => ⟨⟨(-1), (), rfl, rfl, wEn_of (hP.sub [] rfl) (hK.sub [] rfl) (hD.sub [] (by decide) rfl) ht hW⟩, hS.F ht⟩) hS.2.2 dX11_planned_21
