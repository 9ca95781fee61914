theorem dX11_append_0 : decode cX11_append 0 = .ok (.bipush 24, 2) := by decide +kernel
theorem dX11_append_2 : decode cX11_append 2 = .ok (.istore_n 2, 1) := by decide +kernel
theorem dX11_append_3 : decode cX11_append 3 = .ok (.iload_n 2, 1) := by decide +kernel
theorem dX11_append_4 : decode cX11_append 4 = .ok (.ifCond .lt 42, 3) := by decide +kernel
theorem dX11_append_46 : decode cX11_append 46 = .ok (.return_, 1) := by decide +kernel
theorem dX11_append_7 : decode cX11_append 7 = .ok (.aload_n 0, 1) := by decide +kernel
theorem dX11_append_8 : decode cX11_append 8 = .ok (.getfield 13, 3) := by decide +kernel
theorem dX11_append_11 : decode cX11_append 11 = .ok (.sipush 1000, 3) := by decide +kernel
theorem dX11_append_14 : decode cX11_append 14 = .ok (.if_icmp .ge 32, 3) := by decide +kernel
theorem dX11_append_17 : decode cX11_append 17 = .ok (.aload_n 0, 1) := by decide +kernel
theorem dX11_append_18 : decode cX11_append 18 = .ok (.getfield 9, 3) := by decide +kernel
theorem dX11_append_21 : decode cX11_append 21 = .ok (.aload_n 0, 1) := by decide +kernel
theorem dX11_append_22 : decode cX11_append 22 = .ok (.getfield 13, 3) := by decide +kernel
theorem dX11_append_25 : decode cX11_append 25 = .ok (.iload_n 1, 1) := by decide +kernel
theorem dX11_append_26 : decode cX11_append 26 = .ok (.iload_n 2, 1) := by decide +kernel
theorem dX11_append_27 : decode cX11_append 27 = .ok (.iushr, 1) := by decide +kernel
theorem dX11_append_28 : decode cX11_append 28 = .ok (.i2b, 1) := by decide +kernel
theorem dX11_append_29 : decode cX11_append 29 = .ok (.bastore, 1) := by decide +kernel
theorem dX11_append_30 : decode cX11_append 30 = .ok (.aload_n 0, 1) := by decide +kernel
theorem dX11_append_31 : decode cX11_append 31 = .ok (.dup, 1) := by decide +kernel
theorem dX11_append_32 : decode cX11_append 32 = .ok (.getfield 13, 3) := by decide +kernel
theorem dX11_append_35 : decode cX11_append 35 = .ok (.iconst 1, 1) := by decide +kernel
theorem dX11_append_36 : decode cX11_append 36 = .ok (.iadd, 1) := by decide +kernel
theorem dX11_append_37 : decode cX11_append 37 = .ok (.putfield 13, 3) := by decide +kernel
theorem dX11_append_40 : decode cX11_append 40 = .ok (.iinc 2 (-8), 3) := by decide +kernel
theorem dX11_append_43 : decode cX11_append 43 = .ok (.goto (-40), 3) := by decide +kernel
theorem dX11_feed_0 : decode cX11_feed 0 = .ok (.aload_n 0, 1) := by decide +kernel
theorem dX11_feed_1 : decode cX11_feed 1 = .ok (.getfield 13, 3) := by decide +kernel
theorem dX11_feed_4 : decode cX11_feed 4 = .ok (.bipush 20, 2) := by decide +kernel
theorem dX11_feed_6 : decode cX11_feed 6 = .ok (.iadd, 1) := by decide +kernel
theorem dX11_feed_7 : decode cX11_feed 7 = .ok (.sipush 1000, 3) := by decide +kernel
theorem dX11_feed_10 : decode cX11_feed 10 = .ok (.if_icmp .le 5, 3) := by decide +kernel
theorem dX11_feed_15 : decode cX11_feed 15 = .ok (.aload_n 0, 1) := by decide +kernel
theorem dX11_feed_16 : decode cX11_feed 16 = .ok (.iload_n 1, 1) := by decide +kernel
theorem dX11_feed_17 : decode cX11_feed 17 = .ok (.invokevirtual 90, 3) := by decide +kernel
theorem dX11_feed_20 : decode cX11_feed 20 = .ok (.aload_n 0, 1) := by decide +kernel
theorem dX11_feed_21 : decode cX11_feed 21 = .ok (.iload_n 2, 1) := by decide +kernel
theorem dX11_feed_22 : decode cX11_feed 22 = .ok (.invokevirtual 90, 3) := by decide +kernel
theorem dX11_feed_25 : decode cX11_feed 25 = .ok (.aload_n 0, 1) := by decide +kernel
theorem dX11_feed_26 : decode cX11_feed 26 = .ok (.iload_n 3, 1) := by decide +kernel
theorem dX11_feed_27 : decode cX11_feed 27 = .ok (.invokevirtual 90, 3) := by decide +kernel
theorem dX11_feed_30 : decode cX11_feed 30 = .ok (.aload_n 0, 1) := by decide +kernel
theorem dX11_feed_31 : decode cX11_feed 31 = .ok (.iload 4, 2) := by decide +kernel
theorem dX11_feed_33 : decode cX11_feed 33 = .ok (.invokevirtual 90, 3) := by decide +kernel
theorem dX11_feed_36 : decode cX11_feed 36 = .ok (.aload_n 0, 1) := by decide +kernel
theorem dX11_feed_37 : decode cX11_feed 37 = .ok (.iload 5, 2) := by decide +kernel
theorem dX11_feed_39 : decode cX11_feed 39 = .ok (.invokevirtual 90, 3) := by decide +kernel
theorem dX11_feed_42 : decode cX11_feed 42 = .ok (.aload_n 0, 1) := by decide +kernel
theorem dX11_feed_43 : decode cX11_feed 43 = .ok (.getfield 13, 3) := by decide +kernel
theorem dX11_feed_46 : decode cX11_feed 46 = .ok (.ireturn, 1) := by decide +kernel
theorem dX11_feed_13 : decode cX11_feed 13 = .ok (.iconst (-1), 1) := by decide +kernel
theorem dX11_feed_14 : decode cX11_feed 14 = .ok (.ireturn, 1) := by decide +kernel
theorem dX11_end_0 : decode cX11_end 0 = .ok (.iload_n 1, 1) := by decide +kernel
theorem dX11_end_1 : decode cX11_end 1 = .ok (.ifCond .lt 11, 3) := by decide +kernel
theorem dX11_end_12 : decode cX11_end 12 = .ok (.iconst (-1), 1) := by decide +kernel
theorem dX11_end_13 : decode cX11_end 13 = .ok (.ireturn, 1) := by decide +kernel
theorem dX11_end_4 : decode cX11_end 4 = .ok (.iload_n 1, 1) := by decide +kernel
theorem dX11_end_5 : decode cX11_end 5 = .ok (.aload_n 0, 1) := by decide +kernel
theorem dX11_end_6 : decode cX11_end 6 = .ok (.getfield 13, 3) := by decide +kernel
theorem dX11_end_9 : decode cX11_end 9 = .ok (.if_icmp .le 5, 3) := by decide +kernel
theorem dX11_end_14 : decode cX11_end 14 = .ok (.aload_n 0, 1) := by decide +kernel
theorem dX11_end_15 : decode cX11_end 15 = .ok (.iload_n 1, 1) := by decide +kernel
theorem dX11_end_16 : decode cX11_end 16 = .ok (.putfield 13, 3) := by decide +kernel
theorem dX11_end_19 : decode cX11_end 19 = .ok (.iload_n 1, 1) := by decide +kernel
theorem dX11_end_20 : decode cX11_end 20 = .ok (.ireturn, 1) := by decide +kernel
theorem dX11_fault_0 : decode cX11_fault 0 = .ok (.iload_n 1, 1) := by decide +kernel
theorem dX11_fault_1 : decode cX11_fault 1 = .ok (.ifCond .ne 8, 3) := by decide +kernel
theorem dX11_fault_9 : decode cX11_fault 9 = .ok (.iload_n 1, 1) := by decide +kernel
theorem dX11_fault_10 : decode cX11_fault 10 = .ok (.iconst 1, 1) := by decide +kernel
theorem dX11_fault_11 : decode cX11_fault 11 = .ok (.if_icmp .ne 10, 3) := by decide +kernel
theorem dX11_fault_21 : decode cX11_fault 21 = .ok (.iconst (-1), 1) := by decide +kernel
theorem dX11_fault_22 : decode cX11_fault 22 = .ok (.ireturn, 1) := by decide +kernel
theorem dX11_fault_14 : decode cX11_fault 14 = .ok (.aload_n 0, 1) := by decide +kernel
theorem dX11_fault_15 : decode cX11_fault 15 = .ok (.getfield 20, 3) := by decide +kernel
theorem dX11_fault_18 : decode cX11_fault 18 = .ok (.goto 4, 3) := by decide +kernel
theorem dX11_fault_4 : decode cX11_fault 4 = .ok (.aload_n 0, 1) := by decide +kernel
theorem dX11_fault_5 : decode cX11_fault 5 = .ok (.getfield 17, 3) := by decide +kernel
theorem dX11_fault_8 : decode cX11_fault 8 = .ok (.ireturn, 1) := by decide +kernel
theorem dX11_span_0 : decode cX11_span 0 = .ok (.aload_n 0, 1) := by decide +kernel
theorem dX11_span_1 : decode cX11_span 1 = .ok (.getfield 26, 3) := by decide +kernel
theorem dX11_span_4 : decode cX11_span 4 = .ok (.iload_n 1, 1) := by decide +kernel
theorem dX11_span_5 : decode cX11_span 5 = .ok (.invokevirtual 134, 3) := by decide +kernel
theorem dX11_span_8 : decode cX11_span 8 = .ok (.ifCond .ne 5, 3) := by decide +kernel
theorem dX11_span_13 : decode cX11_span 13 = .ok (.iload_n 2, 1) := by decide +kernel
theorem dX11_span_14 : decode cX11_span 14 = .ok (.ifCond .eq 18, 3) := by decide +kernel
theorem dX11_span_32 : decode cX11_span 32 = .ok (.aload_n 0, 1) := by decide +kernel
theorem dX11_span_33 : decode cX11_span 33 = .ok (.getfield 26, 3) := by decide +kernel
theorem dX11_span_36 : decode cX11_span 36 = .ok (.getfield 138, 3) := by decide +kernel
theorem dX11_span_39 : decode cX11_span 39 = .ok (.iload_n 1, 1) := by decide +kernel
theorem dX11_span_40 : decode cX11_span 40 = .ok (.aaload, 1) := by decide +kernel
theorem dX11_span_41 : decode cX11_span 41 = .ok (.getfield 148, 3) := by decide +kernel
theorem dX11_span_44 : decode cX11_span 44 = .ok (.l2i, 1) := by decide +kernel
theorem dX11_span_45 : decode cX11_span 45 = .ok (.ireturn, 1) := by decide +kernel
theorem dX11_span_17 : decode cX11_span 17 = .ok (.aload_n 0, 1) := by decide +kernel
theorem dX11_span_18 : decode cX11_span 18 = .ok (.getfield 26, 3) := by decide +kernel
theorem dX11_span_21 : decode cX11_span 21 = .ok (.getfield 138, 3) := by decide +kernel
theorem dX11_span_24 : decode cX11_span 24 = .ok (.iload_n 1, 1) := by decide +kernel
theorem dX11_span_25 : decode cX11_span 25 = .ok (.aaload, 1) := by decide +kernel
theorem dX11_span_26 : decode cX11_span 26 = .ok (.getfield 142, 3) := by decide +kernel
theorem dX11_span_29 : decode cX11_span 29 = .ok (.goto 15, 3) := by decide +kernel
theorem dX11_span_11 : decode cX11_span 11 = .ok (.iconst 0, 1) := by decide +kernel
theorem dX11_span_12 : decode cX11_span 12 = .ok (.ireturn, 1) := by decide +kernel
theorem dX11_stands_0 : decode cX11_stands 0 = .ok (.aload_n 0, 1) := by decide +kernel
theorem dX11_stands_1 : decode cX11_stands 1 = .ok (.getfield 40, 3) := by decide +kernel
theorem dX11_stands_4 : decode cX11_stands 4 = .ok (.iload_n 1, 1) := by decide +kernel
theorem dX11_stands_5 : decode cX11_stands 5 = .ok (.invokevirtual 202, 3) := by decide +kernel
theorem dX11_stands_8 : decode cX11_stands 8 = .ok (.ifCond .eq 19, 3) := by decide +kernel
theorem dX11_stands_27 : decode cX11_stands 27 = .ok (.iconst 0, 1) := by decide +kernel
theorem dX11_stands_28 : decode cX11_stands 28 = .ok (.ireturn, 1) := by decide +kernel
theorem dX11_stands_11 : decode cX11_stands 11 = .ok (.aload_n 0, 1) := by decide +kernel
theorem dX11_stands_12 : decode cX11_stands 12 = .ok (.getfield 49, 3) := by decide +kernel
theorem dX11_stands_15 : decode cX11_stands 15 = .ok (.iconst 0, 1) := by decide +kernel
theorem dX11_stands_16 : decode cX11_stands 16 = .ok (.invokevirtual 205, 3) := by decide +kernel
theorem dX11_stands_19 : decode cX11_stands 19 = .ok (.iconst (-1), 1) := by decide +kernel
theorem dX11_stands_20 : decode cX11_stands 20 = .ok (.if_icmp .ne 7, 3) := by decide +kernel
theorem dX11_stands_23 : decode cX11_stands 23 = .ok (.iconst 1, 1) := by decide +kernel
theorem dX11_stands_24 : decode cX11_stands 24 = .ok (.goto 4, 3) := by decide +kernel
theorem dX11_lastStep_0 : decode cX11_lastStep 0 = .ok (.aload_n 0, 1) := by decide +kernel
theorem dX11_lastStep_1 : decode cX11_lastStep 1 = .ok (.getfield 26, 3) := by decide +kernel
theorem dX11_lastStep_4 : decode cX11_lastStep 4 = .ok (.getfield 123, 3) := by decide +kernel
theorem dX11_lastStep_7 : decode cX11_lastStep 7 = .ok (.iconst 1, 1) := by decide +kernel
theorem dX11_lastStep_8 : decode cX11_lastStep 8 = .ok (.isub, 1) := by decide +kernel
theorem dX11_lastStep_9 : decode cX11_lastStep 9 = .ok (.ireturn, 1) := by decide +kernel
theorem dX11_value_0 : decode cX11_value 0 = .ok (.aload_n 0, 1) := by decide +kernel
theorem dX11_value_1 : decode cX11_value 1 = .ok (.getfield 26, 3) := by decide +kernel
theorem dX11_value_4 : decode cX11_value 4 = .ok (.iload_n 1, 1) := by decide +kernel
theorem dX11_value_5 : decode cX11_value 5 = .ok (.invokevirtual 134, 3) := by decide +kernel
theorem dX11_value_8 : decode cX11_value 8 = .ok (.ifCond .eq 22, 3) := by decide +kernel
theorem dX11_value_30 : decode cX11_value 30 = .ok (.ldc2_w 212, 3) := by decide +kernel
theorem dX11_value_33 : decode cX11_value 33 = .ok (.lreturn, 1) := by decide +kernel
theorem dX11_value_11 : decode cX11_value 11 = .ok (.aload_n 0, 1) := by decide +kernel
theorem dX11_value_12 : decode cX11_value 12 = .ok (.getfield 33, 3) := by decide +kernel
theorem dX11_value_15 : decode cX11_value 15 = .ok (.iload_n 2, 1) := by decide +kernel
theorem dX11_value_16 : decode cX11_value 16 = .ok (.invokevirtual 167, 3) := by decide +kernel
theorem dX11_value_19 : decode cX11_value 19 = .ok (.ifCond .eq 11, 3) := by decide +kernel
theorem dX11_value_22 : decode cX11_value 22 = .ok (.aload_n 0, 1) := by decide +kernel
theorem dX11_value_23 : decode cX11_value 23 = .ok (.iload_n 3, 1) := by decide +kernel
theorem dX11_value_24 : decode cX11_value 24 = .ok (.invokevirtual 209, 3) := by decide +kernel
theorem dX11_value_27 : decode cX11_value 27 = .ok (.ifCond .ne 7, 3) := by decide +kernel
theorem dX11_value_34 : decode cX11_value 34 = .ok (.aload_n 0, 1) := by decide +kernel
theorem dX11_value_35 : decode cX11_value 35 = .ok (.getfield 58, 3) := by decide +kernel
theorem dX11_value_38 : decode cX11_value 38 = .ok (.iload_n 2, 1) := by decide +kernel
theorem dX11_value_39 : decode cX11_value 39 = .ok (.iconst 0, 1) := by decide +kernel
theorem dX11_value_40 : decode cX11_value 40 = .ok (.iload_n 1, 1) := by decide +kernel
theorem dX11_value_41 : decode cX11_value 41 = .ok (.invokevirtual 214, 3) := by decide +kernel
theorem dX11_value_44 : decode cX11_value 44 = .ok (.aload_n 0, 1) := by decide +kernel
theorem dX11_value_45 : decode cX11_value 45 = .ok (.getfield 58, 3) := by decide +kernel
theorem dX11_value_48 : decode cX11_value 48 = .ok (.getfield 218, 3) := by decide +kernel
theorem dX11_value_51 : decode cX11_value 51 = .ok (.iload_n 2, 1) := by decide +kernel
theorem dX11_value_52 : decode cX11_value 52 = .ok (.bipush 12, 2) := by decide +kernel
theorem dX11_value_54 : decode cX11_value 54 = .ok (.imul, 1) := by decide +kernel
theorem dX11_value_55 : decode cX11_value 55 = .ok (.iload_n 1, 1) := by decide +kernel
theorem dX11_value_56 : decode cX11_value 56 = .ok (.iadd, 1) := by decide +kernel
theorem dX11_value_57 : decode cX11_value 57 = .ok (.laload, 1) := by decide +kernel
theorem dX11_value_58 : decode cX11_value 58 = .ok (.lreturn, 1) := by decide +kernel
theorem dX11_error_0 : decode cX11_error 0 = .ok (.aload_n 0, 1) := by decide +kernel
theorem dX11_error_1 : decode cX11_error 1 = .ok (.getfield 26, 3) := by decide +kernel
theorem dX11_error_4 : decode cX11_error 4 = .ok (.iload_n 1, 1) := by decide +kernel
theorem dX11_error_5 : decode cX11_error 5 = .ok (.invokevirtual 134, 3) := by decide +kernel
theorem dX11_error_8 : decode cX11_error 8 = .ok (.ifCond .eq 11, 3) := by decide +kernel
theorem dX11_error_19 : decode cX11_error 19 = .ok (.ldc2_w 221, 3) := by decide +kernel
theorem dX11_error_22 : decode cX11_error 22 = .ok (.lreturn, 1) := by decide +kernel
theorem dX11_error_11 : decode cX11_error 11 = .ok (.aload_n 0, 1) := by decide +kernel
theorem dX11_error_12 : decode cX11_error 12 = .ok (.iload_n 2, 1) := by decide +kernel
theorem dX11_error_13 : decode cX11_error 13 = .ok (.invokevirtual 209, 3) := by decide +kernel
theorem dX11_error_16 : decode cX11_error 16 = .ok (.ifCond .ne 7, 3) := by decide +kernel
theorem dX11_error_23 : decode cX11_error 23 = .ok (.iload_n 3, 1) := by decide +kernel
theorem dX11_error_24 : decode cX11_error 24 = .ok (.ifCond .eq 15, 3) := by decide +kernel
theorem dX11_error_39 : decode cX11_error 39 = .ok (.aload_n 0, 1) := by decide +kernel
theorem dX11_error_40 : decode cX11_error 40 = .ok (.getfield 49, 3) := by decide +kernel
theorem dX11_error_43 : decode cX11_error 43 = .ok (.getfield 225, 3) := by decide +kernel
theorem dX11_error_46 : decode cX11_error 46 = .ok (.iload_n 1, 1) := by decide +kernel
theorem dX11_error_47 : decode cX11_error 47 = .ok (.laload, 1) := by decide +kernel
theorem dX11_error_48 : decode cX11_error 48 = .ok (.lreturn, 1) := by decide +kernel
theorem dX11_error_27 : decode cX11_error 27 = .ok (.aload_n 0, 1) := by decide +kernel
theorem dX11_error_28 : decode cX11_error 28 = .ok (.getfield 49, 3) := by decide +kernel
theorem dX11_error_31 : decode cX11_error 31 = .ok (.getfield 223, 3) := by decide +kernel
theorem dX11_error_34 : decode cX11_error 34 = .ok (.iload_n 1, 1) := by decide +kernel
theorem dX11_error_35 : decode cX11_error 35 = .ok (.laload, 1) := by decide +kernel
theorem dX11_error_36 : decode cX11_error 36 = .ok (.goto 12, 3) := by decide +kernel
theorem dX11_off_0 : decode cX11_off 0 = .ok (.aload_n 0, 1) := by decide +kernel
theorem dX11_off_1 : decode cX11_off 1 = .ok (.getfield 26, 3) := by decide +kernel
theorem dX11_off_4 : decode cX11_off 4 = .ok (.iload_n 1, 1) := by decide +kernel
theorem dX11_off_5 : decode cX11_off 5 = .ok (.invokevirtual 227, 3) := by decide +kernel
theorem dX11_off_8 : decode cX11_off 8 = .ok (.ifCond .eq 11, 3) := by decide +kernel
theorem dX11_off_19 : decode cX11_off 19 = .ok (.ldc2_w 212, 3) := by decide +kernel
theorem dX11_off_22 : decode cX11_off 22 = .ok (.lreturn, 1) := by decide +kernel
theorem dX11_off_11 : decode cX11_off 11 = .ok (.aload_n 0, 1) := by decide +kernel
theorem dX11_off_12 : decode cX11_off 12 = .ok (.iload_n 2, 1) := by decide +kernel
theorem dX11_off_13 : decode cX11_off 13 = .ok (.invokevirtual 209, 3) := by decide +kernel
theorem dX11_off_16 : decode cX11_off 16 = .ok (.ifCond .ne 7, 3) := by decide +kernel
theorem dX11_off_23 : decode cX11_off 23 = .ok (.aload_n 0, 1) := by decide +kernel
theorem dX11_off_24 : decode cX11_off 24 = .ok (.getfield 49, 3) := by decide +kernel
theorem dX11_off_27 : decode cX11_off 27 = .ok (.aload_n 0, 1) := by decide +kernel
theorem dX11_off_28 : decode cX11_off 28 = .ok (.getfield 26, 3) := by decide +kernel
theorem dX11_off_31 : decode cX11_off 31 = .ok (.getfield 230, 3) := by decide +kernel
theorem dX11_off_34 : decode cX11_off 34 = .ok (.iload_n 1, 1) := by decide +kernel
theorem dX11_off_35 : decode cX11_off 35 = .ok (.iaload, 1) := by decide +kernel
theorem dX11_off_36 : decode cX11_off 36 = .ok (.invokevirtual 233, 3) := by decide +kernel
theorem dX11_off_39 : decode cX11_off 39 = .ok (.lreturn, 1) := by decide +kernel
theorem dX11_barred_0 : decode cX11_barred 0 = .ok (.aload_n 0, 1) := by decide +kernel
theorem dX11_barred_1 : decode cX11_barred 1 = .ok (.getfield 40, 3) := by decide +kernel
theorem dX11_barred_4 : decode cX11_barred 4 = .ok (.iload_n 1, 1) := by decide +kernel
theorem dX11_barred_5 : decode cX11_barred 5 = .ok (.invokevirtual 202, 3) := by decide +kernel
theorem dX11_barred_8 : decode cX11_barred 8 = .ok (.ifCond .eq 14, 3) := by decide +kernel
theorem dX11_barred_22 : decode cX11_barred 22 = .ok (.bipush (-2), 2) := by decide +kernel
theorem dX11_barred_24 : decode cX11_barred 24 = .ok (.ireturn, 1) := by decide +kernel
theorem dX11_barred_11 : decode cX11_barred 11 = .ok (.aload_n 0, 1) := by decide +kernel
theorem dX11_barred_12 : decode cX11_barred 12 = .ok (.getfield 49, 3) := by decide +kernel
theorem dX11_barred_15 : decode cX11_barred 15 = .ok (.iconst 0, 1) := by decide +kernel
theorem dX11_barred_16 : decode cX11_barred 16 = .ok (.invokevirtual 205, 3) := by decide +kernel
theorem dX11_barred_19 : decode cX11_barred 19 = .ok (.goto 5, 3) := by decide +kernel
theorem rx_9cc4383ad9 : ((-8) : Int32).toInt = (-8) := by decide
theorem rx_0ba14368ad : Int32.ofInt (-8) = (-8) := by decide
theorem rx_42ab737940 : (24 : Int32).toInt = 24 := by decide
theorem rx_024479cf98 : ((-2) : Int32).toInt = (-2) := by decide
def ow_k_append : List Cond := [.fieldLink RX11 13 "NearEnough" "bytes" "I", .fieldLink RX11 9 "NearEnough" "tape" "[B"]
def vs_k_append : List Cond := .code yX11_append cX11_append 3 none :: (ow_k_append ++ (wsX110))
theorem vg_k_append : vs_k_append.all goodWord = true := by decide +kernel
theorem dd_k_append : yX11_append.cls = RX11 ∧ yX11_append.cls ≠ "java/lang/invoke/MethodHandle" ∧ yX11_append.cls ≠ "java/lang/invoke/VarHandle" ∧ (parseMethodDescriptor yX11_append.desc).map (fun d => d.parameters.length) = some 1 := by decide +kernel
def rm_k_append : Room := { frames := 0, cells := 0, slots := 0, locals := 0 }
set_option maxHeartbeats 4000000 in
set_option maxRecDepth 100000 in
theorem k_append (l : Launch) (dC : Nat → ClassId) (dI : Nat → Nat → Nat) (κ : CE) (sz : Nat) (σ : MS) (x : Int32) (hk : PInv κ) (hI : CInv σ)  : Met l yX11_append vs_k_append rm_k_append (va_Pc [.ref (kA κ 0), .int x] (wSy dC dI (cW κ σ) (cT κ) sz)) (va_Qv (fun (τ : MS) => CInv τ ∧ True) (fun (τ : MS) => wEn dC dI (va_A (cW κ σ) sz) (cW κ τ) []) (va_A (cW κ σ) sz)) 0 0 (va_A (cW κ σ) sz) := by
  refine Met.ofW (cc := cX11_append) (maxL := 3) (ret := none) (by decide +kernel) rfl ?_
  intro p e s m args below meth c s₁ B hml hv
  obtain ⟨rfl, hsz, hP, hK, hD0, hE⟩ := hv
  have hx := B.exec
  have hb := B.bytes
  have hr := B.returns
  have hts := atoms_spec (ws := vs_k_append) B.pre
  have hown : s.vm.findClass RX11 = some m.cls := findClass_of_methodNamed B.named
  have hlocks := B.notSynchronized
  subst hsz
  have hD := hD0.self (sz := s.heap.size)
  generalize hAe : va_A (cW κ σ) s.heap.size = A at hD ⊢
  have hA : ∀ q : Nat, s.heap.size ≤ q → A q := fun q h => by rw [← hAe]; exact Or.inr h
  have hl := lv_entry ([.ref (kA κ 0), .int x]) (n := 3) (Nat.le_of_ble_eq_true rfl)
  rw [lg_entry_eq]
  generalize (lg_sl ([.ref (kA κ 0), .int x]) ++ List.replicate (3 - (lg_sl ([.ref (kA κ 0), .int x])).length) Slot.unset).toArray = ls at hl ⊢
  have hl : lv_has ls 3 [(0, .ref (kA κ 0)), (1, .int x)] := hl
  have ho := fun w (h : w ∈ ow_k_append) => hts w (List.mem_cons_of_mem _ (List.mem_append_left _ h))
  have hin11 : ∀ w ∈ u_ws RX11 TX11 17, w ∈ vs_k_append := fun w h => (List.mem_cons_of_mem _ (List.mem_append_right _ h))
  refine zQ (fun Q hQ => ?_)
  refine zH (A := A) (ws := (cW κ σ)) (fun H hP hS => ?_) hP
  have hk0 := hk.1
  have hk1 := hk.2.1
  have hk2 := hk.2.2.1
  refine lv_bipush (v := 24) hx hb dX11_append_0 rg_65 ?_
  refine lv_istore_n (lv' := [(2, .int 24), (0, .ref (kA κ 0)), (1, .int x)]) hx hb dX11_append_2 rfl hl (Nat.le_of_ble_eq_true rfl) rfl (fun ls hl => ?_)
  have pt3_ : ∀ (n3_ : Nat) (σ3_ : MS) (v2_ : Int32) (H : Heap) (locs : List Loc) (ls : Array Slot), (v2_.toInt + 9).toNat < n3_ → CInv σ3_ → ((-8) ≤ v2_.toInt ∧ v2_.toInt ≤ 24) → va_P (dC, dI) vwCl (cW κ σ3_) H → va_D A (cW κ σ3_) → va_S A s.heap H locs → lv_has ls 3 [(2, .int v2_), (0, .ref (kA κ 0)), (1, .int x)] → W p l e (headSpec vs_k_append rm_k_append).room s m #[Value.ref (kA κ 0), Value.int x] below meth c H locs 0 0 Q (F0 m 3 ls []) := by
    intro n3_
    induction n3_ with
    | zero => intro σ3_ v2_ H locs ls hn3_ hIσ3_ hf3_0_ hP hD hS hl; exact absurd hn3_ (Nat.not_lt_zero _)
    | succ n3_ ih3_ =>
      intro σ3_ v2_ H locs ls hn3_ hIσ3_ hf3_0_ hP hD hS hl
      refine lv_iload_n hx hb dX11_append_3 rfl (lv_at hl 0 rfl) ?_
      refine lv_if_lt (tgt := 46) hx hb dX11_append_4 rfl (fun c1_ => ?_) (fun c1_ => ?_)
      · have tc1_ := (show v2_.toInt < 0 from ti_lt rfl rg_11 c1_)
        rw [hQ]
        exact W.vret hx hb hr (fun t ht hW => ⟨⟨σ3_, rfl, ⟨hIσ3_, trivial⟩, wEn_of hP (hK.sub [] rfl) hD ht hW⟩, hS.F ht⟩) hS.2.2 dX11_append_46
      · have tc1_ := (show 0 ≤ v2_.toInt from ti_nlt rfl rg_11 c1_)
        refine lv_aload_n hx hb dX11_append_7 rfl (lv_at hl 1 rfl) ?_
        have bσ3__1 : 0 ≤ (σ3_.1 1).toInt ∧ (σ3_.1 1).toInt ≤ 1000 := hIσ3_.1 1
        refine va_get (D := (dC, dI)) (ci := 11) (v := .int (σ3_.1 1)) (C := RX11) (T := TX11) (N := 17) hx hb hts hin11 hown hK hP 0 rfl rfl 1 (Nat.le_of_ble_eq_true rfl) (ho (.fieldLink RX11 13 "NearEnough" "bytes" "I") (List.mem_of_getElem? (i := 0) rfl)) (fun _ h9 => h9) rfl dX11_append_8 ?_
        refine lv_sipush (v := 1000) hx hb dX11_append_11 rg_67 ?_
        refine lv_icmp_ge (tgt := 46) hx hb dX11_append_14 rfl (fun c2_ => ?_) (fun c2_ => ?_)
        · have tc2_ := (show 1000 ≤ (σ3_.1 1).toInt from ti_le rg_68 rfl c2_)
          rw [hQ]
          exact W.vret hx hb hr (fun t ht hW => ⟨⟨σ3_, rfl, ⟨hIσ3_, trivial⟩, wEn_of hP (hK.sub [] rfl) hD ht hW⟩, hS.F ht⟩) hS.2.2 dX11_append_46
        · have tc2_ := (show (σ3_.1 1).toInt < 1000 from ti_nle rg_68 rfl c2_)
          refine lv_aload_n hx hb dX11_append_17 rfl (lv_at hl 1 rfl) ?_
          refine va_get (D := (dC, dI)) (ci := 11) (v := .ref (kA κ 1)) (C := RX11) (T := TX11) (N := 17) hx hb hts hin11 hown hK hP 0 rfl rfl 0 (Nat.le_of_ble_eq_true rfl) (ho (.fieldLink RX11 9 "NearEnough" "tape" "[B") (List.mem_of_getElem? (i := 1) rfl)) (fun _ h9 => h9) rfl dX11_append_18 ?_
          refine lv_aload_n hx hb dX11_append_21 rfl (lv_at hl 1 rfl) ?_
          have bσ3__1 : 0 ≤ (σ3_.1 1).toInt ∧ (σ3_.1 1).toInt ≤ 1000 := hIσ3_.1 1
          refine va_get (D := (dC, dI)) (ci := 11) (v := .int (σ3_.1 1)) (C := RX11) (T := TX11) (N := 17) hx hb hts hin11 hown hK hP 0 rfl rfl 1 (Nat.le_of_ble_eq_true rfl) (ho (.fieldLink RX11 13 "NearEnough" "bytes" "I") (List.mem_of_getElem? (i := 0) rfl)) (fun _ h9 => h9) rfl dX11_append_22 ?_
          refine lv_iload_n hx hb dX11_append_25 rfl (lv_at hl 2 rfl) ?_
          refine lv_iload_n hx hb dX11_append_26 rfl (lv_at hl 0 rfl) ?_
          refine lv_iushr hx hb dX11_append_27 rfl ?_
          refine lv_topi (fun z3_ ez3_ => ?_)
          refine lv_i2b hx hb dX11_append_28 rfl ?_
          refine lv_topi (fun z4_ ez4_ => ?_)
          have o1 : 0 ≤ (σ3_.1 1).toInt := by omega
          have o2 : (σ3_.1 1).toInt < ((1000 : Nat) : Int) := by omega
          refine va_bast hx hb hK hP hD hS 1 0 rfl rfl (ti_inx o1 o2) dX11_append_29 (fun H locs hP hD hS => ?_)
          obtain ⟨f5_, ef5_⟩ : ∃ f9 : Nat → Int32, f9 = upd (σ3_.2.1 0) (Int32.toNatClampNeg (σ3_.1 1)) (vp_nar .byte z4_) := ⟨_, rfl⟩
          have hP : va_P (dC, dI) vwCl (cW κ (sA σ3_ 0 f5_)) H := by rw [ef5_]; exact hP
          have hD : va_D A (cW κ (sA σ3_ 0 f5_)) := by rw [ef5_]; exact hD
          refine lv_aload_n hx hb dX11_append_30 rfl (lv_at hl 1 rfl) ?_
          refine lv_dup hx hb dX11_append_31 rfl ?_
          have bσ3__1 : 0 ≤ (σ3_.1 1).toInt ∧ (σ3_.1 1).toInt ≤ 1000 := hIσ3_.1 1
          refine va_get (D := (dC, dI)) (ci := 11) (v := .int (σ3_.1 1)) (C := RX11) (T := TX11) (N := 17) hx hb hts hin11 hown hK hP 0 rfl rfl 1 (Nat.le_of_ble_eq_true rfl) (ho (.fieldLink RX11 13 "NearEnough" "bytes" "I") (List.mem_of_getElem? (i := 0) rfl)) (fun _ h9 => h9) rfl dX11_append_32 ?_
          refine lv_iconst (v := 1) hx hb dX11_append_35 rg_6 ?_
          refine lv_iadd hx hb dX11_append_36 ?_
          refine lv_topi (fun z6_ ez6_ => ?_)
          have o3 : -2147483648 ≤ (σ3_.1 1).toInt + 1 := by omega
          have o4 : (σ3_.1 1).toInt + 1 ≤ 2147483647 := by omega
          have tz6_ : z6_.toInt = (σ3_.1 1).toInt + 1 := ti_add ez6_ rfl rg_18 o3 o4
          refine va_put (D := (dC, dI)) (ci := 11) (v := .int z6_) (ty := tyX11 1) (C := RX11) (T := TX11) (N := 17) hx hb hts hin11 tyX11 tyX11_ok nmX11 hown hK hP hD hS 0 rfl rfl 1 (Nat.le_of_ble_eq_true rfl) (ho (.fieldLink RX11 13 "NearEnough" "bytes" "I") (List.mem_of_getElem? (i := 0) rfl)) (fun _ h9 => h9) rfl (tyX11_ok 1 (Nat.le_of_ble_eq_true rfl)) rfl rfl (Nat.le_of_ble_eq_true rfl) dX11_append_37 (fun H locs hP hD hS => ?_)
          have hP : va_P (dC, dI) vwCl (cW κ (sA (sI σ3_ 1 z6_) 0 f5_)) H := hP
          have hD : va_D A (cW κ (sA (sI σ3_ 1 z6_) 0 f5_)) := hD
          obtain ⟨z7_, ez7_⟩ : ∃ y : Int32, y = v2_ + (-8) := ⟨_, rfl⟩
          have o5 : -2147483648 ≤ v2_.toInt + (-8) := by omega
          have o6 : v2_.toInt + (-8) ≤ 2147483647 := by omega
          have tz7_ := ti_add ez7_ rfl rx_9cc4383ad9 o5 o6
          refine lv_iinc (v := z7_) (lv' := [(2, .int z7_), (0, .ref (kA κ 0)), (1, .int x)]) hx hb dX11_append_40 hl (k := 0) rfl (iincp ez7_ rx_0ba14368ad) (Nat.le_of_ble_eq_true rfl) rfl (fun ls hl => ?_)
          refine lv_goto (tgt := 3) hx hb dX11_append_43 rfl ?_
          have o7 : (z7_.toInt + 9).toNat < n3_ := by omega
          have o8 : 0 ≤ z6_.toInt := by omega
          have o9 : z6_.toInt ≤ 1000 := by omega
          have o10 : (-8) ≤ z7_.toInt := by omega
          have o11 : z7_.toInt ≤ 24 := by omega
          exact ih3_ (sA (sI σ3_ 1 z6_) 0 f5_) z7_ _ _ _ o7 (CInv.sA (k := 0) (f := f5_) (CInv.sI (k := 1) (v := z6_) hIσ3_ ⟨o8, o9⟩) (fun j _ => Inv.any _)) ⟨o10, o11⟩ hP hD hS (lv_sub hl [0, 1, 2] rfl)
  have kk8_ : (24 : Int32).toInt = 24 := rx_42ab737940
  have o12 : (-8) ≤ (24 : Int32).toInt := by omega
  have o13 : (24 : Int32).toInt ≤ 24 := by omega
  exact pt3_ _ σ 24 _ _ _ (Nat.lt_succ_self _) hI ⟨o12, o13⟩ hP hD hS (lv_sub hl [0, 1, 2] rfl)
def ow_k_feed : List Cond := [.fieldLink RX11 13 "NearEnough" "bytes" "I"]
def vs_k_feed : List Cond := .code yX11_feed cX11_feed 6 (some .int) :: (ow_k_feed ++ (([.methodLink RX11 90 yX11_append, .instanceMethod yX11_append, .selects RX11 yX11_append yX11_append, .initialized RX11] : List Cond) ++ (vs_k_append ++ (wsX110))))
theorem vg_k_feed : vs_k_feed.all goodWord = true := by decide +kernel
theorem dd_k_feed : yX11_feed.cls = RX11 ∧ yX11_feed.cls ≠ "java/lang/invoke/MethodHandle" ∧ yX11_feed.cls ≠ "java/lang/invoke/VarHandle" ∧ (parseMethodDescriptor yX11_feed.desc).map (fun d => d.parameters.length) = some 5 := by decide +kernel
def rm_k_feed : Room := { frames := 1, cells := 0, slots := 0, locals := 22 }
theorem gd_k_feed_90_k_append : GoodIn vs_k_feed (wsV RX11 90 RX11 yX11_append vs_k_append) := goodIn_app (goodIn_sub (fun w h => (List.mem_cons_of_mem _ (List.mem_append_right _ (List.mem_append_left _ h)))) (by decide +kernel)) (goodIn_sub (fun w h => (List.mem_cons_of_mem _ (List.mem_append_right _ (List.mem_append_right _ (List.mem_append_left _ h))))) vg_k_append)
set_option maxHeartbeats 4000000 in
set_option maxRecDepth 100000 in
theorem k_feed (l : Launch) (dC : Nat → ClassId) (dI : Nat → Nat → Nat) (κ : CE) (sz : Nat) (σ : MS) (x : Int32) (y : Int32) (z : Int32) (v : Int32) (u : Int32) (hk : PInv κ) (hI : CInv σ)  : Met l yX11_feed vs_k_feed rm_k_feed (va_Pc [.ref (kA κ 0), .int x, .int y, .int z, .int v, .int u] (wSy dC dI (cW κ σ) (cT κ) sz)) (va_Qi (fun (r : Int32) (τ : MS) => CInv τ ∧ True) (fun (τ : MS) => wEn dC dI (va_A (cW κ σ) sz) (cW κ τ) []) (va_A (cW κ σ) sz)) 0 0 (va_A (cW κ σ) sz) := by
  refine Met.ofW (cc := cX11_feed) (maxL := 6) (ret := (some .int)) (by decide +kernel) rfl ?_
  intro p e s m args below meth c s₁ B hml hv
  obtain ⟨rfl, hsz, hP, hK, hD0, hE⟩ := hv
  have hx := B.exec
  have hb := B.bytes
  have hr := B.returns
  have hts := atoms_spec (ws := vs_k_feed) B.pre
  have hown : s.vm.findClass RX11 = some m.cls := findClass_of_methodNamed B.named
  have hlocks := B.notSynchronized
  subst hsz
  have hD := hD0.self (sz := s.heap.size)
  generalize hAe : va_A (cW κ σ) s.heap.size = A at hD ⊢
  have hA : ∀ q : Nat, s.heap.size ≤ q → A q := fun q h => by rw [← hAe]; exact Or.inr h
  have hl := lv_entry ([.ref (kA κ 0), .int x, .int y, .int z, .int v, .int u]) (n := 6) (Nat.le_of_ble_eq_true rfl)
  rw [lg_entry_eq]
  generalize (lg_sl ([.ref (kA κ 0), .int x, .int y, .int z, .int v, .int u]) ++ List.replicate (6 - (lg_sl ([.ref (kA κ 0), .int x, .int y, .int z, .int v, .int u])).length) Slot.unset).toArray = ls at hl ⊢
  have hl : lv_has ls 6 [(0, .ref (kA κ 0)), (1, .int x), (2, .int y), (3, .int z), (4, .int v), (5, .int u)] := hl
  have ho := fun w (h : w ∈ ow_k_feed) => hts w (List.mem_cons_of_mem _ (List.mem_append_left _ h))
  have hin11 : ∀ w ∈ u_ws RX11 TX11 17, w ∈ vs_k_feed := fun w h => (List.mem_cons_of_mem _ (List.mem_append_right _ (List.mem_append_right _ (List.mem_append_right _ h))))
  refine zQ (fun Q hQ => ?_)
  refine zH (A := A) (ws := (cW κ σ)) (fun H hP hS => ?_) hP
  have hk0 := hk.1
  have hk1 := hk.2.1
  have hk2 := hk.2.2.1
  refine lv_aload_n hx hb dX11_feed_0 rfl (lv_at hl 0 rfl) ?_
  have bσ_1 : 0 ≤ (σ.1 1).toInt ∧ (σ.1 1).toInt ≤ 1000 := hI.1 1
  refine va_get (D := (dC, dI)) (ci := 11) (v := .int (σ.1 1)) (C := RX11) (T := TX11) (N := 17) hx hb hts hin11 hown hK hP 0 rfl rfl 1 (Nat.le_of_ble_eq_true rfl) (ho (.fieldLink RX11 13 "NearEnough" "bytes" "I") (List.mem_of_getElem? (i := 0) rfl)) (fun _ h9 => h9) rfl dX11_feed_1 ?_
  refine lv_bipush (v := 20) hx hb dX11_feed_4 rg_60 ?_
  refine lv_iadd hx hb dX11_feed_6 ?_
  refine lv_topi (fun z1_ ez1_ => ?_)
  have o1 : -2147483648 ≤ (σ.1 1).toInt + 20 := by omega
  have o2 : (σ.1 1).toInt + 20 ≤ 2147483647 := by omega
  have tz1_ : z1_.toInt = (σ.1 1).toInt + 20 := ti_add ez1_ rfl rg_61 o1 o2
  refine lv_sipush (v := 1000) hx hb dX11_feed_7 rg_67 ?_
  refine lv_icmp_le (tgt := 15) hx hb dX11_feed_10 rfl (fun c2_ => ?_) (fun c2_ => ?_)
  · have tc2_ := (show z1_.toInt ≤ 1000 from ti_le rfl rg_68 c2_)
    refine lv_aload_n hx hb dX11_feed_15 rfl (lv_at hl 0 rfl) ?_
    refine lv_iload_n hx hb dX11_feed_16 rfl (lv_at hl 1 rfl) ?_
    refine zy_v (va_runV (As := [.int x]) (rest := []) ⟨hx, hb, hml, hown, hts⟩ (k_append l dC dI κ H.size σ x hk hI ) (cwV 1 hts gd_k_feed_90_k_append rfl rfl rfl dd_k_append ⟨Nat.le_of_ble_eq_true rfl, Nat.le_of_ble_eq_true rfl⟩) (preVy hP hK hD hE (ci := 11) (q0 := 0) rfl rfl) rfl rfl hl.1 rfl (lv_room (Nat.le_of_ble_eq_true rfl)) dX11_feed_17 ⟨Nat.le_of_ble_eq_true rfl, Nat.le_of_ble_eq_true rfl⟩) hD hS hA (fun τ4_ H locs hq hP hD hS => ?_)
    obtain ⟨hτ4_, q5_⟩ := hq
    refine W.widen (k := 0) (n := 0) (Nat.le_of_ble_eq_true rfl) (Nat.le_of_ble_eq_true rfl) ?_
    refine lv_aload_n hx hb dX11_feed_20 rfl (lv_at hl 0 rfl) ?_
    refine lv_iload_n hx hb dX11_feed_21 rfl (lv_at hl 2 rfl) ?_
    refine zy_v (va_runV (As := [.int y]) (rest := []) ⟨hx, hb, hml, hown, hts⟩ (k_append l dC dI κ H.size τ4_ y hk hτ4_ ) (cwV 1 hts gd_k_feed_90_k_append rfl rfl rfl dd_k_append ⟨Nat.le_of_ble_eq_true rfl, Nat.le_of_ble_eq_true rfl⟩) (preVy hP hK hD hE (ci := 11) (q0 := 0) rfl rfl) rfl rfl hl.1 rfl (lv_room (Nat.le_of_ble_eq_true rfl)) dX11_feed_22 ⟨Nat.le_of_ble_eq_true rfl, Nat.le_of_ble_eq_true rfl⟩) hD hS hA (fun τ7_ H locs hq hP hD hS => ?_)
    obtain ⟨hτ7_, q8_⟩ := hq
    refine W.widen (k := 0) (n := 0) (Nat.le_of_ble_eq_true rfl) (Nat.le_of_ble_eq_true rfl) ?_
    refine lv_aload_n hx hb dX11_feed_25 rfl (lv_at hl 0 rfl) ?_
    refine lv_iload_n hx hb dX11_feed_26 rfl (lv_at hl 3 rfl) ?_
    refine zy_v (va_runV (As := [.int z]) (rest := []) ⟨hx, hb, hml, hown, hts⟩ (k_append l dC dI κ H.size τ7_ z hk hτ7_ ) (cwV 1 hts gd_k_feed_90_k_append rfl rfl rfl dd_k_append ⟨Nat.le_of_ble_eq_true rfl, Nat.le_of_ble_eq_true rfl⟩) (preVy hP hK hD hE (ci := 11) (q0 := 0) rfl rfl) rfl rfl hl.1 rfl (lv_room (Nat.le_of_ble_eq_true rfl)) dX11_feed_27 ⟨Nat.le_of_ble_eq_true rfl, Nat.le_of_ble_eq_true rfl⟩) hD hS hA (fun τ10_ H locs hq hP hD hS => ?_)
    obtain ⟨hτ10_, q11_⟩ := hq
    refine W.widen (k := 0) (n := 0) (Nat.le_of_ble_eq_true rfl) (Nat.le_of_ble_eq_true rfl) ?_
    refine lv_aload_n hx hb dX11_feed_30 rfl (lv_at hl 0 rfl) ?_
    refine lv_iload hx hb dX11_feed_31 (lv_at hl 4 rfl) ?_
    refine zy_v (va_runV (As := [.int v]) (rest := []) ⟨hx, hb, hml, hown, hts⟩ (k_append l dC dI κ H.size τ10_ v hk hτ10_ ) (cwV 1 hts gd_k_feed_90_k_append rfl rfl rfl dd_k_append ⟨Nat.le_of_ble_eq_true rfl, Nat.le_of_ble_eq_true rfl⟩) (preVy hP hK hD hE (ci := 11) (q0 := 0) rfl rfl) rfl rfl hl.1 rfl (lv_room (Nat.le_of_ble_eq_true rfl)) dX11_feed_33 ⟨Nat.le_of_ble_eq_true rfl, Nat.le_of_ble_eq_true rfl⟩) hD hS hA (fun τ13_ H locs hq hP hD hS => ?_)
    obtain ⟨hτ13_, q14_⟩ := hq
    refine W.widen (k := 0) (n := 0) (Nat.le_of_ble_eq_true rfl) (Nat.le_of_ble_eq_true rfl) ?_
    refine lv_aload_n hx hb dX11_feed_36 rfl (lv_at hl 0 rfl) ?_
    refine lv_iload hx hb dX11_feed_37 (lv_at hl 5 rfl) ?_
    refine zy_v (va_runV (As := [.int u]) (rest := []) ⟨hx, hb, hml, hown, hts⟩ (k_append l dC dI κ H.size τ13_ u hk hτ13_ ) (cwV 1 hts gd_k_feed_90_k_append rfl rfl rfl dd_k_append ⟨Nat.le_of_ble_eq_true rfl, Nat.le_of_ble_eq_true rfl⟩) (preVy hP hK hD hE (ci := 11) (q0 := 0) rfl rfl) rfl rfl hl.1 rfl (lv_room (Nat.le_of_ble_eq_true rfl)) dX11_feed_39 ⟨Nat.le_of_ble_eq_true rfl, Nat.le_of_ble_eq_true rfl⟩) hD hS hA (fun τ16_ H locs hq hP hD hS => ?_)
    obtain ⟨hτ16_, q17_⟩ := hq
    refine W.widen (k := 0) (n := 0) (Nat.le_of_ble_eq_true rfl) (Nat.le_of_ble_eq_true rfl) ?_
    refine lv_aload_n hx hb dX11_feed_42 rfl (lv_at hl 0 rfl) ?_
    have bτ16__1 : 0 ≤ (τ16_.1 1).toInt ∧ (τ16_.1 1).toInt ≤ 1000 := hτ16_.1 1
    refine va_get (D := (dC, dI)) (ci := 11) (v := .int (τ16_.1 1)) (C := RX11) (T := TX11) (N := 17) hx hb hts hin11 hown hK hP 0 rfl rfl 1 (Nat.le_of_ble_eq_true rfl) (ho (.fieldLink RX11 13 "NearEnough" "bytes" "I") (List.mem_of_getElem? (i := 0) rfl)) (fun _ h9 => h9) rfl dX11_feed_43 ?_
    rw [hQ]
    exact W.iret (v := (τ16_.1 1)) hx hb hr (fun t ht hW => ⟨⟨(τ16_.1 1), τ16_, rfl, ⟨hτ16_, trivial⟩, wEn_of hP (hK.sub [] rfl) hD ht hW⟩, hS.F ht⟩) hS.2.2 dX11_feed_46
  · have tc2_ := (show 1000 < z1_.toInt from ti_nle rfl rg_68 c2_)
    refine lv_iconst (v := (-1)) hx hb dX11_feed_13 rg_53 ?_
    have kk18_ : ((-1) : Int32).toInt = (-1) := rg_489
    rw [hQ]
    exact W.iret (v := (-1)) hx hb hr (fun t ht hW => ⟨⟨(-1), σ, rfl, ⟨hI, trivial⟩, wEn_of hP (hK.sub [] rfl) hD ht hW⟩, hS.F ht⟩) hS.2.2 dX11_feed_14
def ow_k_end : List Cond := [.fieldLink RX11 13 "NearEnough" "bytes" "I"]
def vs_k_end : List Cond := .code yX11_end cX11_end 2 (some .int) :: (ow_k_end ++ (wsX110))
theorem vg_k_end : vs_k_end.all goodWord = true := by decide +kernel
theorem dd_k_end : yX11_end.cls = RX11 ∧ yX11_end.cls ≠ "java/lang/invoke/MethodHandle" ∧ yX11_end.cls ≠ "java/lang/invoke/VarHandle" ∧ (parseMethodDescriptor yX11_end.desc).map (fun d => d.parameters.length) = some 1 := by decide +kernel
def rm_k_end : Room := { frames := 0, cells := 0, slots := 0, locals := 0 }
set_option maxHeartbeats 4000000 in
set_option maxRecDepth 100000 in
theorem k_end (l : Launch) (dC : Nat → ClassId) (dI : Nat → Nat → Nat) (κ : CE) (sz : Nat) (σ : MS) (x : Int32) (hk : PInv κ) (hI : CInv σ)  : Met l yX11_end vs_k_end rm_k_end (va_Pc [.ref (kA κ 0), .int x] (wSy dC dI (cW κ σ) (cT κ) sz)) (va_Qi (fun (r : Int32) (τ : MS) => CInv τ ∧ True) (fun (τ : MS) => wEn dC dI (va_A (cW κ σ) sz) (cW κ τ) []) (va_A (cW κ σ) sz)) 0 0 (va_A (cW κ σ) sz) := by
  refine Met.ofW (cc := cX11_end) (maxL := 2) (ret := (some .int)) (by decide +kernel) rfl ?_
  intro p e s m args below meth c s₁ B hml hv
  obtain ⟨rfl, hsz, hP, hK, hD0, hE⟩ := hv
  have hx := B.exec
  have hb := B.bytes
  have hr := B.returns
  have hts := atoms_spec (ws := vs_k_end) B.pre
  have hown : s.vm.findClass RX11 = some m.cls := findClass_of_methodNamed B.named
  have hlocks := B.notSynchronized
  subst hsz
  have hD := hD0.self (sz := s.heap.size)
  generalize hAe : va_A (cW κ σ) s.heap.size = A at hD ⊢
  have hA : ∀ q : Nat, s.heap.size ≤ q → A q := fun q h => by rw [← hAe]; exact Or.inr h
  have hl := lv_entry ([.ref (kA κ 0), .int x]) (n := 2) (Nat.le_of_ble_eq_true rfl)
  rw [lg_entry_eq]
  generalize (lg_sl ([.ref (kA κ 0), .int x]) ++ List.replicate (2 - (lg_sl ([.ref (kA κ 0), .int x])).length) Slot.unset).toArray = ls at hl ⊢
  have hl : lv_has ls 2 [(0, .ref (kA κ 0)), (1, .int x)] := hl
  have ho := fun w (h : w ∈ ow_k_end) => hts w (List.mem_cons_of_mem _ (List.mem_append_left _ h))
  have hin11 : ∀ w ∈ u_ws RX11 TX11 17, w ∈ vs_k_end := fun w h => (List.mem_cons_of_mem _ (List.mem_append_right _ h))
  refine zQ (fun Q hQ => ?_)
  refine zH (A := A) (ws := (cW κ σ)) (fun H hP hS => ?_) hP
  have hk0 := hk.1
  have hk1 := hk.2.1
  have hk2 := hk.2.2.1
  refine lv_iload_n hx hb dX11_end_0 rfl (lv_at hl 1 rfl) ?_
  refine lv_if_lt (tgt := 12) hx hb dX11_end_1 rfl (fun c1_ => ?_) (fun c1_ => ?_)
  · have tc1_ := (show x.toInt < 0 from ti_lt rfl rg_11 c1_)
    refine lv_iconst (v := (-1)) hx hb dX11_end_12 rg_53 ?_
    have kk2_ : ((-1) : Int32).toInt = (-1) := rg_489
    rw [hQ]
    exact W.iret (v := (-1)) hx hb hr (fun t ht hW => ⟨⟨(-1), σ, rfl, ⟨hI, trivial⟩, wEn_of hP (hK.sub [] rfl) hD ht hW⟩, hS.F ht⟩) hS.2.2 dX11_end_13
  · have tc1_ := (show 0 ≤ x.toInt from ti_nlt rfl rg_11 c1_)
    refine lv_iload_n hx hb dX11_end_4 rfl (lv_at hl 1 rfl) ?_
    refine lv_aload_n hx hb dX11_end_5 rfl (lv_at hl 0 rfl) ?_
    have bσ_1 : 0 ≤ (σ.1 1).toInt ∧ (σ.1 1).toInt ≤ 1000 := hI.1 1
    refine va_get (D := (dC, dI)) (ci := 11) (v := .int (σ.1 1)) (C := RX11) (T := TX11) (N := 17) hx hb hts hin11 hown hK hP 0 rfl rfl 1 (Nat.le_of_ble_eq_true rfl) (ho (.fieldLink RX11 13 "NearEnough" "bytes" "I") (List.mem_of_getElem? (i := 0) rfl)) (fun _ h9 => h9) rfl dX11_end_6 ?_
    refine lv_icmp_le (tgt := 14) hx hb dX11_end_9 rfl (fun c3_ => ?_) (fun c3_ => ?_)
    · have tc3_ := (show x.toInt ≤ (σ.1 1).toInt from ti_le rfl rfl c3_)
      refine lv_aload_n hx hb dX11_end_14 rfl (lv_at hl 0 rfl) ?_
      refine lv_iload_n hx hb dX11_end_15 rfl (lv_at hl 1 rfl) ?_
      refine va_put (D := (dC, dI)) (ci := 11) (v := .int x) (ty := tyX11 1) (C := RX11) (T := TX11) (N := 17) hx hb hts hin11 tyX11 tyX11_ok nmX11 hown hK hP hD hS 0 rfl rfl 1 (Nat.le_of_ble_eq_true rfl) (ho (.fieldLink RX11 13 "NearEnough" "bytes" "I") (List.mem_of_getElem? (i := 0) rfl)) (fun _ h9 => h9) rfl (tyX11_ok 1 (Nat.le_of_ble_eq_true rfl)) rfl rfl (Nat.le_of_ble_eq_true rfl) dX11_end_16 (fun H locs hP hD hS => ?_)
      have hP : va_P (dC, dI) vwCl (cW κ (sI σ 1 x)) H := hP
      have hD : va_D A (cW κ (sI σ 1 x)) := hD
      refine lv_iload_n hx hb dX11_end_19 rfl (lv_at hl 1 rfl) ?_
      have o1 : 0 ≤ x.toInt := by omega
      have o2 : x.toInt ≤ 1000 := by omega
      rw [hQ]
      exact W.iret (v := x) hx hb hr (fun t ht hW => ⟨⟨x, (sI σ 1 x), rfl, ⟨(CInv.sI (k := 1) (v := x) hI ⟨o1, o2⟩), trivial⟩, wEn_of hP (hK.sub [] rfl) hD ht hW⟩, hS.F ht⟩) hS.2.2 dX11_end_20
    · have tc3_ := (show (σ.1 1).toInt < x.toInt from ti_nle rfl rfl c3_)
      refine lv_iconst (v := (-1)) hx hb dX11_end_12 rg_53 ?_
      have kk4_ : ((-1) : Int32).toInt = (-1) := rg_489
      rw [hQ]
      exact W.iret (v := (-1)) hx hb hr (fun t ht hW => ⟨⟨(-1), σ, rfl, ⟨hI, trivial⟩, wEn_of hP (hK.sub [] rfl) hD ht hW⟩, hS.F ht⟩) hS.2.2 dX11_end_13
def ow_k_fault : List Cond := [.fieldLink RX11 20 "NearEnough" "faultPlace" "I", .fieldLink RX11 17 "NearEnough" "faultNumber" "I"]
def vs_k_fault : List Cond := .code yX11_fault cX11_fault 2 (some .int) :: (ow_k_fault ++ (wsX110))
theorem vg_k_fault : vs_k_fault.all goodWord = true := by decide +kernel
theorem dd_k_fault : yX11_fault.cls = RX11 ∧ yX11_fault.cls ≠ "java/lang/invoke/MethodHandle" ∧ yX11_fault.cls ≠ "java/lang/invoke/VarHandle" ∧ (parseMethodDescriptor yX11_fault.desc).map (fun d => d.parameters.length) = some 1 := by decide +kernel
def rm_k_fault : Room := { frames := 0, cells := 0, slots := 0, locals := 0 }
set_option maxHeartbeats 4000000 in
set_option maxRecDepth 100000 in
theorem k_fault (l : Launch) (dC : Nat → ClassId) (dI : Nat → Nat → Nat) (κ : CE) (sz : Nat) (σ : MS) (x : Int32) (hk : PInv κ) (hI : CInv σ)  : Met l yX11_fault vs_k_fault rm_k_fault (va_Pc [.ref (kA κ 0), .int x] (wSy dC dI (cW κ σ) (cT κ) sz)) (va_Qi (fun (r : Int32) (τ : MS) => τ = σ ∧ True) (fun (τ : MS) => wEn dC dI (va_A (cW κ σ) sz) (cW κ τ) []) (va_A (cW κ σ) sz)) 0 0 (va_A (cW κ σ) sz) := by
  refine Met.ofW (cc := cX11_fault) (maxL := 2) (ret := (some .int)) (by decide +kernel) rfl ?_
  intro p e s m args below meth c s₁ B hml hv
  obtain ⟨rfl, hsz, hP, hK, hD0, hE⟩ := hv
  have hx := B.exec
  have hb := B.bytes
  have hr := B.returns
  have hts := atoms_spec (ws := vs_k_fault) B.pre
  have hown : s.vm.findClass RX11 = some m.cls := findClass_of_methodNamed B.named
  have hlocks := B.notSynchronized
  subst hsz
  have hD := hD0.self (sz := s.heap.size)
  generalize hAe : va_A (cW κ σ) s.heap.size = A at hD ⊢
  have hA : ∀ q : Nat, s.heap.size ≤ q → A q := fun q h => by rw [← hAe]; exact Or.inr h
  have hl := lv_entry ([.ref (kA κ 0), .int x]) (n := 2) (Nat.le_of_ble_eq_true rfl)
  rw [lg_entry_eq]
  generalize (lg_sl ([.ref (kA κ 0), .int x]) ++ List.replicate (2 - (lg_sl ([.ref (kA κ 0), .int x])).length) Slot.unset).toArray = ls at hl ⊢
  have hl : lv_has ls 2 [(0, .ref (kA κ 0)), (1, .int x)] := hl
  have ho := fun w (h : w ∈ ow_k_fault) => hts w (List.mem_cons_of_mem _ (List.mem_append_left _ h))
  have hin11 : ∀ w ∈ u_ws RX11 TX11 17, w ∈ vs_k_fault := fun w h => (List.mem_cons_of_mem _ (List.mem_append_right _ h))
  refine zQ (fun Q hQ => ?_)
  refine zH (A := A) (ws := (cW κ σ)) (fun H hP hS => ?_) hP
  have hk0 := hk.1
  have hk1 := hk.2.1
  have hk2 := hk.2.2.1
  refine lv_iload_n hx hb dX11_fault_0 rfl (lv_at hl 1 rfl) ?_
  refine lv_if_ne (tgt := 9) hx hb dX11_fault_1 rfl (fun c1_ => ?_) (fun c1_ => ?_)
  · have tc1_ := (show x.toInt ≠ 0 from ti_ne rfl rg_11 c1_)
    refine lv_iload_n hx hb dX11_fault_9 rfl (lv_at hl 1 rfl) ?_
    refine lv_iconst (v := 1) hx hb dX11_fault_10 rg_6 ?_
    refine lv_icmp_ne (tgt := 21) hx hb dX11_fault_11 rfl (fun c2_ => ?_) (fun c2_ => ?_)
    · have tc2_ := (show x.toInt ≠ 1 from ti_ne rfl rg_18 c2_)
      refine lv_iconst (v := (-1)) hx hb dX11_fault_21 rg_53 ?_
      have kk3_ : ((-1) : Int32).toInt = (-1) := rg_489
      rw [hQ]
      exact W.iret (v := (-1)) hx hb hr (fun t ht hW => ⟨⟨(-1), σ, rfl, ⟨rfl, trivial⟩, wEn_of hP (hK.sub [] rfl) hD ht hW⟩, hS.F ht⟩) hS.2.2 dX11_fault_22
    · have tc2_ := (show x.toInt = 1 from ti_eq rfl rg_18 c2_)
      refine lv_aload_n hx hb dX11_fault_14 rfl (lv_at hl 0 rfl) ?_
      refine va_get (D := (dC, dI)) (ci := 11) (v := .int (σ.1 3)) (C := RX11) (T := TX11) (N := 17) hx hb hts hin11 hown hK hP 0 rfl rfl 3 (Nat.le_of_ble_eq_true rfl) (ho (.fieldLink RX11 20 "NearEnough" "faultPlace" "I") (List.mem_of_getElem? (i := 0) rfl)) (fun _ h9 => h9) rfl dX11_fault_15 ?_
      refine lv_goto (tgt := 22) hx hb dX11_fault_18 rfl ?_
      rw [hQ]
      exact W.iret (v := (σ.1 3)) hx hb hr (fun t ht hW => ⟨⟨(σ.1 3), σ, rfl, ⟨rfl, trivial⟩, wEn_of hP (hK.sub [] rfl) hD ht hW⟩, hS.F ht⟩) hS.2.2 dX11_fault_22
  · have tc1_ := (show x.toInt = 0 from ti_eq rfl rg_11 c1_)
    refine lv_aload_n hx hb dX11_fault_4 rfl (lv_at hl 0 rfl) ?_
    refine va_get (D := (dC, dI)) (ci := 11) (v := .int (σ.1 2)) (C := RX11) (T := TX11) (N := 17) hx hb hts hin11 hown hK hP 0 rfl rfl 2 (Nat.le_of_ble_eq_true rfl) (ho (.fieldLink RX11 17 "NearEnough" "faultNumber" "I") (List.mem_of_getElem? (i := 1) rfl)) (fun _ h9 => h9) rfl dX11_fault_5 ?_
    rw [hQ]
    exact W.iret (v := (σ.1 2)) hx hb hr (fun t ht hW => ⟨⟨(σ.1 2), σ, rfl, ⟨rfl, trivial⟩, wEn_of hP (hK.sub [] rfl) hD ht hW⟩, hS.F ht⟩) hS.2.2 dX11_fault_8
def ow_k_span : List Cond := [.fieldLink RX11 26 "NearEnough" "told" "LNearEnough$Program;", .fieldLink RX11 138 "NearEnough$Program" "steps" "[LNearEnough$Step;", .fieldLink RX11 148 "NearEnough$Step" "low" "J", .fieldLink RX11 142 "NearEnough$Step" "high" "J"]
def vs_k_span : List Cond := .code yX11_span cX11_span 3 (some .int) :: (ow_k_span ++ (([.methodLink RX11 134 yX3_hasStep, .instanceMethod yX3_hasStep, .selects RX3 yX3_hasStep yX3_hasStep, .initialized RX3] : List Cond) ++ (vs_k_hasStep ++ (wsX30 ++ (wsX90 ++ (wsX110))))))
theorem vg_k_span : vs_k_span.all goodWord = true := by decide +kernel
theorem dd_k_span : yX11_span.cls = RX11 ∧ yX11_span.cls ≠ "java/lang/invoke/MethodHandle" ∧ yX11_span.cls ≠ "java/lang/invoke/VarHandle" ∧ (parseMethodDescriptor yX11_span.desc).map (fun d => d.parameters.length) = some 2 := by decide +kernel
def rm_k_span : Room := { frames := 1, cells := 0, slots := 0, locals := 21 }
theorem gd_k_span_134_k_hasStep : GoodIn vs_k_span (wsV RX11 134 RX3 yX3_hasStep vs_k_hasStep) := goodIn_app (goodIn_sub (fun w h => (List.mem_cons_of_mem _ (List.mem_append_right _ (List.mem_append_left _ h)))) (by decide +kernel)) (goodIn_sub (fun w h => (List.mem_cons_of_mem _ (List.mem_append_right _ (List.mem_append_right _ (List.mem_append_left _ h))))) vg_k_hasStep)
set_option maxHeartbeats 4000000 in
set_option maxRecDepth 100000 in
theorem k_span (l : Launch) (dC : Nat → ClassId) (dI : Nat → Nat → Nat) (κ : CE) (sz : Nat) (σ : MS) (x : Int32) (y : Int32) (hk : PInv κ) (hI : CInv σ)  : Met l yX11_span vs_k_span rm_k_span (va_Pc [.ref (kA κ 0), .int x, .int y] (wSy dC dI (cW κ σ) (cT κ) sz)) (va_Qi (fun (r : Int32) (τ : MS) => τ = σ ∧ True) (fun (τ : MS) => wEn dC dI (va_A (cW κ σ) sz) (cW κ τ) []) (va_A (cW κ σ) sz)) 0 0 (va_A (cW κ σ) sz) := by
  refine Met.ofW (cc := cX11_span) (maxL := 3) (ret := (some .int)) (by decide +kernel) rfl ?_
  intro p e s m args below meth c s₁ B hml hv
  obtain ⟨rfl, hsz, hP, hK, hD0, hE⟩ := hv
  have hx := B.exec
  have hb := B.bytes
  have hr := B.returns
  have hts := atoms_spec (ws := vs_k_span) B.pre
  have hown : s.vm.findClass RX11 = some m.cls := findClass_of_methodNamed B.named
  have hlocks := B.notSynchronized
  subst hsz
  have hD := hD0.self (sz := s.heap.size)
  generalize hAe : va_A (cW κ σ) s.heap.size = A at hD ⊢
  have hA : ∀ q : Nat, s.heap.size ≤ q → A q := fun q h => by rw [← hAe]; exact Or.inr h
  have hl := lv_entry ([.ref (kA κ 0), .int x, .int y]) (n := 3) (Nat.le_of_ble_eq_true rfl)
  rw [lg_entry_eq]
  generalize (lg_sl ([.ref (kA κ 0), .int x, .int y]) ++ List.replicate (3 - (lg_sl ([.ref (kA κ 0), .int x, .int y])).length) Slot.unset).toArray = ls at hl ⊢
  have hl : lv_has ls 3 [(0, .ref (kA κ 0)), (1, .int x), (2, .int y)] := hl
  have ho := fun w (h : w ∈ ow_k_span) => hts w (List.mem_cons_of_mem _ (List.mem_append_left _ h))
  have hin3 : ∀ w ∈ u_ws RX3 TX3 8, w ∈ vs_k_span := fun w h => (List.mem_cons_of_mem _ (List.mem_append_right _ (List.mem_append_right _ (List.mem_append_right _ (List.mem_append_left _ h)))))
  have hin9 : ∀ w ∈ u_ws RX9 TX9 11, w ∈ vs_k_span := fun w h => (List.mem_cons_of_mem _ (List.mem_append_right _ (List.mem_append_right _ (List.mem_append_right _ (List.mem_append_right _ (List.mem_append_left _ h))))))
  have hin11 : ∀ w ∈ u_ws RX11 TX11 17, w ∈ vs_k_span := fun w h => (List.mem_cons_of_mem _ (List.mem_append_right _ (List.mem_append_right _ (List.mem_append_right _ (List.mem_append_right _ (List.mem_append_right _ h))))))
  refine zQ (fun Q hQ => ?_)
  refine zH (A := A) (ws := (cW κ σ)) (fun H hP hS => ?_) hP
  have hk0 := hk.1
  have hk1 := hk.2.1
  have hk2 := hk.2.2.1
  refine lv_aload_n hx hb dX11_span_0 rfl (lv_at hl 0 rfl) ?_
  refine va_get (D := (dC, dI)) (ci := 11) (v := .ref (kA κ 6)) (C := RX11) (T := TX11) (N := 17) hx hb hts hin11 hown hK hP 0 rfl rfl 4 (Nat.le_of_ble_eq_true rfl) (ho (.fieldLink RX11 26 "NearEnough" "told" "LNearEnough$Program;") (List.mem_of_getElem? (i := 0) rfl)) (fun _ h9 => h9) rfl dX11_span_1 ?_
  refine lv_iload_n hx hb dX11_span_4 rfl (lv_at hl 1 rfl) ?_
  refine zy_i (va_runV (As := [.int x]) (rest := []) ⟨hx, hb, hml, hown, hts⟩ (k_hasStep l dC dI κ H.size σ x hk hI ) (cwV 1 hts gd_k_span_134_k_hasStep rfl rfl rfl dd_k_hasStep ⟨Nat.le_of_ble_eq_true rfl, Nat.le_of_ble_eq_true rfl⟩) (preVy hP hK hD hE (ci := 3) (q0 := 6) rfl rfl) rfl rfl hl.1 rfl (lv_room (Nat.le_of_ble_eq_true rfl)) dX11_span_5 ⟨Nat.le_of_ble_eq_true rfl, Nat.le_of_ble_eq_true rfl⟩) hD hS hA (fun z1_ τ2_ H locs hq hP hD hS => ?_)
  obtain ⟨hτ2_, q3_⟩ := hq
  rw [hτ2_] at hP hD
  have q3_ : (z1_.toInt = 1 ∧ 0 ≤ x.toInt ∧ x.toInt < (pI κ 1).toInt) ∨ z1_.toInt = 0 := q3_
  refine W.widen (k := 0) (n := 0) (Nat.le_of_ble_eq_true rfl) (Nat.le_of_ble_eq_true rfl) ?_
  refine lv_if_ne (tgt := 13) hx hb dX11_span_8 rfl (fun c4_ => ?_) (fun c4_ => ?_)
  · have tc4_ := (show z1_.toInt ≠ 0 from ti_ne rfl rg_11 c4_)
    refine lv_iload_n hx hb dX11_span_13 rfl (lv_at hl 2 rfl) ?_
    refine lv_if_eq (tgt := 32) hx hb dX11_span_14 rfl (fun c5_ => ?_) (fun c5_ => ?_)
    · have tc5_ := (show y.toInt = 0 from ti_eq rfl rg_11 c5_)
      refine lv_aload_n hx hb dX11_span_32 rfl (lv_at hl 0 rfl) ?_
      refine va_get (D := (dC, dI)) (ci := 11) (v := .ref (kA κ 6)) (C := RX11) (T := TX11) (N := 17) hx hb hts hin11 hown hK hP 0 rfl rfl 4 (Nat.le_of_ble_eq_true rfl) (ho (.fieldLink RX11 26 "NearEnough" "told" "LNearEnough$Program;") (List.mem_of_getElem? (i := 0) rfl)) (fun _ h9 => h9) rfl dX11_span_33 ?_
      refine va_get (D := (dC, dI)) (ci := 3) (v := .ref (kA κ 8)) (C := RX3) (T := TX3) (N := 8) hx hb hts hin3 hown hK hP 6 rfl rfl 1 (Nat.le_of_ble_eq_true rfl) (ho (.fieldLink RX11 138 "NearEnough$Program" "steps" "[LNearEnough$Step;") (List.mem_of_getElem? (i := 1) rfl)) (fun _ h9 => h9) rfl dX11_span_36 ?_
      refine lv_iload_n hx hb dX11_span_39 rfl (lv_at hl 1 rfl) ?_
      have o1 : 0 ≤ x.toInt := by omega
      have o2 : x.toInt < ((12 : Nat) : Int) := by omega
      refine va_aldq hx hb hK hP 8 6 rfl rfl (ti_inx o1 o2) dX11_span_40 ?_
      have o3 : x.toInt < (pI κ 1).toInt := by omega
      obtain ⟨a6_, t7_, ea8_, ga9_⟩ := hk.st (x := x) o1 o3
      refine zv (v := .ref a6_) (by rw [ea8_]; rfl) ?_
      obtain ⟨kp10_, hkp10_⟩ := cpl (κ := κ) (σ := σ) ga9_.1 ga9_.2.1
      refine va_get (D := (dC, dI)) (ci := 9) (v := .long (t7_.2.1 1)) (C := RX9) (T := TX9) (N := 11) hx hb hts hin9 hown hK hP kp10_ hkp10_ rfl 9 (Nat.le_of_ble_eq_true rfl) (ho (.fieldLink RX11 148 "NearEnough$Step" "low" "J") (List.mem_of_getElem? (i := 2) rfl)) (fun _ h9 => h9) rfl dX11_span_41 ?_
      refine lv_l2i hx hb dX11_span_44 rfl ?_
      refine lv_topi (fun z11_ ez11_ => ?_)
      rw [hQ]
      exact W.iret (v := z11_) hx hb hr (fun t ht hW => ⟨⟨z11_, σ, rfl, ⟨rfl, trivial⟩, wEn_of hP (hK.sub [] rfl) hD ht hW⟩, hS.F ht⟩) hS.2.2 dX11_span_45
    · have tc5_ := (show y.toInt ≠ 0 from ti_ne rfl rg_11 c5_)
      refine lv_aload_n hx hb dX11_span_17 rfl (lv_at hl 0 rfl) ?_
      refine va_get (D := (dC, dI)) (ci := 11) (v := .ref (kA κ 6)) (C := RX11) (T := TX11) (N := 17) hx hb hts hin11 hown hK hP 0 rfl rfl 4 (Nat.le_of_ble_eq_true rfl) (ho (.fieldLink RX11 26 "NearEnough" "told" "LNearEnough$Program;") (List.mem_of_getElem? (i := 0) rfl)) (fun _ h9 => h9) rfl dX11_span_18 ?_
      refine va_get (D := (dC, dI)) (ci := 3) (v := .ref (kA κ 8)) (C := RX3) (T := TX3) (N := 8) hx hb hts hin3 hown hK hP 6 rfl rfl 1 (Nat.le_of_ble_eq_true rfl) (ho (.fieldLink RX11 138 "NearEnough$Program" "steps" "[LNearEnough$Step;") (List.mem_of_getElem? (i := 1) rfl)) (fun _ h9 => h9) rfl dX11_span_21 ?_
      refine lv_iload_n hx hb dX11_span_24 rfl (lv_at hl 1 rfl) ?_
      have o4 : 0 ≤ x.toInt := by omega
      have o5 : x.toInt < ((12 : Nat) : Int) := by omega
      refine va_aldq hx hb hK hP 8 6 rfl rfl (ti_inx o4 o5) dX11_span_25 ?_
      have o6 : x.toInt < (pI κ 1).toInt := by omega
      obtain ⟨a12_, t13_, ea14_, ga15_⟩ := hk.st (x := x) o4 o6
      refine zv (v := .ref a12_) (by rw [ea14_]; rfl) ?_
      obtain ⟨kp16_, hkp16_⟩ := cpl (κ := κ) (σ := σ) ga15_.1 ga15_.2.1
      refine va_get (D := (dC, dI)) (ci := 9) (v := .long (t13_.2.1 2)) (C := RX9) (T := TX9) (N := 11) hx hb hts hin9 hown hK hP kp16_ hkp16_ rfl 10 (Nat.le_of_ble_eq_true rfl) (ho (.fieldLink RX11 142 "NearEnough$Step" "high" "J") (List.mem_of_getElem? (i := 3) rfl)) (fun _ h9 => h9) rfl dX11_span_26 ?_
      refine lv_goto (tgt := 44) hx hb dX11_span_29 rfl ?_
      refine lv_l2i hx hb dX11_span_44 rfl ?_
      refine lv_topi (fun z17_ ez17_ => ?_)
      rw [hQ]
      exact W.iret (v := z17_) hx hb hr (fun t ht hW => ⟨⟨z17_, σ, rfl, ⟨rfl, trivial⟩, wEn_of hP (hK.sub [] rfl) hD ht hW⟩, hS.F ht⟩) hS.2.2 dX11_span_45
  · have tc4_ := (show z1_.toInt = 0 from ti_eq rfl rg_11 c4_)
    refine lv_iconst (v := 0) hx hb dX11_span_11 rg_0 ?_
    have kk18_ : (0 : Int32).toInt = 0 := rg_11
    rw [hQ]
    exact W.iret (v := 0) hx hb hr (fun t ht hW => ⟨⟨0, σ, rfl, ⟨rfl, trivial⟩, wEn_of hP (hK.sub [] rfl) hD ht hW⟩, hS.F ht⟩) hS.2.2 dX11_span_12
def ow_k_stands : List Cond := [.fieldLink RX11 40 "NearEnough" "changes" "LNearEnough$Changes;", .fieldLink RX11 49 "NearEnough" "shown" "LNearEnough$Shown;"]
def vs_k_stands : List Cond := .code yX11_stands cX11_stands 2 (some .boolean) :: (ow_k_stands ++ (([.methodLink RX11 202 yX0_take, .instanceMethod yX0_take, .selects RX0 yX0_take yX0_take, .initialized RX0] : List Cond) ++ (vs_k_take ++ (([.methodLink RX11 205 yX8_show, .instanceMethod yX8_show, .selects RX8 yX8_show yX8_show, .initialized RX8] : List Cond) ++ (vs_k_show ++ (wsX110))))))
theorem vg_k_stands : vs_k_stands.all goodWord = true := by decide +kernel
theorem dd_k_stands : yX11_stands.cls = RX11 ∧ yX11_stands.cls ≠ "java/lang/invoke/MethodHandle" ∧ yX11_stands.cls ≠ "java/lang/invoke/VarHandle" ∧ (parseMethodDescriptor yX11_stands.desc).map (fun d => d.parameters.length) = some 1 := by decide +kernel
def rm_k_stands : Room := { frames := 5, cells := 0, slots := 0, locals := 122 }
theorem gd_k_stands_202_k_take : GoodIn vs_k_stands (wsV RX11 202 RX0 yX0_take vs_k_take) := goodIn_app (goodIn_sub (fun w h => (List.mem_cons_of_mem _ (List.mem_append_right _ (List.mem_append_left _ h)))) (by decide +kernel)) (goodIn_sub (fun w h => (List.mem_cons_of_mem _ (List.mem_append_right _ (List.mem_append_right _ (List.mem_append_left _ h))))) vg_k_take)
theorem gd_k_stands_205_k_show : GoodIn vs_k_stands (wsV RX11 205 RX8 yX8_show vs_k_show) := goodIn_app (goodIn_sub (fun w h => (List.mem_cons_of_mem _ (List.mem_append_right _ (List.mem_append_right _ (List.mem_append_right _ (List.mem_append_left _ h)))))) (by decide +kernel)) (goodIn_sub (fun w h => (List.mem_cons_of_mem _ (List.mem_append_right _ (List.mem_append_right _ (List.mem_append_right _ (List.mem_append_right _ (List.mem_append_left _ h))))))) vg_k_show)
set_option maxHeartbeats 4000000 in
set_option maxRecDepth 100000 in
theorem k_stands (l : Launch) (dC : Nat → ClassId) (dI : Nat → Nat → Nat) (κ : CE) (sz : Nat) (σ : MS) (x : Int32) (hk : PInv κ) (hI : CInv σ)  : Met l yX11_stands vs_k_stands rm_k_stands (va_Pc [.ref (kA κ 0), .int x] (wSy dC dI (cW κ σ) (cT κ) sz)) (va_Qi (fun (r : Int32) (τ : MS) => CInv τ ∧ (r.toInt = 0 ∨ r.toInt = 1)) (fun (τ : MS) => wEn dC dI (va_A (cW κ σ) sz) (cW κ τ) []) (va_A (cW κ σ) sz)) 0 0 (va_A (cW κ σ) sz) := by
  refine Met.ofW (cc := cX11_stands) (maxL := 2) (ret := (some .boolean)) (by decide +kernel) rfl ?_
  intro p e s m args below meth c s₁ B hml hv
  obtain ⟨rfl, hsz, hP, hK, hD0, hE⟩ := hv
  have hx := B.exec
  have hb := B.bytes
  have hr := B.returns
  have hts := atoms_spec (ws := vs_k_stands) B.pre
  have hown : s.vm.findClass RX11 = some m.cls := findClass_of_methodNamed B.named
  have hlocks := B.notSynchronized
  subst hsz
  have hD := hD0.self (sz := s.heap.size)
  generalize hAe : va_A (cW κ σ) s.heap.size = A at hD ⊢
  have hA : ∀ q : Nat, s.heap.size ≤ q → A q := fun q h => by rw [← hAe]; exact Or.inr h
  have hl := lv_entry ([.ref (kA κ 0), .int x]) (n := 2) (Nat.le_of_ble_eq_true rfl)
  rw [lg_entry_eq]
  generalize (lg_sl ([.ref (kA κ 0), .int x]) ++ List.replicate (2 - (lg_sl ([.ref (kA κ 0), .int x])).length) Slot.unset).toArray = ls at hl ⊢
  have hl : lv_has ls 2 [(0, .ref (kA κ 0)), (1, .int x)] := hl
  have ho := fun w (h : w ∈ ow_k_stands) => hts w (List.mem_cons_of_mem _ (List.mem_append_left _ h))
  have hin11 : ∀ w ∈ u_ws RX11 TX11 17, w ∈ vs_k_stands := fun w h => (List.mem_cons_of_mem _ (List.mem_append_right _ (List.mem_append_right _ (List.mem_append_right _ (List.mem_append_right _ (List.mem_append_right _ h))))))
  refine zQ (fun Q hQ => ?_)
  refine zH (A := A) (ws := (cW κ σ)) (fun H hP hS => ?_) hP
  have hk0 := hk.1
  have hk1 := hk.2.1
  have hk2 := hk.2.2.1
  refine lv_aload_n hx hb dX11_stands_0 rfl (lv_at hl 0 rfl) ?_
  refine va_get (D := (dC, dI)) (ci := 11) (v := .ref (kA κ 15)) (C := RX11) (T := TX11) (N := 17) hx hb hts hin11 hown hK hP 0 rfl rfl 6 (Nat.le_of_ble_eq_true rfl) (ho (.fieldLink RX11 40 "NearEnough" "changes" "LNearEnough$Changes;") (List.mem_of_getElem? (i := 0) rfl)) (fun _ h9 => h9) rfl dX11_stands_1 ?_
  refine lv_iload_n hx hb dX11_stands_4 rfl (lv_at hl 1 rfl) ?_
  refine zy_i (va_runV (As := [.int x]) (rest := []) ⟨hx, hb, hml, hown, hts⟩ (k_take l dC dI κ H.size σ x hk hI ) (cwV 1 hts gd_k_stands_202_k_take rfl rfl rfl dd_k_take ⟨Nat.le_of_ble_eq_true rfl, Nat.le_of_ble_eq_true rfl⟩) (preVy hP hK hD hE (ci := 0) (q0 := 15) rfl rfl) rfl rfl hl.1 rfl (lv_room (Nat.le_of_ble_eq_true rfl)) dX11_stands_5 ⟨Nat.le_of_ble_eq_true rfl, Nat.le_of_ble_eq_true rfl⟩) hD hS hA (fun z1_ τ2_ H locs hq hP hD hS => ?_)
  obtain ⟨hτ2_, q3_⟩ := hq
  have q3_ : z1_.toInt = 0 ∨ z1_.toInt = 1 := q3_
  refine W.widen (k := 0) (n := 0) (Nat.le_of_ble_eq_true rfl) (Nat.le_of_ble_eq_true rfl) ?_
  refine lv_if_eq (tgt := 27) hx hb dX11_stands_8 rfl (fun c4_ => ?_) (fun c4_ => ?_)
  · have tc4_ := (show z1_.toInt = 0 from ti_eq rfl rg_11 c4_)
    refine lv_iconst (v := 0) hx hb dX11_stands_27 rg_0 ?_
    have kk5_ : (0 : Int32).toInt = 0 := rg_11
    have o1 : (0 : Int32).toInt = 0 ∨ (0 : Int32).toInt = 1 := by omega
    rw [hQ]
    exact W.zret (v := 0) hx hb hr rfl (fun t ht hW => ⟨⟨0, τ2_, rfl, ⟨hτ2_, o1⟩, wEn_of hP (hK.sub [] rfl) hD ht hW⟩, hS.F ht⟩) hS.2.2 dX11_stands_28
  · have tc4_ := (show z1_.toInt ≠ 0 from ti_ne rfl rg_11 c4_)
    refine lv_aload_n hx hb dX11_stands_11 rfl (lv_at hl 0 rfl) ?_
    refine va_get (D := (dC, dI)) (ci := 11) (v := .ref (kA κ 21)) (C := RX11) (T := TX11) (N := 17) hx hb hts hin11 hown hK hP 0 rfl rfl 7 (Nat.le_of_ble_eq_true rfl) (ho (.fieldLink RX11 49 "NearEnough" "shown" "LNearEnough$Shown;") (List.mem_of_getElem? (i := 1) rfl)) (fun _ h9 => h9) rfl dX11_stands_12 ?_
    refine lv_iconst (v := 0) hx hb dX11_stands_15 rg_0 ?_
    have kk6_ : (0 : Int32).toInt = 0 := rg_11
    have o2 : 0 ≤ (0 : Int32).toInt := by omega
    have o3 : (0 : Int32).toInt ≤ 12 := by omega
    refine zy_i (va_runV (As := [.int 0]) (rest := []) ⟨hx, hb, hml, hown, hts⟩ (k_show l dC dI κ H.size τ2_ 0 hk hτ2_ ⟨o2, o3⟩) (cwV 1 hts gd_k_stands_205_k_show rfl rfl rfl dd_k_show ⟨Nat.le_of_ble_eq_true rfl, Nat.le_of_ble_eq_true rfl⟩) (preVy hP hK hD hE (ci := 8) (q0 := 21) rfl rfl) rfl rfl hl.1 rfl (lv_room (Nat.le_of_ble_eq_true rfl)) dX11_stands_16 ⟨Nat.le_of_ble_eq_true rfl, Nat.le_of_ble_eq_true rfl⟩) hD hS hA (fun z7_ τ8_ H locs hq hP hD hS => ?_)
    obtain ⟨hτ8_, q9_⟩ := hq
    have q9_ : (-1) ≤ z7_.toInt ∧ z7_.toInt ≤ 11 := q9_
    refine W.widen (k := 0) (n := 0) (Nat.le_of_ble_eq_true rfl) (Nat.le_of_ble_eq_true rfl) ?_
    refine lv_iconst (v := (-1)) hx hb dX11_stands_19 rg_53 ?_
    refine lv_icmp_ne (tgt := 27) hx hb dX11_stands_20 rfl (fun c10_ => ?_) (fun c10_ => ?_)
    · have tc10_ := (show z7_.toInt ≠ (-1) from ti_ne rfl rg_489 c10_)
      refine lv_iconst (v := 0) hx hb dX11_stands_27 rg_0 ?_
      have kk11_ : (0 : Int32).toInt = 0 := rg_11
      have o4 : (0 : Int32).toInt = 0 ∨ (0 : Int32).toInt = 1 := by omega
      rw [hQ]
      exact W.zret (v := 0) hx hb hr rfl (fun t ht hW => ⟨⟨0, τ8_, rfl, ⟨hτ8_, o4⟩, wEn_of hP (hK.sub [] rfl) hD ht hW⟩, hS.F ht⟩) hS.2.2 dX11_stands_28
    · have tc10_ := (show z7_.toInt = (-1) from ti_eq rfl rg_489 c10_)
      refine lv_iconst (v := 1) hx hb dX11_stands_23 rg_6 ?_
      refine lv_goto (tgt := 28) hx hb dX11_stands_24 rfl ?_
      have kk12_ : (1 : Int32).toInt = 1 := rg_18
      have o5 : (1 : Int32).toInt = 0 ∨ (1 : Int32).toInt = 1 := by omega
      rw [hQ]
      exact W.zret (v := 1) hx hb hr rfl (fun t ht hW => ⟨⟨1, τ8_, rfl, ⟨hτ8_, o5⟩, wEn_of hP (hK.sub [] rfl) hD ht hW⟩, hS.F ht⟩) hS.2.2 dX11_stands_28
def ow_k_lastStep : List Cond := [.fieldLink RX11 26 "NearEnough" "told" "LNearEnough$Program;", .fieldLink RX11 123 "NearEnough$Program" "stepCount" "I"]
def vs_k_lastStep : List Cond := .code yX11_lastStep cX11_lastStep 1 (some .int) :: (ow_k_lastStep ++ (wsX30 ++ (wsX110)))
theorem vg_k_lastStep : vs_k_lastStep.all goodWord = true := by decide +kernel
theorem dd_k_lastStep : yX11_lastStep.cls = RX11 ∧ yX11_lastStep.cls ≠ "java/lang/invoke/MethodHandle" ∧ yX11_lastStep.cls ≠ "java/lang/invoke/VarHandle" ∧ (parseMethodDescriptor yX11_lastStep.desc).map (fun d => d.parameters.length) = some 0 := by decide +kernel
def rm_k_lastStep : Room := { frames := 0, cells := 0, slots := 0, locals := 0 }
set_option maxHeartbeats 4000000 in
set_option maxRecDepth 100000 in
theorem k_lastStep (l : Launch) (dC : Nat → ClassId) (dI : Nat → Nat → Nat) (κ : CE) (sz : Nat) (σ : MS) (hk : PInv κ) (hI : CInv σ)  : Met l yX11_lastStep vs_k_lastStep rm_k_lastStep (va_Pc [.ref (kA κ 0)] (wSy dC dI (cW κ σ) (cT κ) sz)) (va_Qi (fun (r : Int32) (τ : MS) => τ = σ ∧ (r.toInt = (pI κ 1).toInt - 1)) (fun (τ : MS) => wEn dC dI (va_A (cW κ σ) sz) (cW κ τ) []) (va_A (cW κ σ) sz)) 0 0 (va_A (cW κ σ) sz) := by
  refine Met.ofW (cc := cX11_lastStep) (maxL := 1) (ret := (some .int)) (by decide +kernel) rfl ?_
  intro p e s m args below meth c s₁ B hml hv
  obtain ⟨rfl, hsz, hP, hK, hD0, hE⟩ := hv
  have hx := B.exec
  have hb := B.bytes
  have hr := B.returns
  have hts := atoms_spec (ws := vs_k_lastStep) B.pre
  have hown : s.vm.findClass RX11 = some m.cls := findClass_of_methodNamed B.named
  have hlocks := B.notSynchronized
  subst hsz
  have hD := hD0.self (sz := s.heap.size)
  generalize hAe : va_A (cW κ σ) s.heap.size = A at hD ⊢
  have hA : ∀ q : Nat, s.heap.size ≤ q → A q := fun q h => by rw [← hAe]; exact Or.inr h
  have hl := lv_entry ([.ref (kA κ 0)]) (n := 1) (Nat.le_of_ble_eq_true rfl)
  rw [lg_entry_eq]
  generalize (lg_sl ([.ref (kA κ 0)]) ++ List.replicate (1 - (lg_sl ([.ref (kA κ 0)])).length) Slot.unset).toArray = ls at hl ⊢
  have hl : lv_has ls 1 [(0, .ref (kA κ 0))] := hl
  have ho := fun w (h : w ∈ ow_k_lastStep) => hts w (List.mem_cons_of_mem _ (List.mem_append_left _ h))
  have hin3 : ∀ w ∈ u_ws RX3 TX3 8, w ∈ vs_k_lastStep := fun w h => (List.mem_cons_of_mem _ (List.mem_append_right _ (List.mem_append_left _ h)))
  have hin11 : ∀ w ∈ u_ws RX11 TX11 17, w ∈ vs_k_lastStep := fun w h => (List.mem_cons_of_mem _ (List.mem_append_right _ (List.mem_append_right _ h)))
  refine zQ (fun Q hQ => ?_)
  refine zH (A := A) (ws := (cW κ σ)) (fun H hP hS => ?_) hP
  have hk0 := hk.1
  have hk1 := hk.2.1
  have hk2 := hk.2.2.1
  refine lv_aload_n hx hb dX11_lastStep_0 rfl (lv_at hl 0 rfl) ?_
  refine va_get (D := (dC, dI)) (ci := 11) (v := .ref (kA κ 6)) (C := RX11) (T := TX11) (N := 17) hx hb hts hin11 hown hK hP 0 rfl rfl 4 (Nat.le_of_ble_eq_true rfl) (ho (.fieldLink RX11 26 "NearEnough" "told" "LNearEnough$Program;") (List.mem_of_getElem? (i := 0) rfl)) (fun _ h9 => h9) rfl dX11_lastStep_1 ?_
  refine va_get (D := (dC, dI)) (ci := 3) (v := .int (pI κ 1)) (C := RX3) (T := TX3) (N := 8) hx hb hts hin3 hown hK hP 6 rfl rfl 6 (Nat.le_of_ble_eq_true rfl) (ho (.fieldLink RX11 123 "NearEnough$Program" "stepCount" "I") (List.mem_of_getElem? (i := 1) rfl)) (fun _ h9 => h9) rfl dX11_lastStep_4 ?_
  refine lv_iconst (v := 1) hx hb dX11_lastStep_7 rg_6 ?_
  refine lv_isub hx hb dX11_lastStep_8 ?_
  refine lv_topi (fun z1_ ez1_ => ?_)
  have o1 : -2147483648 ≤ (pI κ 1).toInt - 1 := by omega
  have o2 : (pI κ 1).toInt - 1 ≤ 2147483647 := by omega
  have tz1_ : z1_.toInt = (pI κ 1).toInt - 1 := ti_sub ez1_ rfl rg_18 o1 o2
  have o3 : z1_.toInt = (pI κ 1).toInt - 1 := by omega
  rw [hQ]
  exact W.iret (v := z1_) hx hb hr (fun t ht hW => ⟨⟨z1_, σ, rfl, ⟨rfl, o3⟩, wEn_of hP (hK.sub [] rfl) hD ht hW⟩, hS.F ht⟩) hS.2.2 dX11_lastStep_9
def ow_k_value : List Cond := [.fieldLink RX11 26 "NearEnough" "told" "LNearEnough$Program;", .constantLong RX11 212 (-1), .fieldLink RX11 33 "NearEnough" "sheets" "LNearEnough$Sheets;", .fieldLink RX11 58 "NearEnough" "worker" "LNearEnough$Worker;", .fieldLink RX11 218 "NearEnough$Worker" "changed" "[J"]
def vs_k_value : List Cond := .code yX11_value cX11_value 4 (some .long) :: (ow_k_value ++ (([.methodLink RX11 134 yX3_hasStep, .instanceMethod yX3_hasStep, .selects RX3 yX3_hasStep yX3_hasStep, .initialized RX3] : List Cond) ++ (vs_k_hasStep ++ (([.methodLink RX11 167 yX7_has, .instanceMethod yX7_has, .selects RX7 yX7_has yX7_has, .initialized RX7] : List Cond) ++ (vs_k_has ++ (([.methodLink RX11 209 yX11_stands, .instanceMethod yX11_stands, .selects RX11 yX11_stands yX11_stands, .initialized RX11] : List Cond) ++ (vs_k_stands ++ (([.methodLink RX11 214 yX10_workChanged, .instanceMethod yX10_workChanged, .selects RX10 yX10_workChanged yX10_workChanged, .initialized RX10] : List Cond) ++ (vs_k_workChanged ++ (wsX100 ++ (wsX110)))))))))))
theorem vg_k_value : vs_k_value.all goodWord = true := by decide +kernel
theorem dd_k_value : yX11_value.cls = RX11 ∧ yX11_value.cls ≠ "java/lang/invoke/MethodHandle" ∧ yX11_value.cls ≠ "java/lang/invoke/VarHandle" ∧ (parseMethodDescriptor yX11_value.desc).map (fun d => d.parameters.length) = some 3 := by decide +kernel
def rm_k_value : Room := { frames := 6, cells := 0, slots := 0, locals := 143 }
theorem gd_k_value_134_k_hasStep : GoodIn vs_k_value (wsV RX11 134 RX3 yX3_hasStep vs_k_hasStep) := goodIn_app (goodIn_sub (fun w h => (List.mem_cons_of_mem _ (List.mem_append_right _ (List.mem_append_left _ h)))) (by decide +kernel)) (goodIn_sub (fun w h => (List.mem_cons_of_mem _ (List.mem_append_right _ (List.mem_append_right _ (List.mem_append_left _ h))))) vg_k_hasStep)
theorem gd_k_value_167_k_has : GoodIn vs_k_value (wsV RX11 167 RX7 yX7_has vs_k_has) := goodIn_app (goodIn_sub (fun w h => (List.mem_cons_of_mem _ (List.mem_append_right _ (List.mem_append_right _ (List.mem_append_right _ (List.mem_append_left _ h)))))) (by decide +kernel)) (goodIn_sub (fun w h => (List.mem_cons_of_mem _ (List.mem_append_right _ (List.mem_append_right _ (List.mem_append_right _ (List.mem_append_right _ (List.mem_append_left _ h))))))) vg_k_has)
theorem gd_k_value_209_k_stands : GoodIn vs_k_value (wsV RX11 209 RX11 yX11_stands vs_k_stands) := goodIn_app (goodIn_sub (fun w h => (List.mem_cons_of_mem _ (List.mem_append_right _ (List.mem_append_right _ (List.mem_append_right _ (List.mem_append_right _ (List.mem_append_right _ (List.mem_append_left _ h)))))))) (by decide +kernel)) (goodIn_sub (fun w h => (List.mem_cons_of_mem _ (List.mem_append_right _ (List.mem_append_right _ (List.mem_append_right _ (List.mem_append_right _ (List.mem_append_right _ (List.mem_append_right _ (List.mem_append_left _ h))))))))) vg_k_stands)
theorem gd_k_value_214_k_workChanged : GoodIn vs_k_value (wsV RX11 214 RX10 yX10_workChanged vs_k_workChanged) := goodIn_app (goodIn_sub (fun w h => (List.mem_cons_of_mem _ (List.mem_append_right _ (List.mem_append_right _ (List.mem_append_right _ (List.mem_append_right _ (List.mem_append_right _ (List.mem_append_right _ (List.mem_append_right _ (List.mem_append_left _ h)))))))))) (by decide +kernel)) (goodIn_sub (fun w h => (List.mem_cons_of_mem _ (List.mem_append_right _ (List.mem_append_right _ (List.mem_append_right _ (List.mem_append_right _ (List.mem_append_right _ (List.mem_append_right _ (List.mem_append_right _ (List.mem_append_right _ (List.mem_append_left _ h))))))))))) vg_k_workChanged)
set_option maxHeartbeats 4000000 in
set_option maxRecDepth 100000 in
theorem k_value (l : Launch) (dC : Nat → ClassId) (dI : Nat → Nat → Nat) (κ : CE) (sz : Nat) (σ : MS) (x : Int32) (y : Int32) (z : Int32) (hk : PInv κ) (hI : CInv σ)  : Met l yX11_value vs_k_value rm_k_value (va_Pc [.ref (kA κ 0), .int x, .int y, .int z] (wSy dC dI (cW κ σ) (cT κ) sz)) (va_Ql (fun (r : Int64) (τ : MS) => CInv τ ∧ True) (fun (τ : MS) => wEn dC dI (va_A (cW κ σ) sz) (cW κ τ) []) (va_A (cW κ σ) sz)) 0 0 (va_A (cW κ σ) sz) := by
  refine Met.ofW (cc := cX11_value) (maxL := 4) (ret := (some .long)) (by decide +kernel) rfl ?_
  intro p e s m args below meth c s₁ B hml hv
  obtain ⟨rfl, hsz, hP, hK, hD0, hE⟩ := hv
  have hx := B.exec
  have hb := B.bytes
  have hr := B.returns
  have hts := atoms_spec (ws := vs_k_value) B.pre
  have hown : s.vm.findClass RX11 = some m.cls := findClass_of_methodNamed B.named
  have hlocks := B.notSynchronized
  subst hsz
  have hD := hD0.self (sz := s.heap.size)
  generalize hAe : va_A (cW κ σ) s.heap.size = A at hD ⊢
  have hA : ∀ q : Nat, s.heap.size ≤ q → A q := fun q h => by rw [← hAe]; exact Or.inr h
  have hl := lv_entry ([.ref (kA κ 0), .int x, .int y, .int z]) (n := 4) (Nat.le_of_ble_eq_true rfl)
  rw [lg_entry_eq]
  generalize (lg_sl ([.ref (kA κ 0), .int x, .int y, .int z]) ++ List.replicate (4 - (lg_sl ([.ref (kA κ 0), .int x, .int y, .int z])).length) Slot.unset).toArray = ls at hl ⊢
  have hl : lv_has ls 4 [(0, .ref (kA κ 0)), (1, .int x), (2, .int y), (3, .int z)] := hl
  have ho := fun w (h : w ∈ ow_k_value) => hts w (List.mem_cons_of_mem _ (List.mem_append_left _ h))
  have hin10 : ∀ w ∈ u_ws RX10 TX10 5, w ∈ vs_k_value := fun w h => (List.mem_cons_of_mem _ (List.mem_append_right _ (List.mem_append_right _ (List.mem_append_right _ (List.mem_append_right _ (List.mem_append_right _ (List.mem_append_right _ (List.mem_append_right _ (List.mem_append_right _ (List.mem_append_right _ (List.mem_append_left _ h)))))))))))
  have hin11 : ∀ w ∈ u_ws RX11 TX11 17, w ∈ vs_k_value := fun w h => (List.mem_cons_of_mem _ (List.mem_append_right _ (List.mem_append_right _ (List.mem_append_right _ (List.mem_append_right _ (List.mem_append_right _ (List.mem_append_right _ (List.mem_append_right _ (List.mem_append_right _ (List.mem_append_right _ (List.mem_append_right _ h)))))))))))
  refine zQ (fun Q hQ => ?_)
  refine zH (A := A) (ws := (cW κ σ)) (fun H hP hS => ?_) hP
  have hk0 := hk.1
  have hk1 := hk.2.1
  have hk2 := hk.2.2.1
  refine lv_aload_n hx hb dX11_value_0 rfl (lv_at hl 0 rfl) ?_
  refine va_get (D := (dC, dI)) (ci := 11) (v := .ref (kA κ 6)) (C := RX11) (T := TX11) (N := 17) hx hb hts hin11 hown hK hP 0 rfl rfl 4 (Nat.le_of_ble_eq_true rfl) (ho (.fieldLink RX11 26 "NearEnough" "told" "LNearEnough$Program;") (List.mem_of_getElem? (i := 0) rfl)) (fun _ h9 => h9) rfl dX11_value_1 ?_
  refine lv_iload_n hx hb dX11_value_4 rfl (lv_at hl 1 rfl) ?_
  refine zy_i (va_runV (As := [.int x]) (rest := []) ⟨hx, hb, hml, hown, hts⟩ (k_hasStep l dC dI κ H.size σ x hk hI ) (cwV 1 hts gd_k_value_134_k_hasStep rfl rfl rfl dd_k_hasStep ⟨Nat.le_of_ble_eq_true rfl, Nat.le_of_ble_eq_true rfl⟩) (preVy hP hK hD hE (ci := 3) (q0 := 6) rfl rfl) rfl rfl hl.1 rfl (lv_room (Nat.le_of_ble_eq_true rfl)) dX11_value_5 ⟨Nat.le_of_ble_eq_true rfl, Nat.le_of_ble_eq_true rfl⟩) hD hS hA (fun z1_ τ2_ H locs hq hP hD hS => ?_)
  obtain ⟨hτ2_, q3_⟩ := hq
  rw [hτ2_] at hP hD
  have q3_ : (z1_.toInt = 1 ∧ 0 ≤ x.toInt ∧ x.toInt < (pI κ 1).toInt) ∨ z1_.toInt = 0 := q3_
  refine W.widen (k := 0) (n := 0) (Nat.le_of_ble_eq_true rfl) (Nat.le_of_ble_eq_true rfl) ?_
  refine lv_if_eq (tgt := 30) hx hb dX11_value_8 rfl (fun c4_ => ?_) (fun c4_ => ?_)
  · have tc4_ := (show z1_.toInt = 0 from ti_eq rfl rg_11 c4_)
    refine lv_ldc2 (v := (-1)) hx hb hown (ho (.constantLong RX11 212 (-1)) (List.mem_of_getElem? (i := 1) rfl)) dX11_value_30 ?_
    rw [hQ]
    exact W.lret (v := (-1)) hx hb hr (fun t ht hW => ⟨⟨(-1), σ, rfl, ⟨hI, trivial⟩, wEn_of hP (hK.sub [] rfl) hD ht hW⟩, hS.F ht⟩) hS.2.2 dX11_value_33
  · have tc4_ := (show z1_.toInt ≠ 0 from ti_ne rfl rg_11 c4_)
    refine lv_aload_n hx hb dX11_value_11 rfl (lv_at hl 0 rfl) ?_
    refine va_get (D := (dC, dI)) (ci := 11) (v := .ref (kA κ 12)) (C := RX11) (T := TX11) (N := 17) hx hb hts hin11 hown hK hP 0 rfl rfl 5 (Nat.le_of_ble_eq_true rfl) (ho (.fieldLink RX11 33 "NearEnough" "sheets" "LNearEnough$Sheets;") (List.mem_of_getElem? (i := 2) rfl)) (fun _ h9 => h9) rfl dX11_value_12 ?_
    refine lv_iload_n hx hb dX11_value_15 rfl (lv_at hl 2 rfl) ?_
    refine zy_i (va_runV (As := [.int y]) (rest := []) ⟨hx, hb, hml, hown, hts⟩ (k_has l dC dI κ H.size σ y hk hI ) (cwV 1 hts gd_k_value_167_k_has rfl rfl rfl dd_k_has ⟨Nat.le_of_ble_eq_true rfl, Nat.le_of_ble_eq_true rfl⟩) (preVy hP hK hD hE (ci := 7) (q0 := 12) rfl rfl) rfl rfl hl.1 rfl (lv_room (Nat.le_of_ble_eq_true rfl)) dX11_value_16 ⟨Nat.le_of_ble_eq_true rfl, Nat.le_of_ble_eq_true rfl⟩) hD hS hA (fun z5_ τ6_ H locs hq hP hD hS => ?_)
    obtain ⟨hτ6_, q7_⟩ := hq
    rw [hτ6_] at hP hD
    have q7_ : (z5_.toInt = 1 ∧ 0 ≤ y.toInt ∧ y.toInt < 40) ∨ z5_.toInt = 0 := q7_
    refine W.widen (k := 0) (n := 0) (Nat.le_of_ble_eq_true rfl) (Nat.le_of_ble_eq_true rfl) ?_
    refine lv_if_eq (tgt := 30) hx hb dX11_value_19 rfl (fun c8_ => ?_) (fun c8_ => ?_)
    · have tc8_ := (show z5_.toInt = 0 from ti_eq rfl rg_11 c8_)
      refine lv_ldc2 (v := (-1)) hx hb hown (ho (.constantLong RX11 212 (-1)) (List.mem_of_getElem? (i := 1) rfl)) dX11_value_30 ?_
      rw [hQ]
      exact W.lret (v := (-1)) hx hb hr (fun t ht hW => ⟨⟨(-1), σ, rfl, ⟨hI, trivial⟩, wEn_of hP (hK.sub [] rfl) hD ht hW⟩, hS.F ht⟩) hS.2.2 dX11_value_33
    · have tc8_ := (show z5_.toInt ≠ 0 from ti_ne rfl rg_11 c8_)
      refine lv_aload_n hx hb dX11_value_22 rfl (lv_at hl 0 rfl) ?_
      refine lv_iload_n hx hb dX11_value_23 rfl (lv_at hl 3 rfl) ?_
      refine zy_i (va_runV (As := [.int z]) (rest := []) ⟨hx, hb, hml, hown, hts⟩ (k_stands l dC dI κ H.size σ z hk hI ) (cwV 1 hts gd_k_value_209_k_stands rfl rfl rfl dd_k_stands ⟨Nat.le_of_ble_eq_true rfl, Nat.le_of_ble_eq_true rfl⟩) (preVy hP hK hD hE (ci := 11) (q0 := 0) rfl rfl) rfl rfl hl.1 rfl (lv_room (Nat.le_of_ble_eq_true rfl)) dX11_value_24 ⟨Nat.le_of_ble_eq_true rfl, Nat.le_of_ble_eq_true rfl⟩) hD hS hA (fun z9_ τ10_ H locs hq hP hD hS => ?_)
      obtain ⟨hτ10_, q11_⟩ := hq
      have q11_ : z9_.toInt = 0 ∨ z9_.toInt = 1 := q11_
      refine W.widen (k := 0) (n := 0) (Nat.le_of_ble_eq_true rfl) (Nat.le_of_ble_eq_true rfl) ?_
      refine lv_if_ne (tgt := 34) hx hb dX11_value_27 rfl (fun c12_ => ?_) (fun c12_ => ?_)
      · have tc12_ := (show z9_.toInt ≠ 0 from ti_ne rfl rg_11 c12_)
        refine lv_aload_n hx hb dX11_value_34 rfl (lv_at hl 0 rfl) ?_
        refine va_get (D := (dC, dI)) (ci := 11) (v := .ref (kA κ 24)) (C := RX11) (T := TX11) (N := 17) hx hb hts hin11 hown hK hP 0 rfl rfl 8 (Nat.le_of_ble_eq_true rfl) (ho (.fieldLink RX11 58 "NearEnough" "worker" "LNearEnough$Worker;") (List.mem_of_getElem? (i := 3) rfl)) (fun _ h9 => h9) rfl dX11_value_35 ?_
        refine lv_iload_n hx hb dX11_value_38 rfl (lv_at hl 2 rfl) ?_
        refine lv_iconst (v := 0) hx hb dX11_value_39 rg_0 ?_
        refine lv_iload_n hx hb dX11_value_40 rfl (lv_at hl 1 rfl) ?_
        have kk13_ : (0 : Int32).toInt = 0 := rg_11
        have o1 : 0 ≤ y.toInt := by omega
        have o2 : y.toInt ≤ 40 := by omega
        have o3 : 0 ≤ (0 : Int32).toInt := by omega
        have o4 : (0 : Int32).toInt ≤ 12 := by omega
        have o5 : -1 ≤ x.toInt := by omega
        have o6 : x.toInt < (pI κ 1).toInt := by omega
        refine zy_v (va_runV (As := [.int y, .int 0, .int x]) (rest := []) ⟨hx, hb, hml, hown, hts⟩ (k_workChanged l dC dI κ H.size τ10_ y 0 x hk hτ10_ ⟨o1, o2⟩ ⟨o3, o4⟩ ⟨o5, o6⟩) (cwV 3 hts gd_k_value_214_k_workChanged rfl rfl rfl dd_k_workChanged ⟨Nat.le_of_ble_eq_true rfl, Nat.le_of_ble_eq_true rfl⟩) (preVy hP hK hD hE (ci := 10) (q0 := 24) rfl rfl) rfl rfl hl.1 rfl (lv_room (Nat.le_of_ble_eq_true rfl)) dX11_value_41 ⟨Nat.le_of_ble_eq_true rfl, Nat.le_of_ble_eq_true rfl⟩) hD hS hA (fun τ15_ H locs hq hP hD hS => ?_)
        obtain ⟨hτ15_, q16_⟩ := hq
        refine W.widen (k := 0) (n := 0) (Nat.le_of_ble_eq_true rfl) (Nat.le_of_ble_eq_true rfl) ?_
        refine lv_aload_n hx hb dX11_value_44 rfl (lv_at hl 0 rfl) ?_
        refine va_get (D := (dC, dI)) (ci := 11) (v := .ref (kA κ 24)) (C := RX11) (T := TX11) (N := 17) hx hb hts hin11 hown hK hP 0 rfl rfl 8 (Nat.le_of_ble_eq_true rfl) (ho (.fieldLink RX11 58 "NearEnough" "worker" "LNearEnough$Worker;") (List.mem_of_getElem? (i := 3) rfl)) (fun _ h9 => h9) rfl dX11_value_45 ?_
        refine va_get (D := (dC, dI)) (ci := 10) (v := .ref (kA κ 26)) (C := RX10) (T := TX10) (N := 5) hx hb hts hin10 hown hK hP 24 rfl rfl 4 (Nat.le_of_ble_eq_true rfl) (ho (.fieldLink RX11 218 "NearEnough$Worker" "changed" "[J") (List.mem_of_getElem? (i := 4) rfl)) (fun _ h9 => h9) rfl dX11_value_48 ?_
        refine lv_iload_n hx hb dX11_value_51 rfl (lv_at hl 2 rfl) ?_
        refine lv_bipush (v := 12) hx hb dX11_value_52 rg_57 ?_
        refine lv_imul hx hb dX11_value_54 ?_
        refine lv_topi (fun z17_ ez17_ => ?_)
        have o7 : -2147483648 ≤ y.toInt * 12 := by omega
        have o8 : y.toInt * 12 ≤ 2147483647 := by omega
        have tz17_ : z17_.toInt = y.toInt * 12 := ti_mul ez17_ rfl rg_58 o7 o8
        refine lv_iload_n hx hb dX11_value_55 rfl (lv_at hl 1 rfl) ?_
        refine lv_iadd hx hb dX11_value_56 ?_
        refine lv_topi (fun z18_ ez18_ => ?_)
        have o9 : -2147483648 ≤ z17_.toInt + x.toInt := by omega
        have o10 : z17_.toInt + x.toInt ≤ 2147483647 := by omega
        have tz18_ : z18_.toInt = z17_.toInt + x.toInt := ti_add ez18_ rfl rfl o9 o10
        have o11 : 0 ≤ z18_.toInt := by omega
        have o12 : z18_.toInt < ((492 : Nat) : Int) := by omega
        refine va_lald hx hb hK hP 26 20 rfl rfl (ti_inx o11 o12) dX11_value_57 ?_
        refine lv_topl (fun y19_ ey19_ => ?_)
        rw [hQ]
        exact W.lret (v := y19_) hx hb hr (fun t ht hW => ⟨⟨y19_, τ15_, rfl, ⟨hτ15_, trivial⟩, wEn_of hP (hK.sub [] rfl) hD ht hW⟩, hS.F ht⟩) hS.2.2 dX11_value_58
      · have tc12_ := (show z9_.toInt = 0 from ti_eq rfl rg_11 c12_)
        refine lv_ldc2 (v := (-1)) hx hb hown (ho (.constantLong RX11 212 (-1)) (List.mem_of_getElem? (i := 1) rfl)) dX11_value_30 ?_
        rw [hQ]
        exact W.lret (v := (-1)) hx hb hr (fun t ht hW => ⟨⟨(-1), τ10_, rfl, ⟨hτ10_, trivial⟩, wEn_of hP (hK.sub [] rfl) hD ht hW⟩, hS.F ht⟩) hS.2.2 dX11_value_33
def ow_k_error : List Cond := [.fieldLink RX11 26 "NearEnough" "told" "LNearEnough$Program;", .constantLong RX11 221 (-1000000000000), .fieldLink RX11 49 "NearEnough" "shown" "LNearEnough$Shown;", .fieldLink RX11 225 "NearEnough$Shown" "low" "[J", .fieldLink RX11 223 "NearEnough$Shown" "high" "[J"]
def vs_k_error : List Cond := .code yX11_error cX11_error 4 (some .long) :: (ow_k_error ++ (([.methodLink RX11 134 yX3_hasStep, .instanceMethod yX3_hasStep, .selects RX3 yX3_hasStep yX3_hasStep, .initialized RX3] : List Cond) ++ (vs_k_hasStep ++ (([.methodLink RX11 209 yX11_stands, .instanceMethod yX11_stands, .selects RX11 yX11_stands yX11_stands, .initialized RX11] : List Cond) ++ (vs_k_stands ++ (wsX80 ++ (wsX110)))))))
theorem vg_k_error : vs_k_error.all goodWord = true := by decide +kernel
theorem dd_k_error : yX11_error.cls = RX11 ∧ yX11_error.cls ≠ "java/lang/invoke/MethodHandle" ∧ yX11_error.cls ≠ "java/lang/invoke/VarHandle" ∧ (parseMethodDescriptor yX11_error.desc).map (fun d => d.parameters.length) = some 3 := by decide +kernel
def rm_k_error : Room := { frames := 6, cells := 0, slots := 0, locals := 143 }
theorem gd_k_error_134_k_hasStep : GoodIn vs_k_error (wsV RX11 134 RX3 yX3_hasStep vs_k_hasStep) := goodIn_app (goodIn_sub (fun w h => (List.mem_cons_of_mem _ (List.mem_append_right _ (List.mem_append_left _ h)))) (by decide +kernel)) (goodIn_sub (fun w h => (List.mem_cons_of_mem _ (List.mem_append_right _ (List.mem_append_right _ (List.mem_append_left _ h))))) vg_k_hasStep)
theorem gd_k_error_209_k_stands : GoodIn vs_k_error (wsV RX11 209 RX11 yX11_stands vs_k_stands) := goodIn_app (goodIn_sub (fun w h => (List.mem_cons_of_mem _ (List.mem_append_right _ (List.mem_append_right _ (List.mem_append_right _ (List.mem_append_left _ h)))))) (by decide +kernel)) (goodIn_sub (fun w h => (List.mem_cons_of_mem _ (List.mem_append_right _ (List.mem_append_right _ (List.mem_append_right _ (List.mem_append_right _ (List.mem_append_left _ h))))))) vg_k_stands)
set_option maxHeartbeats 4000000 in
set_option maxRecDepth 100000 in
theorem k_error (l : Launch) (dC : Nat → ClassId) (dI : Nat → Nat → Nat) (κ : CE) (sz : Nat) (σ : MS) (x : Int32) (y : Int32) (z : Int32) (hk : PInv κ) (hI : CInv σ)  : Met l yX11_error vs_k_error rm_k_error (va_Pc [.ref (kA κ 0), .int x, .int y, .int z] (wSy dC dI (cW κ σ) (cT κ) sz)) (va_Ql (fun (r : Int64) (τ : MS) => CInv τ ∧ True) (fun (τ : MS) => wEn dC dI (va_A (cW κ σ) sz) (cW κ τ) []) (va_A (cW κ σ) sz)) 0 0 (va_A (cW κ σ) sz) := by
  refine Met.ofW (cc := cX11_error) (maxL := 4) (ret := (some .long)) (by decide +kernel) rfl ?_
  intro p e s m args below meth c s₁ B hml hv
  obtain ⟨rfl, hsz, hP, hK, hD0, hE⟩ := hv
  have hx := B.exec
  have hb := B.bytes
  have hr := B.returns
  have hts := atoms_spec (ws := vs_k_error) B.pre
  have hown : s.vm.findClass RX11 = some m.cls := findClass_of_methodNamed B.named
  have hlocks := B.notSynchronized
  subst hsz
  have hD := hD0.self (sz := s.heap.size)
  generalize hAe : va_A (cW κ σ) s.heap.size = A at hD ⊢
  have hA : ∀ q : Nat, s.heap.size ≤ q → A q := fun q h => by rw [← hAe]; exact Or.inr h
  have hl := lv_entry ([.ref (kA κ 0), .int x, .int y, .int z]) (n := 4) (Nat.le_of_ble_eq_true rfl)
  rw [lg_entry_eq]
  generalize (lg_sl ([.ref (kA κ 0), .int x, .int y, .int z]) ++ List.replicate (4 - (lg_sl ([.ref (kA κ 0), .int x, .int y, .int z])).length) Slot.unset).toArray = ls at hl ⊢
  have hl : lv_has ls 4 [(0, .ref (kA κ 0)), (1, .int x), (2, .int y), (3, .int z)] := hl
  have ho := fun w (h : w ∈ ow_k_error) => hts w (List.mem_cons_of_mem _ (List.mem_append_left _ h))
  have hin8 : ∀ w ∈ u_ws RX8 TX8 9, w ∈ vs_k_error := fun w h => (List.mem_cons_of_mem _ (List.mem_append_right _ (List.mem_append_right _ (List.mem_append_right _ (List.mem_append_right _ (List.mem_append_right _ (List.mem_append_left _ h)))))))
  have hin11 : ∀ w ∈ u_ws RX11 TX11 17, w ∈ vs_k_error := fun w h => (List.mem_cons_of_mem _ (List.mem_append_right _ (List.mem_append_right _ (List.mem_append_right _ (List.mem_append_right _ (List.mem_append_right _ (List.mem_append_right _ h)))))))
  refine zQ (fun Q hQ => ?_)
  refine zH (A := A) (ws := (cW κ σ)) (fun H hP hS => ?_) hP
  have hk0 := hk.1
  have hk1 := hk.2.1
  have hk2 := hk.2.2.1
  refine lv_aload_n hx hb dX11_error_0 rfl (lv_at hl 0 rfl) ?_
  refine va_get (D := (dC, dI)) (ci := 11) (v := .ref (kA κ 6)) (C := RX11) (T := TX11) (N := 17) hx hb hts hin11 hown hK hP 0 rfl rfl 4 (Nat.le_of_ble_eq_true rfl) (ho (.fieldLink RX11 26 "NearEnough" "told" "LNearEnough$Program;") (List.mem_of_getElem? (i := 0) rfl)) (fun _ h9 => h9) rfl dX11_error_1 ?_
  refine lv_iload_n hx hb dX11_error_4 rfl (lv_at hl 1 rfl) ?_
  refine zy_i (va_runV (As := [.int x]) (rest := []) ⟨hx, hb, hml, hown, hts⟩ (k_hasStep l dC dI κ H.size σ x hk hI ) (cwV 1 hts gd_k_error_134_k_hasStep rfl rfl rfl dd_k_hasStep ⟨Nat.le_of_ble_eq_true rfl, Nat.le_of_ble_eq_true rfl⟩) (preVy hP hK hD hE (ci := 3) (q0 := 6) rfl rfl) rfl rfl hl.1 rfl (lv_room (Nat.le_of_ble_eq_true rfl)) dX11_error_5 ⟨Nat.le_of_ble_eq_true rfl, Nat.le_of_ble_eq_true rfl⟩) hD hS hA (fun z1_ τ2_ H locs hq hP hD hS => ?_)
  obtain ⟨hτ2_, q3_⟩ := hq
  rw [hτ2_] at hP hD
  have q3_ : (z1_.toInt = 1 ∧ 0 ≤ x.toInt ∧ x.toInt < (pI κ 1).toInt) ∨ z1_.toInt = 0 := q3_
  refine W.widen (k := 0) (n := 0) (Nat.le_of_ble_eq_true rfl) (Nat.le_of_ble_eq_true rfl) ?_
  refine lv_if_eq (tgt := 19) hx hb dX11_error_8 rfl (fun c4_ => ?_) (fun c4_ => ?_)
  · have tc4_ := (show z1_.toInt = 0 from ti_eq rfl rg_11 c4_)
    refine lv_ldc2 (v := (-1000000000000)) hx hb hown (ho (.constantLong RX11 221 (-1000000000000)) (List.mem_of_getElem? (i := 1) rfl)) dX11_error_19 ?_
    rw [hQ]
    exact W.lret (v := (-1000000000000)) hx hb hr (fun t ht hW => ⟨⟨(-1000000000000), σ, rfl, ⟨hI, trivial⟩, wEn_of hP (hK.sub [] rfl) hD ht hW⟩, hS.F ht⟩) hS.2.2 dX11_error_22
  · have tc4_ := (show z1_.toInt ≠ 0 from ti_ne rfl rg_11 c4_)
    refine lv_aload_n hx hb dX11_error_11 rfl (lv_at hl 0 rfl) ?_
    refine lv_iload_n hx hb dX11_error_12 rfl (lv_at hl 2 rfl) ?_
    refine zy_i (va_runV (As := [.int y]) (rest := []) ⟨hx, hb, hml, hown, hts⟩ (k_stands l dC dI κ H.size σ y hk hI ) (cwV 1 hts gd_k_error_209_k_stands rfl rfl rfl dd_k_stands ⟨Nat.le_of_ble_eq_true rfl, Nat.le_of_ble_eq_true rfl⟩) (preVy hP hK hD hE (ci := 11) (q0 := 0) rfl rfl) rfl rfl hl.1 rfl (lv_room (Nat.le_of_ble_eq_true rfl)) dX11_error_13 ⟨Nat.le_of_ble_eq_true rfl, Nat.le_of_ble_eq_true rfl⟩) hD hS hA (fun z5_ τ6_ H locs hq hP hD hS => ?_)
    obtain ⟨hτ6_, q7_⟩ := hq
    have q7_ : z5_.toInt = 0 ∨ z5_.toInt = 1 := q7_
    refine W.widen (k := 0) (n := 0) (Nat.le_of_ble_eq_true rfl) (Nat.le_of_ble_eq_true rfl) ?_
    refine lv_if_ne (tgt := 23) hx hb dX11_error_16 rfl (fun c8_ => ?_) (fun c8_ => ?_)
    · have tc8_ := (show z5_.toInt ≠ 0 from ti_ne rfl rg_11 c8_)
      refine lv_iload_n hx hb dX11_error_23 rfl (lv_at hl 3 rfl) ?_
      refine lv_if_eq (tgt := 39) hx hb dX11_error_24 rfl (fun c9_ => ?_) (fun c9_ => ?_)
      · have tc9_ := (show z.toInt = 0 from ti_eq rfl rg_11 c9_)
        refine lv_aload_n hx hb dX11_error_39 rfl (lv_at hl 0 rfl) ?_
        refine va_get (D := (dC, dI)) (ci := 11) (v := .ref (kA κ 21)) (C := RX11) (T := TX11) (N := 17) hx hb hts hin11 hown hK hP 0 rfl rfl 7 (Nat.le_of_ble_eq_true rfl) (ho (.fieldLink RX11 49 "NearEnough" "shown" "LNearEnough$Shown;") (List.mem_of_getElem? (i := 2) rfl)) (fun _ h9 => h9) rfl dX11_error_40 ?_
        refine va_get (D := (dC, dI)) (ci := 8) (v := .ref (kA κ 22)) (C := RX8) (T := TX8) (N := 9) hx hb hts hin8 hown hK hP 21 rfl rfl 2 (Nat.le_of_ble_eq_true rfl) (ho (.fieldLink RX11 225 "NearEnough$Shown" "low" "[J") (List.mem_of_getElem? (i := 3) rfl)) (fun _ h9 => h9) rfl dX11_error_43 ?_
        refine lv_iload_n hx hb dX11_error_46 rfl (lv_at hl 1 rfl) ?_
        have o1 : 0 ≤ x.toInt := by omega
        have o2 : x.toInt < ((12 : Nat) : Int) := by omega
        refine va_lald hx hb hK hP 22 17 rfl rfl (ti_inx o1 o2) dX11_error_47 ?_
        refine lv_topl (fun y10_ ey10_ => ?_)
        rw [hQ]
        exact W.lret (v := y10_) hx hb hr (fun t ht hW => ⟨⟨y10_, τ6_, rfl, ⟨hτ6_, trivial⟩, wEn_of hP (hK.sub [] rfl) hD ht hW⟩, hS.F ht⟩) hS.2.2 dX11_error_48
      · have tc9_ := (show z.toInt ≠ 0 from ti_ne rfl rg_11 c9_)
        refine lv_aload_n hx hb dX11_error_27 rfl (lv_at hl 0 rfl) ?_
        refine va_get (D := (dC, dI)) (ci := 11) (v := .ref (kA κ 21)) (C := RX11) (T := TX11) (N := 17) hx hb hts hin11 hown hK hP 0 rfl rfl 7 (Nat.le_of_ble_eq_true rfl) (ho (.fieldLink RX11 49 "NearEnough" "shown" "LNearEnough$Shown;") (List.mem_of_getElem? (i := 2) rfl)) (fun _ h9 => h9) rfl dX11_error_28 ?_
        refine va_get (D := (dC, dI)) (ci := 8) (v := .ref (kA κ 23)) (C := RX8) (T := TX8) (N := 9) hx hb hts hin8 hown hK hP 21 rfl rfl 3 (Nat.le_of_ble_eq_true rfl) (ho (.fieldLink RX11 223 "NearEnough$Shown" "high" "[J") (List.mem_of_getElem? (i := 4) rfl)) (fun _ h9 => h9) rfl dX11_error_31 ?_
        refine lv_iload_n hx hb dX11_error_34 rfl (lv_at hl 1 rfl) ?_
        have o3 : 0 ≤ x.toInt := by omega
        have o4 : x.toInt < ((12 : Nat) : Int) := by omega
        refine va_lald hx hb hK hP 23 18 rfl rfl (ti_inx o3 o4) dX11_error_35 ?_
        refine lv_topl (fun y11_ ey11_ => ?_)
        refine lv_goto (tgt := 48) hx hb dX11_error_36 rfl ?_
        rw [hQ]
        exact W.lret (v := y11_) hx hb hr (fun t ht hW => ⟨⟨y11_, τ6_, rfl, ⟨hτ6_, trivial⟩, wEn_of hP (hK.sub [] rfl) hD ht hW⟩, hS.F ht⟩) hS.2.2 dX11_error_48
    · have tc8_ := (show z5_.toInt = 0 from ti_eq rfl rg_11 c8_)
      refine lv_ldc2 (v := (-1000000000000)) hx hb hown (ho (.constantLong RX11 221 (-1000000000000)) (List.mem_of_getElem? (i := 1) rfl)) dX11_error_19 ?_
      rw [hQ]
      exact W.lret (v := (-1000000000000)) hx hb hr (fun t ht hW => ⟨⟨(-1000000000000), τ6_, rfl, ⟨hτ6_, trivial⟩, wEn_of hP (hK.sub [] rfl) hD ht hW⟩, hS.F ht⟩) hS.2.2 dX11_error_22
def ow_k_off : List Cond := [.fieldLink RX11 26 "NearEnough" "told" "LNearEnough$Program;", .constantLong RX11 212 (-1), .fieldLink RX11 49 "NearEnough" "shown" "LNearEnough$Shown;", .fieldLink RX11 230 "NearEnough$Program" "endStep" "[I"]
def vs_k_off : List Cond := .code yX11_off cX11_off 3 (some .long) :: (ow_k_off ++ (([.methodLink RX11 227 yX3_hasEnd, .instanceMethod yX3_hasEnd, .selects RX3 yX3_hasEnd yX3_hasEnd, .initialized RX3] : List Cond) ++ (vs_k_hasEnd ++ (([.methodLink RX11 209 yX11_stands, .instanceMethod yX11_stands, .selects RX11 yX11_stands yX11_stands, .initialized RX11] : List Cond) ++ (vs_k_stands ++ (([.methodLink RX11 233 yX8_farOff, .instanceMethod yX8_farOff, .selects RX8 yX8_farOff yX8_farOff, .initialized RX8] : List Cond) ++ (vs_k_farOff ++ (wsX30 ++ (wsX110)))))))))
theorem vg_k_off : vs_k_off.all goodWord = true := by decide +kernel
theorem dd_k_off : yX11_off.cls = RX11 ∧ yX11_off.cls ≠ "java/lang/invoke/MethodHandle" ∧ yX11_off.cls ≠ "java/lang/invoke/VarHandle" ∧ (parseMethodDescriptor yX11_off.desc).map (fun d => d.parameters.length) = some 2 := by decide +kernel
def rm_k_off : Room := { frames := 6, cells := 0, slots := 0, locals := 143 }
theorem gd_k_off_227_k_hasEnd : GoodIn vs_k_off (wsV RX11 227 RX3 yX3_hasEnd vs_k_hasEnd) := goodIn_app (goodIn_sub (fun w h => (List.mem_cons_of_mem _ (List.mem_append_right _ (List.mem_append_left _ h)))) (by decide +kernel)) (goodIn_sub (fun w h => (List.mem_cons_of_mem _ (List.mem_append_right _ (List.mem_append_right _ (List.mem_append_left _ h))))) vg_k_hasEnd)
theorem gd_k_off_209_k_stands : GoodIn vs_k_off (wsV RX11 209 RX11 yX11_stands vs_k_stands) := goodIn_app (goodIn_sub (fun w h => (List.mem_cons_of_mem _ (List.mem_append_right _ (List.mem_append_right _ (List.mem_append_right _ (List.mem_append_left _ h)))))) (by decide +kernel)) (goodIn_sub (fun w h => (List.mem_cons_of_mem _ (List.mem_append_right _ (List.mem_append_right _ (List.mem_append_right _ (List.mem_append_right _ (List.mem_append_left _ h))))))) vg_k_stands)
theorem gd_k_off_233_k_farOff : GoodIn vs_k_off (wsV RX11 233 RX8 yX8_farOff vs_k_farOff) := goodIn_app (goodIn_sub (fun w h => (List.mem_cons_of_mem _ (List.mem_append_right _ (List.mem_append_right _ (List.mem_append_right _ (List.mem_append_right _ (List.mem_append_right _ (List.mem_append_left _ h)))))))) (by decide +kernel)) (goodIn_sub (fun w h => (List.mem_cons_of_mem _ (List.mem_append_right _ (List.mem_append_right _ (List.mem_append_right _ (List.mem_append_right _ (List.mem_append_right _ (List.mem_append_right _ (List.mem_append_left _ h))))))))) vg_k_farOff)
set_option maxHeartbeats 4000000 in
set_option maxRecDepth 100000 in
theorem k_off (l : Launch) (dC : Nat → ClassId) (dI : Nat → Nat → Nat) (κ : CE) (sz : Nat) (σ : MS) (x : Int32) (y : Int32) (hk : PInv κ) (hI : CInv σ)  : Met l yX11_off vs_k_off rm_k_off (va_Pc [.ref (kA κ 0), .int x, .int y] (wSy dC dI (cW κ σ) (cT κ) sz)) (va_Ql (fun (r : Int64) (τ : MS) => CInv τ ∧ True) (fun (τ : MS) => wEn dC dI (va_A (cW κ σ) sz) (cW κ τ) []) (va_A (cW κ σ) sz)) 0 0 (va_A (cW κ σ) sz) := by
  refine Met.ofW (cc := cX11_off) (maxL := 3) (ret := (some .long)) (by decide +kernel) rfl ?_
  intro p e s m args below meth c s₁ B hml hv
  obtain ⟨rfl, hsz, hP, hK, hD0, hE⟩ := hv
  have hx := B.exec
  have hb := B.bytes
  have hr := B.returns
  have hts := atoms_spec (ws := vs_k_off) B.pre
  have hown : s.vm.findClass RX11 = some m.cls := findClass_of_methodNamed B.named
  have hlocks := B.notSynchronized
  subst hsz
  have hD := hD0.self (sz := s.heap.size)
  generalize hAe : va_A (cW κ σ) s.heap.size = A at hD ⊢
  have hA : ∀ q : Nat, s.heap.size ≤ q → A q := fun q h => by rw [← hAe]; exact Or.inr h
  have hl := lv_entry ([.ref (kA κ 0), .int x, .int y]) (n := 3) (Nat.le_of_ble_eq_true rfl)
  rw [lg_entry_eq]
  generalize (lg_sl ([.ref (kA κ 0), .int x, .int y]) ++ List.replicate (3 - (lg_sl ([.ref (kA κ 0), .int x, .int y])).length) Slot.unset).toArray = ls at hl ⊢
  have hl : lv_has ls 3 [(0, .ref (kA κ 0)), (1, .int x), (2, .int y)] := hl
  have ho := fun w (h : w ∈ ow_k_off) => hts w (List.mem_cons_of_mem _ (List.mem_append_left _ h))
  have hin3 : ∀ w ∈ u_ws RX3 TX3 8, w ∈ vs_k_off := fun w h => (List.mem_cons_of_mem _ (List.mem_append_right _ (List.mem_append_right _ (List.mem_append_right _ (List.mem_append_right _ (List.mem_append_right _ (List.mem_append_right _ (List.mem_append_right _ (List.mem_append_left _ h)))))))))
  have hin11 : ∀ w ∈ u_ws RX11 TX11 17, w ∈ vs_k_off := fun w h => (List.mem_cons_of_mem _ (List.mem_append_right _ (List.mem_append_right _ (List.mem_append_right _ (List.mem_append_right _ (List.mem_append_right _ (List.mem_append_right _ (List.mem_append_right _ (List.mem_append_right _ h)))))))))
  refine zQ (fun Q hQ => ?_)
  refine zH (A := A) (ws := (cW κ σ)) (fun H hP hS => ?_) hP
  have hk0 := hk.1
  have hk1 := hk.2.1
  have hk2 := hk.2.2.1
  refine lv_aload_n hx hb dX11_off_0 rfl (lv_at hl 0 rfl) ?_
  refine va_get (D := (dC, dI)) (ci := 11) (v := .ref (kA κ 6)) (C := RX11) (T := TX11) (N := 17) hx hb hts hin11 hown hK hP 0 rfl rfl 4 (Nat.le_of_ble_eq_true rfl) (ho (.fieldLink RX11 26 "NearEnough" "told" "LNearEnough$Program;") (List.mem_of_getElem? (i := 0) rfl)) (fun _ h9 => h9) rfl dX11_off_1 ?_
  refine lv_iload_n hx hb dX11_off_4 rfl (lv_at hl 1 rfl) ?_
  refine zy_i (va_runV (As := [.int x]) (rest := []) ⟨hx, hb, hml, hown, hts⟩ (k_hasEnd l dC dI κ H.size σ x hk hI ) (cwV 1 hts gd_k_off_227_k_hasEnd rfl rfl rfl dd_k_hasEnd ⟨Nat.le_of_ble_eq_true rfl, Nat.le_of_ble_eq_true rfl⟩) (preVy hP hK hD hE (ci := 3) (q0 := 6) rfl rfl) rfl rfl hl.1 rfl (lv_room (Nat.le_of_ble_eq_true rfl)) dX11_off_5 ⟨Nat.le_of_ble_eq_true rfl, Nat.le_of_ble_eq_true rfl⟩) hD hS hA (fun z1_ τ2_ H locs hq hP hD hS => ?_)
  obtain ⟨hτ2_, q3_⟩ := hq
  rw [hτ2_] at hP hD
  have q3_ : (z1_.toInt = 1 ∧ 0 ≤ x.toInt ∧ x.toInt < (pI κ 2).toInt) ∨ z1_.toInt = 0 := q3_
  refine W.widen (k := 0) (n := 0) (Nat.le_of_ble_eq_true rfl) (Nat.le_of_ble_eq_true rfl) ?_
  refine lv_if_eq (tgt := 19) hx hb dX11_off_8 rfl (fun c4_ => ?_) (fun c4_ => ?_)
  · have tc4_ := (show z1_.toInt = 0 from ti_eq rfl rg_11 c4_)
    refine lv_ldc2 (v := (-1)) hx hb hown (ho (.constantLong RX11 212 (-1)) (List.mem_of_getElem? (i := 1) rfl)) dX11_off_19 ?_
    rw [hQ]
    exact W.lret (v := (-1)) hx hb hr (fun t ht hW => ⟨⟨(-1), σ, rfl, ⟨hI, trivial⟩, wEn_of hP (hK.sub [] rfl) hD ht hW⟩, hS.F ht⟩) hS.2.2 dX11_off_22
  · have tc4_ := (show z1_.toInt ≠ 0 from ti_ne rfl rg_11 c4_)
    refine lv_aload_n hx hb dX11_off_11 rfl (lv_at hl 0 rfl) ?_
    refine lv_iload_n hx hb dX11_off_12 rfl (lv_at hl 2 rfl) ?_
    refine zy_i (va_runV (As := [.int y]) (rest := []) ⟨hx, hb, hml, hown, hts⟩ (k_stands l dC dI κ H.size σ y hk hI ) (cwV 1 hts gd_k_off_209_k_stands rfl rfl rfl dd_k_stands ⟨Nat.le_of_ble_eq_true rfl, Nat.le_of_ble_eq_true rfl⟩) (preVy hP hK hD hE (ci := 11) (q0 := 0) rfl rfl) rfl rfl hl.1 rfl (lv_room (Nat.le_of_ble_eq_true rfl)) dX11_off_13 ⟨Nat.le_of_ble_eq_true rfl, Nat.le_of_ble_eq_true rfl⟩) hD hS hA (fun z5_ τ6_ H locs hq hP hD hS => ?_)
    obtain ⟨hτ6_, q7_⟩ := hq
    have q7_ : z5_.toInt = 0 ∨ z5_.toInt = 1 := q7_
    refine W.widen (k := 0) (n := 0) (Nat.le_of_ble_eq_true rfl) (Nat.le_of_ble_eq_true rfl) ?_
    refine lv_if_ne (tgt := 23) hx hb dX11_off_16 rfl (fun c8_ => ?_) (fun c8_ => ?_)
    · have tc8_ := (show z5_.toInt ≠ 0 from ti_ne rfl rg_11 c8_)
      refine lv_aload_n hx hb dX11_off_23 rfl (lv_at hl 0 rfl) ?_
      refine va_get (D := (dC, dI)) (ci := 11) (v := .ref (kA κ 21)) (C := RX11) (T := TX11) (N := 17) hx hb hts hin11 hown hK hP 0 rfl rfl 7 (Nat.le_of_ble_eq_true rfl) (ho (.fieldLink RX11 49 "NearEnough" "shown" "LNearEnough$Shown;") (List.mem_of_getElem? (i := 2) rfl)) (fun _ h9 => h9) rfl dX11_off_24 ?_
      refine lv_aload_n hx hb dX11_off_27 rfl (lv_at hl 0 rfl) ?_
      refine va_get (D := (dC, dI)) (ci := 11) (v := .ref (kA κ 6)) (C := RX11) (T := TX11) (N := 17) hx hb hts hin11 hown hK hP 0 rfl rfl 4 (Nat.le_of_ble_eq_true rfl) (ho (.fieldLink RX11 26 "NearEnough" "told" "LNearEnough$Program;") (List.mem_of_getElem? (i := 0) rfl)) (fun _ h9 => h9) rfl dX11_off_28 ?_
      refine va_get (D := (dC, dI)) (ci := 3) (v := .ref (kA κ 9)) (C := RX3) (T := TX3) (N := 8) hx hb hts hin3 hown hK hP 6 rfl rfl 2 (Nat.le_of_ble_eq_true rfl) (ho (.fieldLink RX11 230 "NearEnough$Program" "endStep" "[I") (List.mem_of_getElem? (i := 3) rfl)) (fun _ h9 => h9) rfl dX11_off_31 ?_
      refine lv_iload_n hx hb dX11_off_34 rfl (lv_at hl 1 rfl) ?_
      have o1 : 0 ≤ x.toInt := by omega
      have o2 : x.toInt < ((4 : Nat) : Int) := by omega
      refine va_iald hx hb hK hP 9 7 rfl rfl (ti_inx o1 o2) dX11_off_35 ?_
      refine lv_topi (fun z9_ ez9_ => ?_)
      have o3 : x.toInt < (pI κ 2).toInt := by omega
      have bz9_ := hk.en ez9_ o1 o3
      have o4 : 0 ≤ z9_.toInt := by omega
      have o5 : z9_.toInt ≤ 11 := by omega
      refine zy_l (va_runV (As := [.int z9_]) (rest := []) ⟨hx, hb, hml, hown, hts⟩ (k_farOff l dC dI κ H.size τ6_ z9_ hk hτ6_ ⟨o4, o5⟩) (cwV 1 hts gd_k_off_233_k_farOff rfl rfl rfl dd_k_farOff ⟨Nat.le_of_ble_eq_true rfl, Nat.le_of_ble_eq_true rfl⟩) (preVy hP hK hD hE (ci := 8) (q0 := 21) rfl rfl) rfl rfl hl.1 rfl (lv_room (Nat.le_of_ble_eq_true rfl)) dX11_off_36 ⟨Nat.le_of_ble_eq_true rfl, Nat.le_of_ble_eq_true rfl⟩) hD hS hA (fun y10_ τ11_ H locs hq hP hD hS => ?_)
      obtain ⟨hτ11_, q12_⟩ := hq
      rw [hτ11_] at hP hD
      refine W.widen (k := 0) (n := 0) (Nat.le_of_ble_eq_true rfl) (Nat.le_of_ble_eq_true rfl) ?_
      rw [hQ]
      exact W.lret (v := y10_) hx hb hr (fun t ht hW => ⟨⟨y10_, τ6_, rfl, ⟨hτ6_, trivial⟩, wEn_of hP (hK.sub [] rfl) hD ht hW⟩, hS.F ht⟩) hS.2.2 dX11_off_39
    · have tc8_ := (show z5_.toInt = 0 from ti_eq rfl rg_11 c8_)
      refine lv_ldc2 (v := (-1)) hx hb hown (ho (.constantLong RX11 212 (-1)) (List.mem_of_getElem? (i := 1) rfl)) dX11_off_19 ?_
      rw [hQ]
      exact W.lret (v := (-1)) hx hb hr (fun t ht hW => ⟨⟨(-1), τ6_, rfl, ⟨hτ6_, trivial⟩, wEn_of hP (hK.sub [] rfl) hD ht hW⟩, hS.F ht⟩) hS.2.2 dX11_off_22
def ow_k_barred : List Cond := [.fieldLink RX11 40 "NearEnough" "changes" "LNearEnough$Changes;", .fieldLink RX11 49 "NearEnough" "shown" "LNearEnough$Shown;"]
def vs_k_barred : List Cond := .code yX11_barred cX11_barred 2 (some .int) :: (ow_k_barred ++ (([.methodLink RX11 202 yX0_take, .instanceMethod yX0_take, .selects RX0 yX0_take yX0_take, .initialized RX0] : List Cond) ++ (vs_k_take ++ (([.methodLink RX11 205 yX8_show, .instanceMethod yX8_show, .selects RX8 yX8_show yX8_show, .initialized RX8] : List Cond) ++ (vs_k_show ++ (wsX110))))))
theorem vg_k_barred : vs_k_barred.all goodWord = true := by decide +kernel
theorem dd_k_barred : yX11_barred.cls = RX11 ∧ yX11_barred.cls ≠ "java/lang/invoke/MethodHandle" ∧ yX11_barred.cls ≠ "java/lang/invoke/VarHandle" ∧ (parseMethodDescriptor yX11_barred.desc).map (fun d => d.parameters.length) = some 1 := by decide +kernel
def rm_k_barred : Room := { frames := 5, cells := 0, slots := 0, locals := 122 }
theorem gd_k_barred_202_k_take : GoodIn vs_k_barred (wsV RX11 202 RX0 yX0_take vs_k_take) := goodIn_app (goodIn_sub (fun w h => (List.mem_cons_of_mem _ (List.mem_append_right _ (List.mem_append_left _ h)))) (by decide +kernel)) (goodIn_sub (fun w h => (List.mem_cons_of_mem _ (List.mem_append_right _ (List.mem_append_right _ (List.mem_append_left _ h))))) vg_k_take)
theorem gd_k_barred_205_k_show : GoodIn vs_k_barred (wsV RX11 205 RX8 yX8_show vs_k_show) := goodIn_app (goodIn_sub (fun w h => (List.mem_cons_of_mem _ (List.mem_append_right _ (List.mem_append_right _ (List.mem_append_right _ (List.mem_append_left _ h)))))) (by decide +kernel)) (goodIn_sub (fun w h => (List.mem_cons_of_mem _ (List.mem_append_right _ (List.mem_append_right _ (List.mem_append_right _ (List.mem_append_right _ (List.mem_append_left _ h))))))) vg_k_show)
set_option maxHeartbeats 4000000 in
set_option maxRecDepth 100000 in
theorem k_barred (l : Launch) (dC : Nat → ClassId) (dI : Nat → Nat → Nat) (κ : CE) (sz : Nat) (σ : MS) (x : Int32) (hk : PInv κ) (hI : CInv σ)  : Met l yX11_barred vs_k_barred rm_k_barred (va_Pc [.ref (kA κ 0), .int x] (wSy dC dI (cW κ σ) (cT κ) sz)) (va_Qi (fun (r : Int32) (τ : MS) => CInv τ ∧ True) (fun (τ : MS) => wEn dC dI (va_A (cW κ σ) sz) (cW κ τ) []) (va_A (cW κ σ) sz)) 0 0 (va_A (cW κ σ) sz) := by
  refine Met.ofW (cc := cX11_barred) (maxL := 2) (ret := (some .int)) (by decide +kernel) rfl ?_
  intro p e s m args below meth c s₁ B hml hv
  obtain ⟨rfl, hsz, hP, hK, hD0, hE⟩ := hv
  have hx := B.exec
  have hb := B.bytes
  have hr := B.returns
  have hts := atoms_spec (ws := vs_k_barred) B.pre
  have hown : s.vm.findClass RX11 = some m.cls := findClass_of_methodNamed B.named
  have hlocks := B.notSynchronized
  subst hsz
  have hD := hD0.self (sz := s.heap.size)
  generalize hAe : va_A (cW κ σ) s.heap.size = A at hD ⊢
  have hA : ∀ q : Nat, s.heap.size ≤ q → A q := fun q h => by rw [← hAe]; exact Or.inr h
  have hl := lv_entry ([.ref (kA κ 0), .int x]) (n := 2) (Nat.le_of_ble_eq_true rfl)
  rw [lg_entry_eq]
  generalize (lg_sl ([.ref (kA κ 0), .int x]) ++ List.replicate (2 - (lg_sl ([.ref (kA κ 0), .int x])).length) Slot.unset).toArray = ls at hl ⊢
  have hl : lv_has ls 2 [(0, .ref (kA κ 0)), (1, .int x)] := hl
  have ho := fun w (h : w ∈ ow_k_barred) => hts w (List.mem_cons_of_mem _ (List.mem_append_left _ h))
  have hin11 : ∀ w ∈ u_ws RX11 TX11 17, w ∈ vs_k_barred := fun w h => (List.mem_cons_of_mem _ (List.mem_append_right _ (List.mem_append_right _ (List.mem_append_right _ (List.mem_append_right _ (List.mem_append_right _ h))))))
  refine zQ (fun Q hQ => ?_)
  refine zH (A := A) (ws := (cW κ σ)) (fun H hP hS => ?_) hP
  have hk0 := hk.1
  have hk1 := hk.2.1
  have hk2 := hk.2.2.1
  refine lv_aload_n hx hb dX11_barred_0 rfl (lv_at hl 0 rfl) ?_
  refine va_get (D := (dC, dI)) (ci := 11) (v := .ref (kA κ 15)) (C := RX11) (T := TX11) (N := 17) hx hb hts hin11 hown hK hP 0 rfl rfl 6 (Nat.le_of_ble_eq_true rfl) (ho (.fieldLink RX11 40 "NearEnough" "changes" "LNearEnough$Changes;") (List.mem_of_getElem? (i := 0) rfl)) (fun _ h9 => h9) rfl dX11_barred_1 ?_
  refine lv_iload_n hx hb dX11_barred_4 rfl (lv_at hl 1 rfl) ?_
  refine zy_i (va_runV (As := [.int x]) (rest := []) ⟨hx, hb, hml, hown, hts⟩ (k_take l dC dI κ H.size σ x hk hI ) (cwV 1 hts gd_k_barred_202_k_take rfl rfl rfl dd_k_take ⟨Nat.le_of_ble_eq_true rfl, Nat.le_of_ble_eq_true rfl⟩) (preVy hP hK hD hE (ci := 0) (q0 := 15) rfl rfl) rfl rfl hl.1 rfl (lv_room (Nat.le_of_ble_eq_true rfl)) dX11_barred_5 ⟨Nat.le_of_ble_eq_true rfl, Nat.le_of_ble_eq_true rfl⟩) hD hS hA (fun z1_ τ2_ H locs hq hP hD hS => ?_)
  obtain ⟨hτ2_, q3_⟩ := hq
  have q3_ : z1_.toInt = 0 ∨ z1_.toInt = 1 := q3_
  refine W.widen (k := 0) (n := 0) (Nat.le_of_ble_eq_true rfl) (Nat.le_of_ble_eq_true rfl) ?_
  refine lv_if_eq (tgt := 22) hx hb dX11_barred_8 rfl (fun c4_ => ?_) (fun c4_ => ?_)
  · have tc4_ := (show z1_.toInt = 0 from ti_eq rfl rg_11 c4_)
    refine lv_bipush (v := (-2)) hx hb dX11_barred_22 rg_579 ?_
    have kk5_ : ((-2) : Int32).toInt = (-2) := rx_024479cf98
    rw [hQ]
    exact W.iret (v := (-2)) hx hb hr (fun t ht hW => ⟨⟨(-2), τ2_, rfl, ⟨hτ2_, trivial⟩, wEn_of hP (hK.sub [] rfl) hD ht hW⟩, hS.F ht⟩) hS.2.2 dX11_barred_24
  · have tc4_ := (show z1_.toInt ≠ 0 from ti_ne rfl rg_11 c4_)
    refine lv_aload_n hx hb dX11_barred_11 rfl (lv_at hl 0 rfl) ?_
    refine va_get (D := (dC, dI)) (ci := 11) (v := .ref (kA κ 21)) (C := RX11) (T := TX11) (N := 17) hx hb hts hin11 hown hK hP 0 rfl rfl 7 (Nat.le_of_ble_eq_true rfl) (ho (.fieldLink RX11 49 "NearEnough" "shown" "LNearEnough$Shown;") (List.mem_of_getElem? (i := 1) rfl)) (fun _ h9 => h9) rfl dX11_barred_12 ?_
    refine lv_iconst (v := 0) hx hb dX11_barred_15 rg_0 ?_
    have kk6_ : (0 : Int32).toInt = 0 := rg_11
    have o1 : 0 ≤ (0 : Int32).toInt := by omega
    have o2 : (0 : Int32).toInt ≤ 12 := by omega
    refine zy_i (va_runV (As := [.int 0]) (rest := []) ⟨hx, hb, hml, hown, hts⟩ (k_show l dC dI κ H.size τ2_ 0 hk hτ2_ ⟨o1, o2⟩) (cwV 1 hts gd_k_barred_205_k_show rfl rfl rfl dd_k_show ⟨Nat.le_of_ble_eq_true rfl, Nat.le_of_ble_eq_true rfl⟩) (preVy hP hK hD hE (ci := 8) (q0 := 21) rfl rfl) rfl rfl hl.1 rfl (lv_room (Nat.le_of_ble_eq_true rfl)) dX11_barred_16 ⟨Nat.le_of_ble_eq_true rfl, Nat.le_of_ble_eq_true rfl⟩) hD hS hA (fun z7_ τ8_ H locs hq hP hD hS => ?_)
    obtain ⟨hτ8_, q9_⟩ := hq
    have q9_ : (-1) ≤ z7_.toInt ∧ z7_.toInt ≤ 11 := q9_
    refine W.widen (k := 0) (n := 0) (Nat.le_of_ble_eq_true rfl) (Nat.le_of_ble_eq_true rfl) ?_
    refine lv_goto (tgt := 24) hx hb dX11_barred_19 rfl ?_
    rw [hQ]
    exact W.iret (v := z7_) hx hb hr (fun t ht hW => ⟨⟨z7_, τ8_, rfl, ⟨hτ8_, trivial⟩, wEn_of hP (hK.sub [] rfl) hD ht hW⟩, hS.F ht⟩) hS.2.2 dX11_barred_24
