theorem dX12_value_0 : decode cX12_value 0 = .ok (.aload_n 0, 1) := by decide +kernel
theorem dX12_value_1 : decode cX12_value 1 = .ok (.iload_n 1, 1) := by decide +kernel
theorem dX12_value_2 : decode cX12_value 2 = .ok (.invokevirtual 328, 3) := by decide +kernel
theorem dX12_value_5 : decode cX12_value 5 = .ok (.ifCond .eq 25, 3) := by decide +kernel
theorem dX12_value_30 : decode cX12_value 30 = .ok (.ldc2_w 373, 3) := by decide +kernel
theorem dX12_value_33 : decode cX12_value 33 = .ok (.lreturn, 1) := by decide +kernel
theorem dX12_value_8 : decode cX12_value 8 = .ok (.iload_n 2, 1) := by decide +kernel
theorem dX12_value_9 : decode cX12_value 9 = .ok (.iconst 0, 1) := by decide +kernel
theorem dX12_value_10 : decode cX12_value 10 = .ok (.aload_n 0, 1) := by decide +kernel
theorem dX12_value_11 : decode cX12_value 11 = .ok (.getfield 249, 3) := by decide +kernel
theorem dX12_value_14 : decode cX12_value 14 = .ok (.iconst 1, 1) := by decide +kernel
theorem dX12_value_15 : decode cX12_value 15 = .ok (.isub, 1) := by decide +kernel
theorem dX12_value_16 : decode cX12_value 16 = .ok (.invokestatic 324, 3) := by decide +kernel
theorem dX12_value_19 : decode cX12_value 19 = .ok (.ifCond .eq 11, 3) := by decide +kernel
theorem dX12_value_22 : decode cX12_value 22 = .ok (.aload_n 0, 1) := by decide +kernel
theorem dX12_value_23 : decode cX12_value 23 = .ok (.iload_n 3, 1) := by decide +kernel
theorem dX12_value_24 : decode cX12_value 24 = .ok (.invokevirtual 370, 3) := by decide +kernel
theorem dX12_value_27 : decode cX12_value 27 = .ok (.ifCond .ne 7, 3) := by decide +kernel
theorem dX12_value_34 : decode cX12_value 34 = .ok (.aload_n 0, 1) := by decide +kernel
theorem dX12_value_35 : decode cX12_value 35 = .ok (.aload_n 0, 1) := by decide +kernel
theorem dX12_value_36 : decode cX12_value 36 = .ok (.getfield 76, 3) := by decide +kernel
theorem dX12_value_39 : decode cX12_value 39 = .ok (.bipush 12, 2) := by decide +kernel
theorem dX12_value_41 : decode cX12_value 41 = .ok (.iload_n 2, 1) := by decide +kernel
theorem dX12_value_42 : decode cX12_value 42 = .ok (.imul, 1) := by decide +kernel
theorem dX12_value_43 : decode cX12_value 43 = .ok (.invokevirtual 375, 3) := by decide +kernel
theorem dX12_value_46 : decode cX12_value 46 = .ok (.aload_n 0, 1) := by decide +kernel
theorem dX12_value_47 : decode cX12_value 47 = .ok (.getfield 101, 3) := by decide +kernel
theorem dX12_value_50 : decode cX12_value 50 = .ok (.iload_n 1, 1) := by decide +kernel
theorem dX12_value_51 : decode cX12_value 51 = .ok (.laload, 1) := by decide +kernel
theorem dX12_value_52 : decode cX12_value 52 = .ok (.lreturn, 1) := by decide +kernel
theorem dX12_error_0 : decode cX12_error 0 = .ok (.aload_n 0, 1) := by decide +kernel
theorem dX12_error_1 : decode cX12_error 1 = .ok (.iload_n 1, 1) := by decide +kernel
theorem dX12_error_2 : decode cX12_error 2 = .ok (.invokevirtual 328, 3) := by decide +kernel
theorem dX12_error_5 : decode cX12_error 5 = .ok (.ifCond .eq 11, 3) := by decide +kernel
theorem dX12_error_16 : decode cX12_error 16 = .ok (.ldc2_w 429, 3) := by decide +kernel
theorem dX12_error_19 : decode cX12_error 19 = .ok (.lreturn, 1) := by decide +kernel
theorem dX12_error_8 : decode cX12_error 8 = .ok (.aload_n 0, 1) := by decide +kernel
theorem dX12_error_9 : decode cX12_error 9 = .ok (.iload_n 2, 1) := by decide +kernel
theorem dX12_error_10 : decode cX12_error 10 = .ok (.invokevirtual 370, 3) := by decide +kernel
theorem dX12_error_13 : decode cX12_error 13 = .ok (.ifCond .ne 7, 3) := by decide +kernel
theorem dX12_error_20 : decode cX12_error 20 = .ok (.iload_n 3, 1) := by decide +kernel
theorem dX12_error_21 : decode cX12_error 21 = .ok (.ifCond .eq 12, 3) := by decide +kernel
theorem dX12_error_33 : decode cX12_error 33 = .ok (.aload_n 0, 1) := by decide +kernel
theorem dX12_error_34 : decode cX12_error 34 = .ok (.getfield 107, 3) := by decide +kernel
theorem dX12_error_37 : decode cX12_error 37 = .ok (.iload_n 1, 1) := by decide +kernel
theorem dX12_error_38 : decode cX12_error 38 = .ok (.laload, 1) := by decide +kernel
theorem dX12_error_39 : decode cX12_error 39 = .ok (.lreturn, 1) := by decide +kernel
theorem dX12_error_24 : decode cX12_error 24 = .ok (.aload_n 0, 1) := by decide +kernel
theorem dX12_error_25 : decode cX12_error 25 = .ok (.getfield 110, 3) := by decide +kernel
theorem dX12_error_28 : decode cX12_error 28 = .ok (.iload_n 1, 1) := by decide +kernel
theorem dX12_error_29 : decode cX12_error 29 = .ok (.laload, 1) := by decide +kernel
theorem dX12_error_30 : decode cX12_error 30 = .ok (.goto 9, 3) := by decide +kernel
theorem dX12_offOf_0 : decode cX12_offOf 0 = .ok (.aload_n 0, 1) := by decide +kernel
theorem dX12_offOf_1 : decode cX12_offOf 1 = .ok (.getfield 107, 3) := by decide +kernel
theorem dX12_offOf_4 : decode cX12_offOf 4 = .ok (.aload_n 0, 1) := by decide +kernel
theorem dX12_offOf_5 : decode cX12_offOf 5 = .ok (.getfield 54, 3) := by decide +kernel
theorem dX12_offOf_8 : decode cX12_offOf 8 = .ok (.iconst 4, 1) := by decide +kernel
theorem dX12_offOf_9 : decode cX12_offOf 9 = .ok (.aload_n 0, 1) := by decide +kernel
theorem dX12_offOf_10 : decode cX12_offOf 10 = .ok (.getfield 240, 3) := by decide +kernel
theorem dX12_offOf_13 : decode cX12_offOf 13 = .ok (.imul, 1) := by decide +kernel
theorem dX12_offOf_14 : decode cX12_offOf 14 = .ok (.iload_n 1, 1) := by decide +kernel
theorem dX12_offOf_15 : decode cX12_offOf 15 = .ok (.iadd, 1) := by decide +kernel
theorem dX12_offOf_16 : decode cX12_offOf 16 = .ok (.iaload, 1) := by decide +kernel
theorem dX12_offOf_17 : decode cX12_offOf 17 = .ok (.laload, 1) := by decide +kernel
theorem dX12_offOf_18 : decode cX12_offOf 18 = .ok (.lneg, 1) := by decide +kernel
theorem dX12_offOf_19 : decode cX12_offOf 19 = .ok (.aload_n 0, 1) := by decide +kernel
theorem dX12_offOf_20 : decode cX12_offOf 20 = .ok (.getfield 110, 3) := by decide +kernel
theorem dX12_offOf_23 : decode cX12_offOf 23 = .ok (.aload_n 0, 1) := by decide +kernel
theorem dX12_offOf_24 : decode cX12_offOf 24 = .ok (.getfield 54, 3) := by decide +kernel
theorem dX12_offOf_27 : decode cX12_offOf 27 = .ok (.iconst 4, 1) := by decide +kernel
theorem dX12_offOf_28 : decode cX12_offOf 28 = .ok (.aload_n 0, 1) := by decide +kernel
theorem dX12_offOf_29 : decode cX12_offOf 29 = .ok (.getfield 240, 3) := by decide +kernel
theorem dX12_offOf_32 : decode cX12_offOf 32 = .ok (.imul, 1) := by decide +kernel
theorem dX12_offOf_33 : decode cX12_offOf 33 = .ok (.iload_n 1, 1) := by decide +kernel
theorem dX12_offOf_34 : decode cX12_offOf 34 = .ok (.iadd, 1) := by decide +kernel
theorem dX12_offOf_35 : decode cX12_offOf 35 = .ok (.iaload, 1) := by decide +kernel
theorem dX12_offOf_36 : decode cX12_offOf 36 = .ok (.laload, 1) := by decide +kernel
theorem dX12_offOf_37 : decode cX12_offOf 37 = .ok (.invokestatic 318, 3) := by decide +kernel
theorem dX12_offOf_40 : decode cX12_offOf 40 = .ok (.lreturn, 1) := by decide +kernel
theorem dX12_off_0 : decode cX12_off 0 = .ok (.aload_n 0, 1) := by decide +kernel
theorem dX12_off_1 : decode cX12_off 1 = .ok (.iload_n 1, 1) := by decide +kernel
theorem dX12_off_2 : decode cX12_off 2 = .ok (.invokevirtual 431, 3) := by decide +kernel
theorem dX12_off_5 : decode cX12_off 5 = .ok (.ifCond .eq 19, 3) := by decide +kernel
theorem dX12_off_24 : decode cX12_off 24 = .ok (.ldc2_w 373, 3) := by decide +kernel
theorem dX12_off_27 : decode cX12_off 27 = .ok (.lreturn, 1) := by decide +kernel
theorem dX12_off_8 : decode cX12_off 8 = .ok (.aload_n 0, 1) := by decide +kernel
theorem dX12_off_9 : decode cX12_off 9 = .ok (.iload_n 2, 1) := by decide +kernel
theorem dX12_off_10 : decode cX12_off 10 = .ok (.invokevirtual 370, 3) := by decide +kernel
theorem dX12_off_13 : decode cX12_off 13 = .ok (.ifCond .eq 11, 3) := by decide +kernel
theorem dX12_off_16 : decode cX12_off 16 = .ok (.aload_n 0, 1) := by decide +kernel
theorem dX12_off_17 : decode cX12_off 17 = .ok (.iload_n 1, 1) := by decide +kernel
theorem dX12_off_18 : decode cX12_off 18 = .ok (.invokevirtual 434, 3) := by decide +kernel
theorem dX12_off_21 : decode cX12_off 21 = .ok (.goto 6, 3) := by decide +kernel
theorem dX12_barred_0 : decode cX12_barred 0 = .ok (.aload_n 0, 1) := by decide +kernel
theorem dX12_barred_1 : decode cX12_barred 1 = .ok (.iload_n 1, 1) := by decide +kernel
theorem dX12_barred_2 : decode cX12_barred 2 = .ok (.invokevirtual 423, 3) := by decide +kernel
theorem dX12_barred_5 : decode cX12_barred 5 = .ok (.ifCond .eq 10, 3) := by decide +kernel
theorem dX12_barred_15 : decode cX12_barred 15 = .ok (.bipush (-2), 2) := by decide +kernel
theorem dX12_barred_17 : decode cX12_barred 17 = .ok (.ireturn, 1) := by decide +kernel
theorem dX12_barred_8 : decode cX12_barred 8 = .ok (.aload_n 0, 1) := by decide +kernel
theorem dX12_barred_9 : decode cX12_barred 9 = .ok (.invokevirtual 426, 3) := by decide +kernel
theorem dX12_barred_12 : decode cX12_barred 12 = .ok (.goto 5, 3) := by decide +kernel
theorem dX12_saved_0 : decode cX12_saved 0 = .ok (.aload_n 0, 1) := by decide +kernel
theorem dX12_saved_1 : decode cX12_saved 1 = .ok (.iload_n 1, 1) := by decide +kernel
theorem dX12_saved_2 : decode cX12_saved 2 = .ok (.invokevirtual 423, 3) := by decide +kernel
theorem dX12_saved_5 : decode cX12_saved 5 = .ok (.ifCond .eq 11, 3) := by decide +kernel
theorem dX12_saved_16 : decode cX12_saved 16 = .ok (.iconst (-1), 1) := by decide +kernel
theorem dX12_saved_17 : decode cX12_saved 17 = .ok (.ireturn, 1) := by decide +kernel
theorem dX12_saved_8 : decode cX12_saved 8 = .ok (.aload_n 0, 1) := by decide +kernel
theorem dX12_saved_9 : decode cX12_saved 9 = .ok (.iload_n 1, 1) := by decide +kernel
theorem dX12_saved_10 : decode cX12_saved 10 = .ok (.invokevirtual 447, 3) := by decide +kernel
theorem dX12_saved_13 : decode cX12_saved 13 = .ok (.goto 4, 3) := by decide +kernel
theorem dX12_measure_5 : decode cX12_measure 5 = .ok (.iload 4, 2) := by decide +kernel
theorem dX12_measure_7 : decode cX12_measure 7 = .ok (.aload_n 0, 1) := by decide +kernel
theorem dX12_measure_8 : decode cX12_measure 8 = .ok (.getfield 249, 3) := by decide +kernel
theorem dX12_measure_11 : decode cX12_measure 11 = .ok (.if_icmp .ge 31, 3) := by decide +kernel
theorem dX12_measure_42 : decode cX12_measure 42 = .ok (.lload_n 2, 1) := by decide +kernel
theorem dX12_measure_43 : decode cX12_measure 43 = .ok (.lreturn, 1) := by decide +kernel
theorem dX12_measure_14 : decode cX12_measure 14 = .ok (.aload_n 0, 1) := by decide +kernel
theorem dX12_measure_15 : decode cX12_measure 15 = .ok (.getfield 97, 3) := by decide +kernel
theorem dX12_measure_18 : decode cX12_measure 18 = .ok (.iload 4, 2) := by decide +kernel
theorem dX12_measure_20 : decode cX12_measure 20 = .ok (.baload, 1) := by decide +kernel
theorem dX12_measure_21 : decode cX12_measure 21 = .ok (.ifCond .ne 15, 3) := by decide +kernel
theorem dX12_measure_36 : decode cX12_measure 36 = .ok (.iinc 4 1, 3) := by decide +kernel
theorem dX12_measure_39 : decode cX12_measure 39 = .ok (.goto (-34), 3) := by decide +kernel
theorem dX12_measure_24 : decode cX12_measure 24 = .ok (.lload_n 2, 1) := by decide +kernel
theorem dX12_measure_25 : decode cX12_measure 25 = .ok (.aload_n 0, 1) := by decide +kernel
theorem dX12_measure_26 : decode cX12_measure 26 = .ok (.iload_n 1, 1) := by decide +kernel
theorem dX12_measure_27 : decode cX12_measure 27 = .ok (.iload 4, 2) := by decide +kernel
theorem dX12_measure_29 : decode cX12_measure 29 = .ok (.invokevirtual 438, 3) := by decide +kernel
theorem dX12_measure_32 : decode cX12_measure 32 = .ok (.invokestatic 318, 3) := by decide +kernel
theorem dX12_measure_35 : decode cX12_measure 35 = .ok (.lstore_n 2, 1) := by decide +kernel
theorem dX12_measure_0 : decode cX12_measure 0 = .ok (.lconst 0, 1) := by decide +kernel
theorem dX12_measure_1 : decode cX12_measure 1 = .ok (.lstore_n 2, 1) := by decide +kernel
theorem dX12_measure_2 : decode cX12_measure 2 = .ok (.iconst 0, 1) := by decide +kernel
theorem dX12_measure_3 : decode cX12_measure 3 = .ok (.istore 4, 2) := by decide +kernel
theorem dX12_measured_0 : decode cX12_measured 0 = .ok (.aload_n 0, 1) := by decide +kernel
theorem dX12_measured_1 : decode cX12_measured 1 = .ok (.iload_n 1, 1) := by decide +kernel
theorem dX12_measured_2 : decode cX12_measured 2 = .ok (.invokevirtual 431, 3) := by decide +kernel
theorem dX12_measured_5 : decode cX12_measured 5 = .ok (.ifCond .eq 19, 3) := by decide +kernel
theorem dX12_measured_24 : decode cX12_measured 24 = .ok (.ldc2_w 373, 3) := by decide +kernel
theorem dX12_measured_27 : decode cX12_measured 27 = .ok (.lreturn, 1) := by decide +kernel
theorem dX12_measured_8 : decode cX12_measured 8 = .ok (.aload_n 0, 1) := by decide +kernel
theorem dX12_measured_9 : decode cX12_measured 9 = .ok (.iload_n 2, 1) := by decide +kernel
theorem dX12_measured_10 : decode cX12_measured 10 = .ok (.invokevirtual 370, 3) := by decide +kernel
theorem dX12_measured_13 : decode cX12_measured 13 = .ok (.ifCond .eq 11, 3) := by decide +kernel
theorem dX12_measured_16 : decode cX12_measured 16 = .ok (.aload_n 0, 1) := by decide +kernel
theorem dX12_measured_17 : decode cX12_measured 17 = .ok (.iload_n 1, 1) := by decide +kernel
theorem dX12_measured_18 : decode cX12_measured 18 = .ok (.invokevirtual 441, 3) := by decide +kernel
theorem dX12_measured_21 : decode cX12_measured 21 = .ok (.goto 6, 3) := by decide +kernel
theorem rg_568 : ∀ q, q ∈ [37, 43, 44, 45, 46] → q ∈ [37, 41, 42, 43, 44, 45, 46, 32, 47, 48, 49, 54, 55, 56, 57] := by decide
theorem rg_569 : 29 ∉ [37, 43, 44, 45, 46] := by decide
theorem rg_570 : 39 ∉ [37, 43, 44, 45, 46] := by decide
theorem rg_573 : 34 ∉ [37, 43, 44, 45, 46] := by decide
theorem rg_574 : 35 ∉ [37, 43, 44, 45, 46] := by decide
theorem rg_571 : 29 ∉ [37, 41, 42, 43, 44, 45, 46, 32, 47, 48, 49, 54, 55, 56, 57] := by decide
theorem rg_572 : ∀ q, 11 ≤ q → q ≤ 22 → q ∉ [37, 41, 42, 43, 44, 45, 46, 32, 47, 48, 49, 54, 55, 56, 57] := by intro q h1 h2 h; simp at h; omega
theorem rg_575 : ∀ q, q ∈ [42, 41] → q ∈ [37, 41, 42, 43, 44, 45, 46, 32, 47, 48, 49, 54, 55, 56, 57] := by decide
theorem rg_576 : 39 ∉ [42, 41] := by decide
theorem rg_577 : 13 ∉ [37, 41, 42, 43, 44, 45, 46, 32, 47, 48, 49, 54, 55, 56, 57] := by decide
theorem rg_578 : ∀ q, q ∈ [37] → q ∈ [37, 41, 42, 43, 44, 45, 46, 32, 47, 48, 49, 54, 55, 56, 57] := by decide
theorem rg_579 : Int32.ofInt (-2) = (-2) := by decide
theorem rg_580 : ∀ q, q ∈ [43, 44, 45, 46] → q ∈ [37, 41, 42, 43, 44, 45, 46, 32, 47, 48, 49, 54, 55, 56, 57] := by decide
theorem rg_581 : 13 ∉ [42, 41] := by decide
def ow_n_value : List Cond := [.constantLong RX12 373 (-1), .fieldLink RX12 249 "NearEnoughModel" "sheets" "I", .fieldLink RX12 76 "NearEnoughModel" "numbers" "[I", .fieldLink RX12 101 "NearEnoughModel" "came" "[J"]
def vs_n_value : List Cond := .code yX12_value cX12_value 4 (some .long) :: (ow_n_value ++ (([.methodLink RX12 328 yX12_isStep, .instanceMethod yX12_isStep, .selects RX12 yX12_isStep yX12_isStep, .initialized RX12] : List Cond) ++ (vs_n_isStep ++ (([.methodLink RX12 324 yX12_isIn, .static yX12_isIn, .initialized yX12_isIn.cls] : List Cond) ++ (vs_n_isIn ++ (([.methodLink RX12 370 yX12_isOpen, .instanceMethod yX12_isOpen, .selects RX12 yX12_isOpen yX12_isOpen, .initialized RX12] : List Cond) ++ (vs_n_isOpen ++ (([.methodLink RX12 375 yX12_run, .instanceMethod yX12_run, .selects RX12 yX12_run yX12_run, .initialized RX12] : List Cond) ++ (vs_n_run_n ++ (wsX120))))))))))
theorem vg_n_value : vs_n_value.all goodWord = true := by decide +kernel
theorem dd_n_value : yX12_value.cls = RX12 ∧ yX12_value.cls ≠ "java/lang/invoke/MethodHandle" ∧ yX12_value.cls ≠ "java/lang/invoke/VarHandle" ∧ (parseMethodDescriptor yX12_value.desc).map (fun d => d.parameters.length) = some 3 := by decide +kernel
def rm_n_value : Room := { frames := 7, cells := 0, slots := 0, locals := 180 }
theorem gd_n_value_328_n_isStep : GoodIn vs_n_value (wsV RX12 328 RX12 yX12_isStep vs_n_isStep) := goodIn_app (goodIn_sub (fun w h => (List.mem_cons_of_mem _ (List.mem_append_right _ (List.mem_append_left _ h)))) (by decide +kernel)) (goodIn_sub (fun w h => (List.mem_cons_of_mem _ (List.mem_append_right _ (List.mem_append_right _ (List.mem_append_left _ h))))) vg_n_isStep)
theorem gd_n_value_324_n_isIn : GoodIn vs_n_value (va_wsS RX12 324 yX12_isIn vs_n_isIn) := goodIn_app (goodIn_sub (fun w h => (List.mem_cons_of_mem _ (List.mem_append_right _ (List.mem_append_right _ (List.mem_append_right _ (List.mem_append_left _ h)))))) (by decide +kernel)) (goodIn_sub (fun w h => (List.mem_cons_of_mem _ (List.mem_append_right _ (List.mem_append_right _ (List.mem_append_right _ (List.mem_append_right _ (List.mem_append_left _ h))))))) vg_n_isIn)
theorem gd_n_value_370_n_isOpen : GoodIn vs_n_value (wsV RX12 370 RX12 yX12_isOpen vs_n_isOpen) := goodIn_app (goodIn_sub (fun w h => (List.mem_cons_of_mem _ (List.mem_append_right _ (List.mem_append_right _ (List.mem_append_right _ (List.mem_append_right _ (List.mem_append_right _ (List.mem_append_left _ h)))))))) (by decide +kernel)) (goodIn_sub (fun w h => (List.mem_cons_of_mem _ (List.mem_append_right _ (List.mem_append_right _ (List.mem_append_right _ (List.mem_append_right _ (List.mem_append_right _ (List.mem_append_right _ (List.mem_append_left _ h))))))))) vg_n_isOpen)
theorem gd_n_value_375_n_run_n : GoodIn vs_n_value (wsV RX12 375 RX12 yX12_run vs_n_run_n) := goodIn_app (goodIn_sub (fun w h => (List.mem_cons_of_mem _ (List.mem_append_right _ (List.mem_append_right _ (List.mem_append_right _ (List.mem_append_right _ (List.mem_append_right _ (List.mem_append_right _ (List.mem_append_right _ (List.mem_append_left _ h)))))))))) (by decide +kernel)) (goodIn_sub (fun w h => (List.mem_cons_of_mem _ (List.mem_append_right _ (List.mem_append_right _ (List.mem_append_right _ (List.mem_append_right _ (List.mem_append_right _ (List.mem_append_right _ (List.mem_append_right _ (List.mem_append_right _ (List.mem_append_left _ h))))))))))) vg_n_run_n)
set_option maxHeartbeats 4000000 in
set_option maxRecDepth 100000 in
theorem n_value (l : Launch) (dC : Nat → ClassId) (dI : Nat → Nat → Nat) (h : Nat) (ad : Nat → Nat) (cl : Nat → ClassId) (sz : Nat) (σ : MS) (x : Int32) (y : Int32) (z : Int32) (hI : Inv σ) (hR : RelP σ (σ.1 29).toNatClampNeg) (hC : ChR σ) : Met l yX12_value vs_n_value rm_n_value (va_Pc [.ref h, .int x, .int y, .int z] (wSt dC dI (mW h ad cl σ) (mT cl) sz)) (va_Ql (fun (r : Int64) (τ : MS) => Inv τ ∧ eqx [37, 41, 42, 43, 44, 45, 46, 32, 47, 48, 49, 54, 55, 56, 57] τ σ) (fun (τ : MS) => wEn dC dI (va_A (mW h ad cl σ) sz) (mW h ad cl τ) []) (va_A (mW h ad cl σ) sz)) 0 0 (va_A (mW h ad cl σ) sz) := by
  refine Met.ofW (cc := cX12_value) (maxL := 4) (ret := (some .long)) (by decide) rfl ?_
  intro p e s m args below meth c s₁ B hml hv
  obtain ⟨rfl, hsz, hP, hK, hD0, hE⟩ := hv
  have hx := B.exec
  have hb := B.bytes
  have hr := B.returns
  have hts := atoms_spec (ws := vs_n_value) B.pre
  have hown : s.vm.findClass RX12 = some m.cls := findClass_of_methodNamed B.named
  have hlocks := B.notSynchronized
  subst hsz
  have hD := hD0.self (sz := s.heap.size)
  generalize hAe : va_A (mW h ad cl σ) s.heap.size = A at hD ⊢
  have hA : ∀ q : Nat, s.heap.size ≤ q → A q := fun q h => by rw [← hAe]; exact Or.inr h
  have hl := lv_entry ([.ref h, .int x, .int y, .int z]) (n := 4) (Nat.le_of_ble_eq_true rfl)
  rw [lg_entry_eq]
  generalize (lg_sl ([.ref h, .int x, .int y, .int z]) ++ List.replicate (4 - (lg_sl ([.ref h, .int x, .int y, .int z])).length) Slot.unset).toArray = ls at hl ⊢
  have hl : lv_has ls 4 [(0, .ref h), (1, .int x), (2, .int y), (3, .int z)] := hl
  have ho := fun w (h : w ∈ ow_n_value) => hts w (List.mem_cons_of_mem _ (List.mem_append_left _ h))
  have hin12 : ∀ w ∈ u_ws RX12 TX12 59, w ∈ vs_n_value := fun w h => (List.mem_cons_of_mem _ (List.mem_append_right _ (List.mem_append_right _ (List.mem_append_right _ (List.mem_append_right _ (List.mem_append_right _ (List.mem_append_right _ (List.mem_append_right _ (List.mem_append_right _ (List.mem_append_right _ h))))))))))
  refine zQ (fun Q hQ => ?_)
  refine zH (A := A) (ws := mW h ad cl σ) (fun H hP hS => ?_) hP
  have bσ_29 : 0 ≤ (σ.1 29).toInt ∧ (σ.1 29).toInt ≤ 1 := hI.1 29
  have bσ_39 : 0 ≤ (σ.1 39).toInt ∧ (σ.1 39).toInt ≤ 40 := hI.1 39
  refine lv_aload_n hx hb dX12_value_0 rfl (lv_at hl 0 rfl) ?_
  refine lv_iload_n hx hb dX12_value_1 rfl (lv_at hl 1 rfl) ?_
  refine zy_i (va_runV (As := [.int x]) (rest := []) ⟨hx, hb, hml, hown, hts⟩ (n_isStep l dC dI h ad cl H.size σ x hI) (cwV 1 hts gd_n_value_328_n_isStep rfl rfl rfl dd_n_isStep ⟨Nat.le_of_ble_eq_true rfl, Nat.le_of_ble_eq_true rfl⟩) (preV hP hK hD hE (ci := 12) (q0 := 0) rfl rfl) rfl rfl hl.1 rfl (lv_room (Nat.le_of_ble_eq_true rfl)) dX12_value_2 ⟨Nat.le_of_ble_eq_true rfl, Nat.le_of_ble_eq_true rfl⟩) hD hS hA (fun z2_ τ1_ H locs hq hP hD hS => ?_)
  obtain ⟨rfl, f3_⟩ := hq
  refine W.widen (k := 0) (n := 0) (Nat.le_of_ble_eq_true rfl) (Nat.le_of_ble_eq_true rfl) ?_
  refine lv_if_eq (tgt := 30) hx hb dX12_value_5 rfl (fun c4_ => ?_) (fun c4_ => ?_)
  · have tc4_ := (show z2_.toInt = 0 from ti_eq rfl rg_11 c4_)
    refine lv_ldc2 (v := (-1)) hx hb hown (ho (.constantLong RX12 373 (-1)) (List.mem_of_getElem? (i := 0) rfl)) dX12_value_30 ?_
    rw [hQ]
    exact W.lret (v := (-1)) hx hb hr (fun t ht hW => ⟨⟨(-1), σ, rfl, ⟨hI, eqx.rf⟩, wEn_of hP (hK.sub [] rfl) hD ht hW⟩, hS.F ht⟩) hS.2.2 dX12_value_33
  · have tc4_ := (show z2_.toInt ≠ 0 from ti_ne rfl rg_11 c4_)
    refine lv_iload_n hx hb dX12_value_8 rfl (lv_at hl 2 rfl) ?_
    refine lv_iconst (v := 0) hx hb dX12_value_9 rg_0 ?_
    refine lv_aload_n hx hb dX12_value_10 rfl (lv_at hl 0 rfl) ?_
    refine va_get (D := (dC, dI)) (ci := 12) (v := .int (σ.1 39)) (C := RX12) (T := TX12) (N := 59) hx hb hts hin12 hown hK hP 0 rfl rfl 39 (Nat.le_of_ble_eq_true rfl) (ho (.fieldLink RX12 249 "NearEnoughModel" "sheets" "I") (List.mem_of_getElem? (i := 1) rfl)) (fun _ h9 => h9) rfl dX12_value_11 ?_
    have bσ_39 : 0 ≤ (σ.1 39).toInt ∧ (σ.1 39).toInt ≤ 40 := hI.1 39
    refine lv_iconst (v := 1) hx hb dX12_value_14 rg_6 ?_
    refine lv_isub hx hb dX12_value_15 ?_
    refine lv_topi (fun z5_ ez5_ => ?_)
    have o1 : -2147483648 ≤ (σ.1 39).toInt - 1 := by omega
    have o2 : (σ.1 39).toInt - 1 ≤ 2147483647 := by omega
    have tz5_ : z5_.toInt = (σ.1 39).toInt - 1 := ti_sub ez5_ rfl rg_18 o1 o2
    have kk6_ : (0 : Int32).toInt = 0 := rg_11
    refine zs_i (va_runS (As := [.int y, .int 0, .int z5_]) (rest := []) ⟨hx, hb, hml, hown, hts⟩ (n_isIn l dC dI y 0 z5_  H.size) (va_cwS 3 hts gd_n_value_324_n_isIn rfl rfl rfl dd_n_isIn ⟨Nat.le_of_ble_eq_true rfl, Nat.le_of_ble_eq_true rfl⟩) (preS (A := A) empP (hK.sub (tys' := []) [] rfl) empD hE) rfl rfl hl.1 rfl (lv_room (Nat.le_of_ble_eq_true rfl)) dX12_value_16 ⟨Nat.le_of_ble_eq_true rfl, Nat.le_of_ble_eq_true rfl⟩) hP hD hS hA (fun z7_ H locs hq hP hD hS => ?_)
    have f8_ := hq
    refine W.widen (k := 0) (n := 0) (Nat.le_of_ble_eq_true rfl) (Nat.le_of_ble_eq_true rfl) ?_
    refine lv_if_eq (tgt := 30) hx hb dX12_value_19 rfl (fun c9_ => ?_) (fun c9_ => ?_)
    · have tc9_ := (show z7_.toInt = 0 from ti_eq rfl rg_11 c9_)
      refine lv_ldc2 (v := (-1)) hx hb hown (ho (.constantLong RX12 373 (-1)) (List.mem_of_getElem? (i := 0) rfl)) dX12_value_30 ?_
      rw [hQ]
      exact W.lret (v := (-1)) hx hb hr (fun t ht hW => ⟨⟨(-1), σ, rfl, ⟨hI, eqx.rf⟩, wEn_of hP (hK.sub [] rfl) hD ht hW⟩, hS.F ht⟩) hS.2.2 dX12_value_33
    · have tc9_ := (show z7_.toInt ≠ 0 from ti_ne rfl rg_11 c9_)
      refine lv_aload_n hx hb dX12_value_22 rfl (lv_at hl 0 rfl) ?_
      refine lv_iload_n hx hb dX12_value_23 rfl (lv_at hl 3 rfl) ?_
      refine zy_i (va_runV (As := [.int z]) (rest := []) ⟨hx, hb, hml, hown, hts⟩ (n_isOpen l dC dI h ad cl H.size σ z hI hR hC) (cwV 1 hts gd_n_value_370_n_isOpen rfl rfl rfl dd_n_isOpen ⟨Nat.le_of_ble_eq_true rfl, Nat.le_of_ble_eq_true rfl⟩) (preV hP hK hD hE (ci := 12) (q0 := 0) rfl rfl) rfl rfl hl.1 rfl (lv_room (Nat.le_of_ble_eq_true rfl)) dX12_value_24 ⟨Nat.le_of_ble_eq_true rfl, Nat.le_of_ble_eq_true rfl⟩) hD hS hA (fun z11_ τ10_ H locs hq hP hD hS => ?_)
      obtain ⟨hI12_, hx13_, f14_⟩ := hq
      have Xτ10_ : eqx [37, 41, 42, 43, 44, 45, 46, 32, 47, 48, 49, 54, 55, 56, 57] τ10_ σ := eqx.tr hx13_ eqx.rf rg_568
      have qq15_ : (τ10_.1 29).toInt = ((σ.1 29) : Int32).toInt := congrArg Int32.toInt ((show τ10_.1 29 = (σ.1 29) from ((hx13_ 29 rg_569).1).trans rfl))
      have qq16_ : (τ10_.1 39).toInt = ((σ.1 39) : Int32).toInt := congrArg Int32.toInt ((show τ10_.1 39 = (σ.1 39) from ((hx13_ 39 rg_570).1).trans rfl))
      refine W.widen (k := 0) (n := 0) (Nat.le_of_ble_eq_true rfl) (Nat.le_of_ble_eq_true rfl) ?_
      refine lv_if_ne (tgt := 34) hx hb dX12_value_27 rfl (fun c17_ => ?_) (fun c17_ => ?_)
      · have tc17_ := (show z11_.toInt ≠ 0 from ti_ne rfl rg_11 c17_)
        refine lv_aload_n hx hb dX12_value_34 rfl (lv_at hl 0 rfl) ?_
        refine lv_aload_n hx hb dX12_value_35 rfl (lv_at hl 0 rfl) ?_
        refine va_get (D := (dC, dI)) (ci := 12) (v := .ref (ad 31)) (C := RX12) (T := TX12) (N := 59) hx hb hts hin12 hown hK hP 0 rfl rfl 31 (Nat.le_of_ble_eq_true rfl) (ho (.fieldLink RX12 76 "NearEnoughModel" "numbers" "[I") (List.mem_of_getElem? (i := 2) rfl)) (fun _ h9 => h9) rfl dX12_value_36 ?_
        refine lv_bipush (v := 12) hx hb dX12_value_39 rg_57 ?_
        refine lv_iload_n hx hb dX12_value_41 rfl (lv_at hl 2 rfl) ?_
        refine lv_imul hx hb dX12_value_42 ?_
        refine lv_topi (fun z18_ ez18_ => ?_)
        have o3 : -2147483648 ≤ 12 * y.toInt := by omega
        have o4 : 12 * y.toInt ≤ 2147483647 := by omega
        have tz18_ : z18_.toInt = 12 * y.toInt := ti_mul ez18_ rg_58 rfl o3 o4
        have o5 : 0 ≤ z18_.toInt := by omega
        have o6 : z18_.toInt ≤ 468 := by omega
        have o7 : ¬ z11_.toInt = 0 := by omega
        have POK19_ : Opn σ z (τ10_.2.1 37) (τ10_.2.2.1 43) (τ10_.2.2.1 44) := by rcases f14_ with q | q; exact q.2; exact absurd q.1 o7
        have OK19_ : OnOk τ10_ := OnR.ok hI hC hx13_ rg_573 rg_574 POK19_.1
        have o8 : z18_.toInt = 0 ∨ 12 ≤ z18_.toInt := by omega
        refine zy_v (va_runV (As := [.ref (ad 31), .int z18_]) (rest := []) ⟨hx, hb, hml, hown, hts⟩ (n_run_n l dC dI h ad cl H.size τ10_ z18_ hI12_ ⟨o5, o6⟩ (show z18_.toInt = 0 ∨ 12 ≤ z18_.toInt from o8) (RelP.x hR Xτ10_ rg_571 rg_572) OK19_) (cwV 2 hts gd_n_value_375_n_run_n rfl rfl rfl dd_n_run_n ⟨Nat.le_of_ble_eq_true rfl, Nat.le_of_ble_eq_true rfl⟩) (preV hP hK hD hE (ci := 12) (q0 := 0) rfl rfl) rfl rfl hl.1 rfl (lv_room (Nat.le_of_ble_eq_true rfl)) dX12_value_43 ⟨Nat.le_of_ble_eq_true rfl, Nat.le_of_ble_eq_true rfl⟩) hD hS hA (fun τ20_ H locs hq hP hD hS => ?_)
        obtain ⟨hI22_, hx23_, f24_, f25_⟩ := hq
        have Xτ20_ : eqx [37, 41, 42, 43, 44, 45, 46, 32, 47, 48, 49, 54, 55, 56, 57] τ20_ σ := eqx.tr hx23_ Xτ10_ rg_575
        have qq26_ : (τ20_.1 29).toInt = ((σ.1 29) : Int32).toInt := congrArg Int32.toInt ((show τ20_.1 29 = (σ.1 29) from ((hx23_ 29 rg_483).1).trans (show τ10_.1 29 = (σ.1 29) from ((hx13_ 29 rg_569).1).trans rfl)))
        have qq27_ : (τ20_.1 39).toInt = ((σ.1 39) : Int32).toInt := congrArg Int32.toInt ((show τ20_.1 39 = (σ.1 39) from ((hx23_ 39 rg_576).1).trans (show τ10_.1 39 = (σ.1 39) from ((hx13_ 39 rg_570).1).trans rfl)))
        refine W.widen (k := 0) (n := 0) (Nat.le_of_ble_eq_true rfl) (Nat.le_of_ble_eq_true rfl) ?_
        refine lv_aload_n hx hb dX12_value_46 rfl (lv_at hl 0 rfl) ?_
        refine va_get (D := (dC, dI)) (ci := 12) (v := .ref (ad 41)) (C := RX12) (T := TX12) (N := 59) hx hb hts hin12 hown hK hP 0 rfl rfl 41 (Nat.le_of_ble_eq_true rfl) (ho (.fieldLink RX12 101 "NearEnoughModel" "came" "[J") (List.mem_of_getElem? (i := 3) rfl)) (fun _ h9 => h9) rfl dX12_value_47 ?_
        refine lv_iload_n hx hb dX12_value_50 rfl (lv_at hl 1 rfl) ?_
        have o9 : 0 ≤ x.toInt := by omega
        have o10 : x.toInt < ((12 : Nat) : Int) := by omega
        refine va_lald hx hb hK hP 29 28 rfl rfl (ti_inx o9 o10) dX12_value_51 ?_
        refine lv_topl (fun y28_ ey28_ => ?_)
        rw [hQ]
        exact W.lret (v := y28_) hx hb hr (fun t ht hW => ⟨⟨y28_, τ20_, rfl, ⟨hI22_, Xτ20_⟩, wEn_of hP (hK.sub [] rfl) hD ht hW⟩, hS.F ht⟩) hS.2.2 dX12_value_52
      · have tc17_ := (show z11_.toInt = 0 from ti_eq rfl rg_11 c17_)
        refine lv_ldc2 (v := (-1)) hx hb hown (ho (.constantLong RX12 373 (-1)) (List.mem_of_getElem? (i := 0) rfl)) dX12_value_30 ?_
        rw [hQ]
        exact W.lret (v := (-1)) hx hb hr (fun t ht hW => ⟨⟨(-1), τ10_, rfl, ⟨hI12_, Xτ10_⟩, wEn_of hP (hK.sub [] rfl) hD ht hW⟩, hS.F ht⟩) hS.2.2 dX12_value_33
def ow_n_error : List Cond := [.constantLong RX12 429 (-1000000000000), .fieldLink RX12 107 "NearEnoughModel" "low" "[J", .fieldLink RX12 110 "NearEnoughModel" "high0" "[J"]
def vs_n_error : List Cond := .code yX12_error cX12_error 4 (some .long) :: (ow_n_error ++ (([.methodLink RX12 328 yX12_isStep, .instanceMethod yX12_isStep, .selects RX12 yX12_isStep yX12_isStep, .initialized RX12] : List Cond) ++ (vs_n_isStep ++ (([.methodLink RX12 370 yX12_isOpen, .instanceMethod yX12_isOpen, .selects RX12 yX12_isOpen yX12_isOpen, .initialized RX12] : List Cond) ++ (vs_n_isOpen ++ (wsX120))))))
theorem vg_n_error : vs_n_error.all goodWord = true := by decide +kernel
theorem dd_n_error : yX12_error.cls = RX12 ∧ yX12_error.cls ≠ "java/lang/invoke/MethodHandle" ∧ yX12_error.cls ≠ "java/lang/invoke/VarHandle" ∧ (parseMethodDescriptor yX12_error.desc).map (fun d => d.parameters.length) = some 3 := by decide +kernel
def rm_n_error : Room := { frames := 7, cells := 0, slots := 0, locals := 180 }
theorem gd_n_error_328_n_isStep : GoodIn vs_n_error (wsV RX12 328 RX12 yX12_isStep vs_n_isStep) := goodIn_app (goodIn_sub (fun w h => (List.mem_cons_of_mem _ (List.mem_append_right _ (List.mem_append_left _ h)))) (by decide +kernel)) (goodIn_sub (fun w h => (List.mem_cons_of_mem _ (List.mem_append_right _ (List.mem_append_right _ (List.mem_append_left _ h))))) vg_n_isStep)
theorem gd_n_error_370_n_isOpen : GoodIn vs_n_error (wsV RX12 370 RX12 yX12_isOpen vs_n_isOpen) := goodIn_app (goodIn_sub (fun w h => (List.mem_cons_of_mem _ (List.mem_append_right _ (List.mem_append_right _ (List.mem_append_right _ (List.mem_append_left _ h)))))) (by decide +kernel)) (goodIn_sub (fun w h => (List.mem_cons_of_mem _ (List.mem_append_right _ (List.mem_append_right _ (List.mem_append_right _ (List.mem_append_right _ (List.mem_append_left _ h))))))) vg_n_isOpen)
set_option maxHeartbeats 4000000 in
set_option maxRecDepth 100000 in
theorem n_error (l : Launch) (dC : Nat → ClassId) (dI : Nat → Nat → Nat) (h : Nat) (ad : Nat → Nat) (cl : Nat → ClassId) (sz : Nat) (σ : MS) (x : Int32) (y : Int32) (z : Int32) (hI : Inv σ) (hR : RelP σ (σ.1 29).toNatClampNeg) (hC : ChR σ) : Met l yX12_error vs_n_error rm_n_error (va_Pc [.ref h, .int x, .int y, .int z] (wSt dC dI (mW h ad cl σ) (mT cl) sz)) (va_Ql (fun (r : Int64) (τ : MS) => Inv τ ∧ eqx [37, 41, 42, 43, 44, 45, 46, 32, 47, 48, 49, 54, 55, 56, 57] τ σ) (fun (τ : MS) => wEn dC dI (va_A (mW h ad cl σ) sz) (mW h ad cl τ) []) (va_A (mW h ad cl σ) sz)) 0 0 (va_A (mW h ad cl σ) sz) := by
  refine Met.ofW (cc := cX12_error) (maxL := 4) (ret := (some .long)) (by decide) rfl ?_
  intro p e s m args below meth c s₁ B hml hv
  obtain ⟨rfl, hsz, hP, hK, hD0, hE⟩ := hv
  have hx := B.exec
  have hb := B.bytes
  have hr := B.returns
  have hts := atoms_spec (ws := vs_n_error) B.pre
  have hown : s.vm.findClass RX12 = some m.cls := findClass_of_methodNamed B.named
  have hlocks := B.notSynchronized
  subst hsz
  have hD := hD0.self (sz := s.heap.size)
  generalize hAe : va_A (mW h ad cl σ) s.heap.size = A at hD ⊢
  have hA : ∀ q : Nat, s.heap.size ≤ q → A q := fun q h => by rw [← hAe]; exact Or.inr h
  have hl := lv_entry ([.ref h, .int x, .int y, .int z]) (n := 4) (Nat.le_of_ble_eq_true rfl)
  rw [lg_entry_eq]
  generalize (lg_sl ([.ref h, .int x, .int y, .int z]) ++ List.replicate (4 - (lg_sl ([.ref h, .int x, .int y, .int z])).length) Slot.unset).toArray = ls at hl ⊢
  have hl : lv_has ls 4 [(0, .ref h), (1, .int x), (2, .int y), (3, .int z)] := hl
  have ho := fun w (h : w ∈ ow_n_error) => hts w (List.mem_cons_of_mem _ (List.mem_append_left _ h))
  have hin12 : ∀ w ∈ u_ws RX12 TX12 59, w ∈ vs_n_error := fun w h => (List.mem_cons_of_mem _ (List.mem_append_right _ (List.mem_append_right _ (List.mem_append_right _ (List.mem_append_right _ (List.mem_append_right _ h))))))
  refine zQ (fun Q hQ => ?_)
  refine zH (A := A) (ws := mW h ad cl σ) (fun H hP hS => ?_) hP
  have bσ_29 : 0 ≤ (σ.1 29).toInt ∧ (σ.1 29).toInt ≤ 1 := hI.1 29
  refine lv_aload_n hx hb dX12_error_0 rfl (lv_at hl 0 rfl) ?_
  refine lv_iload_n hx hb dX12_error_1 rfl (lv_at hl 1 rfl) ?_
  refine zy_i (va_runV (As := [.int x]) (rest := []) ⟨hx, hb, hml, hown, hts⟩ (n_isStep l dC dI h ad cl H.size σ x hI) (cwV 1 hts gd_n_error_328_n_isStep rfl rfl rfl dd_n_isStep ⟨Nat.le_of_ble_eq_true rfl, Nat.le_of_ble_eq_true rfl⟩) (preV hP hK hD hE (ci := 12) (q0 := 0) rfl rfl) rfl rfl hl.1 rfl (lv_room (Nat.le_of_ble_eq_true rfl)) dX12_error_2 ⟨Nat.le_of_ble_eq_true rfl, Nat.le_of_ble_eq_true rfl⟩) hD hS hA (fun z2_ τ1_ H locs hq hP hD hS => ?_)
  obtain ⟨rfl, f3_⟩ := hq
  refine W.widen (k := 0) (n := 0) (Nat.le_of_ble_eq_true rfl) (Nat.le_of_ble_eq_true rfl) ?_
  refine lv_if_eq (tgt := 16) hx hb dX12_error_5 rfl (fun c4_ => ?_) (fun c4_ => ?_)
  · have tc4_ := (show z2_.toInt = 0 from ti_eq rfl rg_11 c4_)
    refine lv_ldc2 (v := (-1000000000000)) hx hb hown (ho (.constantLong RX12 429 (-1000000000000)) (List.mem_of_getElem? (i := 0) rfl)) dX12_error_16 ?_
    rw [hQ]
    exact W.lret (v := (-1000000000000)) hx hb hr (fun t ht hW => ⟨⟨(-1000000000000), σ, rfl, ⟨hI, eqx.rf⟩, wEn_of hP (hK.sub [] rfl) hD ht hW⟩, hS.F ht⟩) hS.2.2 dX12_error_19
  · have tc4_ := (show z2_.toInt ≠ 0 from ti_ne rfl rg_11 c4_)
    refine lv_aload_n hx hb dX12_error_8 rfl (lv_at hl 0 rfl) ?_
    refine lv_iload_n hx hb dX12_error_9 rfl (lv_at hl 2 rfl) ?_
    refine zy_i (va_runV (As := [.int y]) (rest := []) ⟨hx, hb, hml, hown, hts⟩ (n_isOpen l dC dI h ad cl H.size σ y hI hR hC) (cwV 1 hts gd_n_error_370_n_isOpen rfl rfl rfl dd_n_isOpen ⟨Nat.le_of_ble_eq_true rfl, Nat.le_of_ble_eq_true rfl⟩) (preV hP hK hD hE (ci := 12) (q0 := 0) rfl rfl) rfl rfl hl.1 rfl (lv_room (Nat.le_of_ble_eq_true rfl)) dX12_error_10 ⟨Nat.le_of_ble_eq_true rfl, Nat.le_of_ble_eq_true rfl⟩) hD hS hA (fun z6_ τ5_ H locs hq hP hD hS => ?_)
    obtain ⟨hI7_, hx8_, f9_⟩ := hq
    have Xτ5_ : eqx [37, 41, 42, 43, 44, 45, 46, 32, 47, 48, 49, 54, 55, 56, 57] τ5_ σ := eqx.tr hx8_ eqx.rf rg_568
    have qq10_ : (τ5_.1 29).toInt = ((σ.1 29) : Int32).toInt := congrArg Int32.toInt ((show τ5_.1 29 = (σ.1 29) from ((hx8_ 29 rg_569).1).trans rfl))
    refine W.widen (k := 0) (n := 0) (Nat.le_of_ble_eq_true rfl) (Nat.le_of_ble_eq_true rfl) ?_
    refine lv_if_ne (tgt := 20) hx hb dX12_error_13 rfl (fun c11_ => ?_) (fun c11_ => ?_)
    · have tc11_ := (show z6_.toInt ≠ 0 from ti_ne rfl rg_11 c11_)
      refine lv_iload_n hx hb dX12_error_20 rfl (lv_at hl 3 rfl) ?_
      refine lv_if_eq (tgt := 33) hx hb dX12_error_21 rfl (fun c12_ => ?_) (fun c12_ => ?_)
      · have tc12_ := (show z.toInt = 0 from ti_eq rfl rg_11 c12_)
        refine lv_aload_n hx hb dX12_error_33 rfl (lv_at hl 0 rfl) ?_
        refine va_get (D := (dC, dI)) (ci := 12) (v := .ref (ad 43)) (C := RX12) (T := TX12) (N := 59) hx hb hts hin12 hown hK hP 0 rfl rfl 43 (Nat.le_of_ble_eq_true rfl) (ho (.fieldLink RX12 107 "NearEnoughModel" "low" "[J") (List.mem_of_getElem? (i := 1) rfl)) (fun _ h9 => h9) rfl dX12_error_34 ?_
        refine lv_iload_n hx hb dX12_error_37 rfl (lv_at hl 1 rfl) ?_
        have o1 : 0 ≤ x.toInt := by omega
        have o2 : x.toInt < ((12 : Nat) : Int) := by omega
        refine va_lald hx hb hK hP 31 30 rfl rfl (ti_inx o1 o2) dX12_error_38 ?_
        refine lv_topl (fun y13_ ey13_ => ?_)
        rw [hQ]
        exact W.lret (v := y13_) hx hb hr (fun t ht hW => ⟨⟨y13_, τ5_, rfl, ⟨hI7_, Xτ5_⟩, wEn_of hP (hK.sub [] rfl) hD ht hW⟩, hS.F ht⟩) hS.2.2 dX12_error_39
      · have tc12_ := (show z.toInt ≠ 0 from ti_ne rfl rg_11 c12_)
        refine lv_aload_n hx hb dX12_error_24 rfl (lv_at hl 0 rfl) ?_
        refine va_get (D := (dC, dI)) (ci := 12) (v := .ref (ad 44)) (C := RX12) (T := TX12) (N := 59) hx hb hts hin12 hown hK hP 0 rfl rfl 44 (Nat.le_of_ble_eq_true rfl) (ho (.fieldLink RX12 110 "NearEnoughModel" "high0" "[J") (List.mem_of_getElem? (i := 2) rfl)) (fun _ h9 => h9) rfl dX12_error_25 ?_
        refine lv_iload_n hx hb dX12_error_28 rfl (lv_at hl 1 rfl) ?_
        have o3 : 0 ≤ x.toInt := by omega
        have o4 : x.toInt < ((12 : Nat) : Int) := by omega
        refine va_lald hx hb hK hP 32 31 rfl rfl (ti_inx o3 o4) dX12_error_29 ?_
        refine lv_topl (fun y14_ ey14_ => ?_)
        refine lv_goto (tgt := 39) hx hb dX12_error_30 rfl ?_
        rw [hQ]
        exact W.lret (v := y14_) hx hb hr (fun t ht hW => ⟨⟨y14_, τ5_, rfl, ⟨hI7_, Xτ5_⟩, wEn_of hP (hK.sub [] rfl) hD ht hW⟩, hS.F ht⟩) hS.2.2 dX12_error_39
    · have tc11_ := (show z6_.toInt = 0 from ti_eq rfl rg_11 c11_)
      refine lv_ldc2 (v := (-1000000000000)) hx hb hown (ho (.constantLong RX12 429 (-1000000000000)) (List.mem_of_getElem? (i := 0) rfl)) dX12_error_16 ?_
      rw [hQ]
      exact W.lret (v := (-1000000000000)) hx hb hr (fun t ht hW => ⟨⟨(-1000000000000), τ5_, rfl, ⟨hI7_, Xτ5_⟩, wEn_of hP (hK.sub [] rfl) hD ht hW⟩, hS.F ht⟩) hS.2.2 dX12_error_19
def ow_n_offOf : List Cond := [.fieldLink RX12 107 "NearEnoughModel" "low" "[J", .fieldLink RX12 54 "NearEnoughModel" "eStep" "[I", .fieldLink RX12 240 "NearEnoughModel" "bank" "I", .fieldLink RX12 110 "NearEnoughModel" "high0" "[J"]
def vs_n_offOf : List Cond := .code yX12_offOf cX12_offOf 2 (some .long) :: (ow_n_offOf ++ (([.methodLink RX12 318 yX12_greater, .static yX12_greater, .initialized yX12_greater.cls] : List Cond) ++ (vs_n_greaterV ++ (wsX120))))
theorem vg_n_offOf : vs_n_offOf.all goodWord = true := by decide +kernel
theorem dd_n_offOf : yX12_offOf.cls = RX12 ∧ yX12_offOf.cls ≠ "java/lang/invoke/MethodHandle" ∧ yX12_offOf.cls ≠ "java/lang/invoke/VarHandle" ∧ (parseMethodDescriptor yX12_offOf.desc).map (fun d => d.parameters.length) = some 1 := by decide +kernel
def rm_n_offOf : Room := { frames := 1, cells := 0, slots := 0, locals := 23 }
theorem gd_n_offOf_318_n_greaterV : GoodIn vs_n_offOf (va_wsS RX12 318 yX12_greater vs_n_greaterV) := goodIn_app (goodIn_sub (fun w h => (List.mem_cons_of_mem _ (List.mem_append_right _ (List.mem_append_left _ h)))) (by decide +kernel)) (goodIn_sub (fun w h => (List.mem_cons_of_mem _ (List.mem_append_right _ (List.mem_append_right _ (List.mem_append_left _ h))))) vg_n_greaterV)
set_option maxHeartbeats 4000000 in
set_option maxRecDepth 100000 in
theorem n_offOf (l : Launch) (dC : Nat → ClassId) (dI : Nat → Nat → Nat) (h : Nat) (ad : Nat → Nat) (cl : Nat → ClassId) (sz : Nat) (σ : MS) (x : Int32) (hI : Inv σ) (hR : RelP σ (σ.1 29).toNatClampNeg) (he : EndOk σ x) : Met l yX12_offOf vs_n_offOf rm_n_offOf (va_Pc [.ref h, .int x] (wSt dC dI (mW h ad cl σ) (mT cl) sz)) (va_Ql (fun (r : Int64) (τ : MS) => σ = τ) (fun (τ : MS) => wEn dC dI (va_A (mW h ad cl σ) sz) (mW h ad cl τ) []) (va_A (mW h ad cl σ) sz)) 0 0 (va_A (mW h ad cl σ) sz) := by
  refine Met.ofW (cc := cX12_offOf) (maxL := 2) (ret := (some .long)) (by decide) rfl ?_
  intro p e s m args below meth c s₁ B hml hv
  obtain ⟨rfl, hsz, hP, hK, hD0, hE⟩ := hv
  have hx := B.exec
  have hb := B.bytes
  have hr := B.returns
  have hts := atoms_spec (ws := vs_n_offOf) B.pre
  have hown : s.vm.findClass RX12 = some m.cls := findClass_of_methodNamed B.named
  have hlocks := B.notSynchronized
  subst hsz
  have hD := hD0.self (sz := s.heap.size)
  generalize hAe : va_A (mW h ad cl σ) s.heap.size = A at hD ⊢
  have hA : ∀ q : Nat, s.heap.size ≤ q → A q := fun q h => by rw [← hAe]; exact Or.inr h
  have hl := lv_entry ([.ref h, .int x]) (n := 2) (Nat.le_of_ble_eq_true rfl)
  rw [lg_entry_eq]
  generalize (lg_sl ([.ref h, .int x]) ++ List.replicate (2 - (lg_sl ([.ref h, .int x])).length) Slot.unset).toArray = ls at hl ⊢
  have hl : lv_has ls 2 [(0, .ref h), (1, .int x)] := hl
  have ho := fun w (h : w ∈ ow_n_offOf) => hts w (List.mem_cons_of_mem _ (List.mem_append_left _ h))
  have hin12 : ∀ w ∈ u_ws RX12 TX12 59, w ∈ vs_n_offOf := fun w h => (List.mem_cons_of_mem _ (List.mem_append_right _ (List.mem_append_right _ (List.mem_append_right _ h))))
  refine zQ (fun Q hQ => ?_)
  have he0 := he
  unfold EndOk at he0
  refine zH (A := A) (ws := mW h ad cl σ) (fun H hP hS => ?_) hP
  have bσ_29 : 0 ≤ (σ.1 29).toInt ∧ (σ.1 29).toInt ≤ 1 := hI.1 29
  refine lv_aload_n hx hb dX12_offOf_0 rfl (lv_at hl 0 rfl) ?_
  refine va_get (D := (dC, dI)) (ci := 12) (v := .ref (ad 43)) (C := RX12) (T := TX12) (N := 59) hx hb hts hin12 hown hK hP 0 rfl rfl 43 (Nat.le_of_ble_eq_true rfl) (ho (.fieldLink RX12 107 "NearEnoughModel" "low" "[J") (List.mem_of_getElem? (i := 0) rfl)) (fun _ h9 => h9) rfl dX12_offOf_1 ?_
  refine lv_aload_n hx hb dX12_offOf_4 rfl (lv_at hl 0 rfl) ?_
  refine va_get (D := (dC, dI)) (ci := 12) (v := .ref (ad 22)) (C := RX12) (T := TX12) (N := 59) hx hb hts hin12 hown hK hP 0 rfl rfl 22 (Nat.le_of_ble_eq_true rfl) (ho (.fieldLink RX12 54 "NearEnoughModel" "eStep" "[I") (List.mem_of_getElem? (i := 1) rfl)) (fun _ h9 => h9) rfl dX12_offOf_5 ?_
  refine lv_iconst (v := 4) hx hb dX12_offOf_8 rg_31 ?_
  refine lv_aload_n hx hb dX12_offOf_9 rfl (lv_at hl 0 rfl) ?_
  refine va_get (D := (dC, dI)) (ci := 12) (v := .int (σ.1 29)) (C := RX12) (T := TX12) (N := 59) hx hb hts hin12 hown hK hP 0 rfl rfl 29 (Nat.le_of_ble_eq_true rfl) (ho (.fieldLink RX12 240 "NearEnoughModel" "bank" "I") (List.mem_of_getElem? (i := 2) rfl)) (fun _ h9 => h9) rfl dX12_offOf_10 ?_
  have bσ_29 : 0 ≤ (σ.1 29).toInt ∧ (σ.1 29).toInt ≤ 1 := hI.1 29
  refine lv_imul hx hb dX12_offOf_13 ?_
  refine lv_topi (fun z1_ ez1_ => ?_)
  have o1 : -2147483648 ≤ 4 * (σ.1 29).toInt := by omega
  have o2 : 4 * (σ.1 29).toInt ≤ 2147483647 := by omega
  have tz1_ : z1_.toInt = 4 * (σ.1 29).toInt := ti_mul ez1_ rg_32 rfl o1 o2
  refine lv_iload_n hx hb dX12_offOf_14 rfl (lv_at hl 1 rfl) ?_
  refine lv_iadd hx hb dX12_offOf_15 ?_
  refine lv_topi (fun z2_ ez2_ => ?_)
  have o3 : -2147483648 ≤ z1_.toInt + x.toInt := by omega
  have o4 : z1_.toInt + x.toInt ≤ 2147483647 := by omega
  have tz2_ : z2_.toInt = z1_.toInt + x.toInt := ti_add ez2_ rfl rfl o3 o4
  have o5 : 0 ≤ z2_.toInt := by omega
  have o6 : z2_.toInt < ((8 : Nat) : Int) := by omega
  refine va_iald hx hb hK hP 14 13 rfl rfl (ti_inx o5 o6) dX12_offOf_16 ?_
  refine lv_topi (fun z3_ ez3_ => ?_)
  have gz3_ : z3_.toInt = ((σ.2.1 22) (Int32.toNatClampNeg z2_)).toInt := congrArg Int32.toInt (ez3_.trans (congrFun rfl (Int32.toNatClampNeg z2_)))
  have bz3_ : (-1) ≤ z3_.toInt ∧ z3_.toInt ≤ 11 := by rw [ez3_]; exact (hI.2 22) _ (cl_lt (n := 8) o5 o6)
  have EQ5_ : z3_ = σ.2.1 22 (Int32.toNatClampNeg z2_) := ez3_.trans (congrFun rfl (Int32.toNatClampNeg z2_))
  have o7 : z2_.toInt = 4 * (σ.1 29).toInt + x.toInt := by omega
  have EN4_ := end_ld hI hR he o7 EQ5_
  have o8 : 0 ≤ z3_.toInt := by omega
  have o9 : z3_.toInt < ((12 : Nat) : Int) := by omega
  refine va_lald hx hb hK hP 31 30 rfl rfl (ti_inx o8 o9) dX12_offOf_17 ?_
  refine lv_topl (fun y6_ ey6_ => ?_)
  refine lv_lneg hx hb dX12_offOf_18 ?_
  refine lv_topl (fun y7_ ey7_ => ?_)
  refine lv_aload_n hx hb dX12_offOf_19 rfl (lv_at hl 0 rfl) ?_
  refine va_get (D := (dC, dI)) (ci := 12) (v := .ref (ad 44)) (C := RX12) (T := TX12) (N := 59) hx hb hts hin12 hown hK hP 0 rfl rfl 44 (Nat.le_of_ble_eq_true rfl) (ho (.fieldLink RX12 110 "NearEnoughModel" "high0" "[J") (List.mem_of_getElem? (i := 3) rfl)) (fun _ h9 => h9) rfl dX12_offOf_20 ?_
  refine lv_aload_n hx hb dX12_offOf_23 rfl (lv_at hl 0 rfl) ?_
  refine va_get (D := (dC, dI)) (ci := 12) (v := .ref (ad 22)) (C := RX12) (T := TX12) (N := 59) hx hb hts hin12 hown hK hP 0 rfl rfl 22 (Nat.le_of_ble_eq_true rfl) (ho (.fieldLink RX12 54 "NearEnoughModel" "eStep" "[I") (List.mem_of_getElem? (i := 1) rfl)) (fun _ h9 => h9) rfl dX12_offOf_24 ?_
  refine lv_iconst (v := 4) hx hb dX12_offOf_27 rg_31 ?_
  refine lv_aload_n hx hb dX12_offOf_28 rfl (lv_at hl 0 rfl) ?_
  refine va_get (D := (dC, dI)) (ci := 12) (v := .int (σ.1 29)) (C := RX12) (T := TX12) (N := 59) hx hb hts hin12 hown hK hP 0 rfl rfl 29 (Nat.le_of_ble_eq_true rfl) (ho (.fieldLink RX12 240 "NearEnoughModel" "bank" "I") (List.mem_of_getElem? (i := 2) rfl)) (fun _ h9 => h9) rfl dX12_offOf_29 ?_
  have bσ_29 : 0 ≤ (σ.1 29).toInt ∧ (σ.1 29).toInt ≤ 1 := hI.1 29
  refine lv_imul hx hb dX12_offOf_32 ?_
  refine lv_topi (fun z8_ ez8_ => ?_)
  have tz8_ : z8_.toInt = 4 * (σ.1 29).toInt := ti_mul ez8_ rg_32 rfl o1 o2
  refine lv_iload_n hx hb dX12_offOf_33 rfl (lv_at hl 1 rfl) ?_
  refine lv_iadd hx hb dX12_offOf_34 ?_
  refine lv_topi (fun z9_ ez9_ => ?_)
  have o10 : -2147483648 ≤ z8_.toInt + x.toInt := by omega
  have o11 : z8_.toInt + x.toInt ≤ 2147483647 := by omega
  have tz9_ : z9_.toInt = z8_.toInt + x.toInt := ti_add ez9_ rfl rfl o10 o11
  have o12 : 0 ≤ z9_.toInt := by omega
  have o13 : z9_.toInt < ((8 : Nat) : Int) := by omega
  refine va_iald hx hb hK hP 14 13 rfl rfl (ti_inx o12 o13) dX12_offOf_35 ?_
  refine lv_topi (fun z10_ ez10_ => ?_)
  have gz10_ : z10_.toInt = ((σ.2.1 22) (Int32.toNatClampNeg z9_)).toInt := congrArg Int32.toInt (ez10_.trans (congrFun rfl (Int32.toNatClampNeg z9_)))
  have bz10_ : (-1) ≤ z10_.toInt ∧ z10_.toInt ≤ 11 := by rw [ez10_]; exact (hI.2 22) _ (cl_lt (n := 8) o12 o13)
  have EQ12_ : z10_ = σ.2.1 22 (Int32.toNatClampNeg z9_) := ez10_.trans (congrFun rfl (Int32.toNatClampNeg z9_))
  have o14 : z9_.toInt = 4 * (σ.1 29).toInt + x.toInt := by omega
  have EN11_ := end_ld hI hR he o14 EQ12_
  have o15 : 0 ≤ z10_.toInt := by omega
  have o16 : z10_.toInt < ((12 : Nat) : Int) := by omega
  refine va_lald hx hb hK hP 32 31 rfl rfl (ti_inx o15 o16) dX12_offOf_36 ?_
  refine lv_topl (fun y13_ ey13_ => ?_)
  refine zs_l (va_runS (As := [.long y7_, .long y13_]) (rest := []) ⟨hx, hb, hml, hown, hts⟩ (n_greaterV l dC dI y7_ y13_  H.size) (va_cwS 2 hts gd_n_offOf_318_n_greaterV rfl rfl rfl dd_n_greaterV ⟨Nat.le_of_ble_eq_true rfl, Nat.le_of_ble_eq_true rfl⟩) (preS (A := A) empP (hK.sub (tys' := []) [] rfl) empD hE) rfl rfl hl.1 rfl (lv_room (Nat.le_of_ble_eq_true rfl)) dX12_offOf_37 ⟨Nat.le_of_ble_eq_true rfl, Nat.le_of_ble_eq_true rfl⟩) hP hD hS hA (fun y14_ H locs hq hP hD hS => ?_)
  have f15_ := hq
  refine W.widen (k := 0) (n := 0) (Nat.le_of_ble_eq_true rfl) (Nat.le_of_ble_eq_true rfl) ?_
  rw [hQ]
  exact W.lret (v := y14_) hx hb hr (fun t ht hW => ⟨⟨y14_, σ, rfl, rfl, wEn_of hP (hK.sub [] rfl) hD ht hW⟩, hS.F ht⟩) hS.2.2 dX12_offOf_40
def ow_n_off : List Cond := [.constantLong RX12 373 (-1)]
def vs_n_off : List Cond := .code yX12_off cX12_off 3 (some .long) :: (ow_n_off ++ (([.methodLink RX12 431 yX12_isEnd, .instanceMethod yX12_isEnd, .selects RX12 yX12_isEnd yX12_isEnd, .initialized RX12] : List Cond) ++ (vs_n_isEnd ++ (([.methodLink RX12 370 yX12_isOpen, .instanceMethod yX12_isOpen, .selects RX12 yX12_isOpen yX12_isOpen, .initialized RX12] : List Cond) ++ (vs_n_isOpen ++ (([.methodLink RX12 434 yX12_offOf, .instanceMethod yX12_offOf, .selects RX12 yX12_offOf yX12_offOf, .initialized RX12] : List Cond) ++ (vs_n_offOf)))))))
theorem vg_n_off : vs_n_off.all goodWord = true := by decide +kernel
theorem dd_n_off : yX12_off.cls = RX12 ∧ yX12_off.cls ≠ "java/lang/invoke/MethodHandle" ∧ yX12_off.cls ≠ "java/lang/invoke/VarHandle" ∧ (parseMethodDescriptor yX12_off.desc).map (fun d => d.parameters.length) = some 2 := by decide +kernel
def rm_n_off : Room := { frames := 7, cells := 0, slots := 0, locals := 180 }
theorem gd_n_off_431_n_isEnd : GoodIn vs_n_off (wsV RX12 431 RX12 yX12_isEnd vs_n_isEnd) := goodIn_app (goodIn_sub (fun w h => (List.mem_cons_of_mem _ (List.mem_append_right _ (List.mem_append_left _ h)))) (by decide +kernel)) (goodIn_sub (fun w h => (List.mem_cons_of_mem _ (List.mem_append_right _ (List.mem_append_right _ (List.mem_append_left _ h))))) vg_n_isEnd)
theorem gd_n_off_370_n_isOpen : GoodIn vs_n_off (wsV RX12 370 RX12 yX12_isOpen vs_n_isOpen) := goodIn_app (goodIn_sub (fun w h => (List.mem_cons_of_mem _ (List.mem_append_right _ (List.mem_append_right _ (List.mem_append_right _ (List.mem_append_left _ h)))))) (by decide +kernel)) (goodIn_sub (fun w h => (List.mem_cons_of_mem _ (List.mem_append_right _ (List.mem_append_right _ (List.mem_append_right _ (List.mem_append_right _ (List.mem_append_left _ h))))))) vg_n_isOpen)
theorem gd_n_off_434_n_offOf : GoodIn vs_n_off (wsV RX12 434 RX12 yX12_offOf vs_n_offOf) := goodIn_app (goodIn_sub (fun w h => (List.mem_cons_of_mem _ (List.mem_append_right _ (List.mem_append_right _ (List.mem_append_right _ (List.mem_append_right _ (List.mem_append_right _ (List.mem_append_left _ h)))))))) (by decide +kernel)) (goodIn_sub (fun w h => (List.mem_cons_of_mem _ (List.mem_append_right _ (List.mem_append_right _ (List.mem_append_right _ (List.mem_append_right _ (List.mem_append_right _ (List.mem_append_right _ h)))))))) vg_n_offOf)
set_option maxHeartbeats 4000000 in
set_option maxRecDepth 100000 in
theorem n_off (l : Launch) (dC : Nat → ClassId) (dI : Nat → Nat → Nat) (h : Nat) (ad : Nat → Nat) (cl : Nat → ClassId) (sz : Nat) (σ : MS) (x : Int32) (y : Int32) (hI : Inv σ) (hR : RelP σ (σ.1 29).toNatClampNeg) (hC : ChR σ) : Met l yX12_off vs_n_off rm_n_off (va_Pc [.ref h, .int x, .int y] (wSt dC dI (mW h ad cl σ) (mT cl) sz)) (va_Ql (fun (r : Int64) (τ : MS) => Inv τ ∧ eqx [37, 41, 42, 43, 44, 45, 46, 32, 47, 48, 49, 54, 55, 56, 57] τ σ) (fun (τ : MS) => wEn dC dI (va_A (mW h ad cl σ) sz) (mW h ad cl τ) []) (va_A (mW h ad cl σ) sz)) 0 0 (va_A (mW h ad cl σ) sz) := by
  refine Met.ofW (cc := cX12_off) (maxL := 3) (ret := (some .long)) (by decide) rfl ?_
  intro p e s m args below meth c s₁ B hml hv
  obtain ⟨rfl, hsz, hP, hK, hD0, hE⟩ := hv
  have hx := B.exec
  have hb := B.bytes
  have hr := B.returns
  have hts := atoms_spec (ws := vs_n_off) B.pre
  have hown : s.vm.findClass RX12 = some m.cls := findClass_of_methodNamed B.named
  have hlocks := B.notSynchronized
  subst hsz
  have hD := hD0.self (sz := s.heap.size)
  generalize hAe : va_A (mW h ad cl σ) s.heap.size = A at hD ⊢
  have hA : ∀ q : Nat, s.heap.size ≤ q → A q := fun q h => by rw [← hAe]; exact Or.inr h
  have hl := lv_entry ([.ref h, .int x, .int y]) (n := 3) (Nat.le_of_ble_eq_true rfl)
  rw [lg_entry_eq]
  generalize (lg_sl ([.ref h, .int x, .int y]) ++ List.replicate (3 - (lg_sl ([.ref h, .int x, .int y])).length) Slot.unset).toArray = ls at hl ⊢
  have hl : lv_has ls 3 [(0, .ref h), (1, .int x), (2, .int y)] := hl
  have ho := fun w (h : w ∈ ow_n_off) => hts w (List.mem_cons_of_mem _ (List.mem_append_left _ h))
  refine zQ (fun Q hQ => ?_)
  refine zH (A := A) (ws := mW h ad cl σ) (fun H hP hS => ?_) hP
  have bσ_29 : 0 ≤ (σ.1 29).toInt ∧ (σ.1 29).toInt ≤ 1 := hI.1 29
  refine lv_aload_n hx hb dX12_off_0 rfl (lv_at hl 0 rfl) ?_
  refine lv_iload_n hx hb dX12_off_1 rfl (lv_at hl 1 rfl) ?_
  refine zy_i (va_runV (As := [.int x]) (rest := []) ⟨hx, hb, hml, hown, hts⟩ (n_isEnd l dC dI h ad cl H.size σ x hI) (cwV 1 hts gd_n_off_431_n_isEnd rfl rfl rfl dd_n_isEnd ⟨Nat.le_of_ble_eq_true rfl, Nat.le_of_ble_eq_true rfl⟩) (preV hP hK hD hE (ci := 12) (q0 := 0) rfl rfl) rfl rfl hl.1 rfl (lv_room (Nat.le_of_ble_eq_true rfl)) dX12_off_2 ⟨Nat.le_of_ble_eq_true rfl, Nat.le_of_ble_eq_true rfl⟩) hD hS hA (fun z2_ τ1_ H locs hq hP hD hS => ?_)
  obtain ⟨rfl, f3_⟩ := hq
  refine W.widen (k := 0) (n := 0) (Nat.le_of_ble_eq_true rfl) (Nat.le_of_ble_eq_true rfl) ?_
  refine lv_if_eq (tgt := 24) hx hb dX12_off_5 rfl (fun c4_ => ?_) (fun c4_ => ?_)
  · have tc4_ := (show z2_.toInt = 0 from ti_eq rfl rg_11 c4_)
    refine lv_ldc2 (v := (-1)) hx hb hown (ho (.constantLong RX12 373 (-1)) (List.mem_of_getElem? (i := 0) rfl)) dX12_off_24 ?_
    rw [hQ]
    exact W.lret (v := (-1)) hx hb hr (fun t ht hW => ⟨⟨(-1), σ, rfl, ⟨hI, eqx.rf⟩, wEn_of hP (hK.sub [] rfl) hD ht hW⟩, hS.F ht⟩) hS.2.2 dX12_off_27
  · have tc4_ := (show z2_.toInt ≠ 0 from ti_ne rfl rg_11 c4_)
    refine lv_aload_n hx hb dX12_off_8 rfl (lv_at hl 0 rfl) ?_
    refine lv_iload_n hx hb dX12_off_9 rfl (lv_at hl 2 rfl) ?_
    refine zy_i (va_runV (As := [.int y]) (rest := []) ⟨hx, hb, hml, hown, hts⟩ (n_isOpen l dC dI h ad cl H.size σ y hI hR hC) (cwV 1 hts gd_n_off_370_n_isOpen rfl rfl rfl dd_n_isOpen ⟨Nat.le_of_ble_eq_true rfl, Nat.le_of_ble_eq_true rfl⟩) (preV hP hK hD hE (ci := 12) (q0 := 0) rfl rfl) rfl rfl hl.1 rfl (lv_room (Nat.le_of_ble_eq_true rfl)) dX12_off_10 ⟨Nat.le_of_ble_eq_true rfl, Nat.le_of_ble_eq_true rfl⟩) hD hS hA (fun z6_ τ5_ H locs hq hP hD hS => ?_)
    obtain ⟨hI7_, hx8_, f9_⟩ := hq
    have Xτ5_ : eqx [37, 41, 42, 43, 44, 45, 46, 32, 47, 48, 49, 54, 55, 56, 57] τ5_ σ := eqx.tr hx8_ eqx.rf rg_568
    have qq10_ : (τ5_.1 29).toInt = ((σ.1 29) : Int32).toInt := congrArg Int32.toInt ((show τ5_.1 29 = (σ.1 29) from ((hx8_ 29 rg_569).1).trans rfl))
    refine W.widen (k := 0) (n := 0) (Nat.le_of_ble_eq_true rfl) (Nat.le_of_ble_eq_true rfl) ?_
    refine lv_if_eq (tgt := 24) hx hb dX12_off_13 rfl (fun c11_ => ?_) (fun c11_ => ?_)
    · have tc11_ := (show z6_.toInt = 0 from ti_eq rfl rg_11 c11_)
      refine lv_ldc2 (v := (-1)) hx hb hown (ho (.constantLong RX12 373 (-1)) (List.mem_of_getElem? (i := 0) rfl)) dX12_off_24 ?_
      rw [hQ]
      exact W.lret (v := (-1)) hx hb hr (fun t ht hW => ⟨⟨(-1), τ5_, rfl, ⟨hI7_, Xτ5_⟩, wEn_of hP (hK.sub [] rfl) hD ht hW⟩, hS.F ht⟩) hS.2.2 dX12_off_27
    · have tc11_ := (show z6_.toInt ≠ 0 from ti_ne rfl rg_11 c11_)
      refine lv_aload_n hx hb dX12_off_16 rfl (lv_at hl 0 rfl) ?_
      refine lv_iload_n hx hb dX12_off_17 rfl (lv_at hl 1 rfl) ?_
      have o1 : 0 ≤ x.toInt := by omega
      have o2 : x.toInt ≤ 3 := by omega
      have o3 : x.toInt < (σ.2.1 13 (σ.1 29).toNatClampNeg).toInt := by omega
      have HE12_ : EndOk σ x := ⟨o1, o2, o3⟩
      refine zy_l (va_runV (As := [.int x]) (rest := []) ⟨hx, hb, hml, hown, hts⟩ (n_offOf l dC dI h ad cl H.size τ5_ x hI7_ (RelP.x hR Xτ5_ rg_571 rg_572) (EndOk.x HE12_ Xτ5_ rg_571 rg_577)) (cwV 1 hts gd_n_off_434_n_offOf rfl rfl rfl dd_n_offOf ⟨Nat.le_of_ble_eq_true rfl, Nat.le_of_ble_eq_true rfl⟩) (preV hP hK hD hE (ci := 12) (q0 := 0) rfl rfl) rfl rfl hl.1 rfl (lv_room (Nat.le_of_ble_eq_true rfl)) dX12_off_18 ⟨Nat.le_of_ble_eq_true rfl, Nat.le_of_ble_eq_true rfl⟩) hD hS hA (fun y14_ τ13_ H locs hq hP hD hS => ?_)
      obtain rfl := hq
      refine W.widen (k := 0) (n := 0) (Nat.le_of_ble_eq_true rfl) (Nat.le_of_ble_eq_true rfl) ?_
      refine lv_goto (tgt := 27) hx hb dX12_off_21 rfl ?_
      rw [hQ]
      exact W.lret (v := y14_) hx hb hr (fun t ht hW => ⟨⟨y14_, τ5_, rfl, ⟨hI7_, Xτ5_⟩, wEn_of hP (hK.sub [] rfl) hD ht hW⟩, hS.F ht⟩) hS.2.2 dX12_off_27
def ow_n_barred : List Cond := []
def vs_n_barred : List Cond := .code yX12_barred cX12_barred 2 (some .int) :: (ow_n_barred ++ (([.methodLink RX12 423 yX12_isChoice, .instanceMethod yX12_isChoice, .selects RX12 yX12_isChoice yX12_isChoice, .initialized RX12] : List Cond) ++ (vs_n_isChoiceV ++ (([.methodLink RX12 426 yX12_bars, .instanceMethod yX12_bars, .selects RX12 yX12_bars yX12_bars, .initialized RX12] : List Cond) ++ (vs_n_bars)))))
theorem vg_n_barred : vs_n_barred.all goodWord = true := by decide +kernel
theorem dd_n_barred : yX12_barred.cls = RX12 ∧ yX12_barred.cls ≠ "java/lang/invoke/MethodHandle" ∧ yX12_barred.cls ≠ "java/lang/invoke/VarHandle" ∧ (parseMethodDescriptor yX12_barred.desc).map (fun d => d.parameters.length) = some 1 := by decide +kernel
def rm_n_barred : Room := { frames := 6, cells := 0, slots := 0, locals := 159 }
theorem gd_n_barred_423_n_isChoiceV : GoodIn vs_n_barred (wsV RX12 423 RX12 yX12_isChoice vs_n_isChoiceV) := goodIn_app (goodIn_sub (fun w h => (List.mem_cons_of_mem _ (List.mem_append_right _ (List.mem_append_left _ h)))) (by decide +kernel)) (goodIn_sub (fun w h => (List.mem_cons_of_mem _ (List.mem_append_right _ (List.mem_append_right _ (List.mem_append_left _ h))))) vg_n_isChoiceV)
theorem gd_n_barred_426_n_bars : GoodIn vs_n_barred (wsV RX12 426 RX12 yX12_bars vs_n_bars) := goodIn_app (goodIn_sub (fun w h => (List.mem_cons_of_mem _ (List.mem_append_right _ (List.mem_append_right _ (List.mem_append_right _ (List.mem_append_left _ h)))))) (by decide +kernel)) (goodIn_sub (fun w h => (List.mem_cons_of_mem _ (List.mem_append_right _ (List.mem_append_right _ (List.mem_append_right _ (List.mem_append_right _ h)))))) vg_n_bars)
set_option maxHeartbeats 4000000 in
set_option maxRecDepth 100000 in
theorem n_barred (l : Launch) (dC : Nat → ClassId) (dI : Nat → Nat → Nat) (h : Nat) (ad : Nat → Nat) (cl : Nat → ClassId) (sz : Nat) (σ : MS) (x : Int32) (hI : Inv σ) (hR : RelP σ (σ.1 29).toNatClampNeg) (hC : ChR σ) : Met l yX12_barred vs_n_barred rm_n_barred (va_Pc [.ref h, .int x] (wSt dC dI (mW h ad cl σ) (mT cl) sz)) (va_Qi (fun (r : Int32) (τ : MS) => Inv τ ∧ eqx [37, 41, 42, 43, 44, 45, 46, 32, 47, 48, 49, 54, 55, 56, 57] τ σ) (fun (τ : MS) => wEn dC dI (va_A (mW h ad cl σ) sz) (mW h ad cl τ) []) (va_A (mW h ad cl σ) sz)) 0 0 (va_A (mW h ad cl σ) sz) := by
  refine Met.ofW (cc := cX12_barred) (maxL := 2) (ret := (some .int)) (by decide) rfl ?_
  intro p e s m args below meth c s₁ B hml hv
  obtain ⟨rfl, hsz, hP, hK, hD0, hE⟩ := hv
  have hx := B.exec
  have hb := B.bytes
  have hr := B.returns
  have hts := atoms_spec (ws := vs_n_barred) B.pre
  have hown : s.vm.findClass RX12 = some m.cls := findClass_of_methodNamed B.named
  have hlocks := B.notSynchronized
  subst hsz
  have hD := hD0.self (sz := s.heap.size)
  generalize hAe : va_A (mW h ad cl σ) s.heap.size = A at hD ⊢
  have hA : ∀ q : Nat, s.heap.size ≤ q → A q := fun q h => by rw [← hAe]; exact Or.inr h
  have hl := lv_entry ([.ref h, .int x]) (n := 2) (Nat.le_of_ble_eq_true rfl)
  rw [lg_entry_eq]
  generalize (lg_sl ([.ref h, .int x]) ++ List.replicate (2 - (lg_sl ([.ref h, .int x])).length) Slot.unset).toArray = ls at hl ⊢
  have hl : lv_has ls 2 [(0, .ref h), (1, .int x)] := hl
  have ho := fun w (h : w ∈ ow_n_barred) => hts w (List.mem_cons_of_mem _ (List.mem_append_left _ h))
  refine zQ (fun Q hQ => ?_)
  refine zH (A := A) (ws := mW h ad cl σ) (fun H hP hS => ?_) hP
  have bσ_29 : 0 ≤ (σ.1 29).toInt ∧ (σ.1 29).toInt ≤ 1 := hI.1 29
  refine lv_aload_n hx hb dX12_barred_0 rfl (lv_at hl 0 rfl) ?_
  refine lv_iload_n hx hb dX12_barred_1 rfl (lv_at hl 1 rfl) ?_
  refine zy_i (va_runV (As := [.int x]) (rest := []) ⟨hx, hb, hml, hown, hts⟩ (n_isChoiceV l dC dI h ad cl H.size σ x hI) (cwV 1 hts gd_n_barred_423_n_isChoiceV rfl rfl rfl dd_n_isChoiceV ⟨Nat.le_of_ble_eq_true rfl, Nat.le_of_ble_eq_true rfl⟩) (preV hP hK hD hE (ci := 12) (q0 := 0) rfl rfl) rfl rfl hl.1 rfl (lv_room (Nat.le_of_ble_eq_true rfl)) dX12_barred_2 ⟨Nat.le_of_ble_eq_true rfl, Nat.le_of_ble_eq_true rfl⟩) hD hS hA (fun z2_ τ1_ H locs hq hP hD hS => ?_)
  obtain ⟨hI3_, hx4_, f5_⟩ := hq
  have Xτ1_ : eqx [37, 41, 42, 43, 44, 45, 46, 32, 47, 48, 49, 54, 55, 56, 57] τ1_ σ := eqx.tr hx4_ eqx.rf rg_578
  have qq6_ : (τ1_.1 29).toInt = ((σ.1 29) : Int32).toInt := congrArg Int32.toInt ((show τ1_.1 29 = (σ.1 29) from ((hx4_ 29 rg_552).1).trans rfl))
  refine W.widen (k := 0) (n := 0) (Nat.le_of_ble_eq_true rfl) (Nat.le_of_ble_eq_true rfl) ?_
  refine lv_if_eq (tgt := 15) hx hb dX12_barred_5 rfl (fun c7_ => ?_) (fun c7_ => ?_)
  · have tc7_ := (show z2_.toInt = 0 from ti_eq rfl rg_11 c7_)
    refine lv_bipush (v := (-2)) hx hb dX12_barred_15 rg_579 ?_
    rw [hQ]
    exact W.iret (v := (-2)) hx hb hr (fun t ht hW => ⟨⟨(-2), τ1_, rfl, ⟨hI3_, Xτ1_⟩, wEn_of hP (hK.sub [] rfl) hD ht hW⟩, hS.F ht⟩) hS.2.2 dX12_barred_17
  · have tc7_ := (show z2_.toInt ≠ 0 from ti_ne rfl rg_11 c7_)
    refine lv_aload_n hx hb dX12_barred_8 rfl (lv_at hl 0 rfl) ?_
    have o1 : ¬ z2_.toInt = 0 := by omega
    refine zy_i (va_runV (As := []) (rest := []) ⟨hx, hb, hml, hown, hts⟩ (n_bars l dC dI h ad cl H.size τ1_  hI3_ (RelP.x hR Xτ1_ rg_571 rg_572) (by rw [show τ1_.1 29 = σ.1 29 from (hx4_ 29 rg_552).1, cor_x hx4_ rg_553]; exact OnR.fit hI hC (by rcases f5_ with q | q; exact q.2; exact absurd q.1 o1))) (cwV 0 hts gd_n_barred_426_n_bars rfl rfl rfl dd_n_bars ⟨Nat.le_of_ble_eq_true rfl, Nat.le_of_ble_eq_true rfl⟩) (preV hP hK hD hE (ci := 12) (q0 := 0) rfl rfl) rfl rfl hl.1 rfl (lv_room (Nat.le_of_ble_eq_true rfl)) dX12_barred_9 ⟨Nat.le_of_ble_eq_true rfl, Nat.le_of_ble_eq_true rfl⟩) hD hS hA (fun z9_ τ8_ H locs hq hP hD hS => ?_)
    obtain ⟨hI10_, hx11_, f12_⟩ := hq
    have Xτ8_ : eqx [37, 41, 42, 43, 44, 45, 46, 32, 47, 48, 49, 54, 55, 56, 57] τ8_ σ := eqx.tr hx11_ Xτ1_ rg_580
    have qq13_ : (τ8_.1 29).toInt = ((σ.1 29) : Int32).toInt := congrArg Int32.toInt ((show τ8_.1 29 = (σ.1 29) from ((hx11_ 29 rg_541).1).trans (show τ1_.1 29 = (σ.1 29) from ((hx4_ 29 rg_552).1).trans rfl)))
    refine W.widen (k := 0) (n := 0) (Nat.le_of_ble_eq_true rfl) (Nat.le_of_ble_eq_true rfl) ?_
    refine lv_goto (tgt := 17) hx hb dX12_barred_12 rfl ?_
    rw [hQ]
    exact W.iret (v := z9_) hx hb hr (fun t ht hW => ⟨⟨z9_, τ8_, rfl, ⟨hI10_, Xτ8_⟩, wEn_of hP (hK.sub [] rfl) hD ht hW⟩, hS.F ht⟩) hS.2.2 dX12_barred_17
def ow_n_saved : List Cond := []
def vs_n_saved : List Cond := .code yX12_saved cX12_saved 2 (some .int) :: (ow_n_saved ++ (([.methodLink RX12 423 yX12_isChoice, .instanceMethod yX12_isChoice, .selects RX12 yX12_isChoice yX12_isChoice, .initialized RX12] : List Cond) ++ (vs_n_isChoiceV ++ (([.methodLink RX12 447 yX12_savedBy, .instanceMethod yX12_savedBy, .selects RX12 yX12_savedBy yX12_savedBy, .initialized RX12] : List Cond) ++ (vs_n_savedBy)))))
theorem vg_n_saved : vs_n_saved.all goodWord = true := by decide +kernel
theorem dd_n_saved : yX12_saved.cls = RX12 ∧ yX12_saved.cls ≠ "java/lang/invoke/MethodHandle" ∧ yX12_saved.cls ≠ "java/lang/invoke/VarHandle" ∧ (parseMethodDescriptor yX12_saved.desc).map (fun d => d.parameters.length) = some 1 := by decide +kernel
def rm_n_saved : Room := { frames := 1, cells := 0, slots := 0, locals := 23 }
theorem gd_n_saved_423_n_isChoiceV : GoodIn vs_n_saved (wsV RX12 423 RX12 yX12_isChoice vs_n_isChoiceV) := goodIn_app (goodIn_sub (fun w h => (List.mem_cons_of_mem _ (List.mem_append_right _ (List.mem_append_left _ h)))) (by decide +kernel)) (goodIn_sub (fun w h => (List.mem_cons_of_mem _ (List.mem_append_right _ (List.mem_append_right _ (List.mem_append_left _ h))))) vg_n_isChoiceV)
theorem gd_n_saved_447_n_savedBy : GoodIn vs_n_saved (wsV RX12 447 RX12 yX12_savedBy vs_n_savedBy) := goodIn_app (goodIn_sub (fun w h => (List.mem_cons_of_mem _ (List.mem_append_right _ (List.mem_append_right _ (List.mem_append_right _ (List.mem_append_left _ h)))))) (by decide +kernel)) (goodIn_sub (fun w h => (List.mem_cons_of_mem _ (List.mem_append_right _ (List.mem_append_right _ (List.mem_append_right _ (List.mem_append_right _ h)))))) vg_n_savedBy)
set_option maxHeartbeats 4000000 in
set_option maxRecDepth 100000 in
theorem n_saved (l : Launch) (dC : Nat → ClassId) (dI : Nat → Nat → Nat) (h : Nat) (ad : Nat → Nat) (cl : Nat → ClassId) (sz : Nat) (σ : MS) (x : Int32) (hI : Inv σ) : Met l yX12_saved vs_n_saved rm_n_saved (va_Pc [.ref h, .int x] (wSt dC dI (mW h ad cl σ) (mT cl) sz)) (va_Qi (fun (r : Int32) (τ : MS) => Inv τ ∧ eqx [37, 41, 42, 43, 44, 45, 46, 32, 47, 48, 49, 54, 55, 56, 57] τ σ) (fun (τ : MS) => wEn dC dI (va_A (mW h ad cl σ) sz) (mW h ad cl τ) []) (va_A (mW h ad cl σ) sz)) 0 0 (va_A (mW h ad cl σ) sz) := by
  refine Met.ofW (cc := cX12_saved) (maxL := 2) (ret := (some .int)) (by decide) rfl ?_
  intro p e s m args below meth c s₁ B hml hv
  obtain ⟨rfl, hsz, hP, hK, hD0, hE⟩ := hv
  have hx := B.exec
  have hb := B.bytes
  have hr := B.returns
  have hts := atoms_spec (ws := vs_n_saved) B.pre
  have hown : s.vm.findClass RX12 = some m.cls := findClass_of_methodNamed B.named
  have hlocks := B.notSynchronized
  subst hsz
  have hD := hD0.self (sz := s.heap.size)
  generalize hAe : va_A (mW h ad cl σ) s.heap.size = A at hD ⊢
  have hA : ∀ q : Nat, s.heap.size ≤ q → A q := fun q h => by rw [← hAe]; exact Or.inr h
  have hl := lv_entry ([.ref h, .int x]) (n := 2) (Nat.le_of_ble_eq_true rfl)
  rw [lg_entry_eq]
  generalize (lg_sl ([.ref h, .int x]) ++ List.replicate (2 - (lg_sl ([.ref h, .int x])).length) Slot.unset).toArray = ls at hl ⊢
  have hl : lv_has ls 2 [(0, .ref h), (1, .int x)] := hl
  have ho := fun w (h : w ∈ ow_n_saved) => hts w (List.mem_cons_of_mem _ (List.mem_append_left _ h))
  refine zQ (fun Q hQ => ?_)
  refine zH (A := A) (ws := mW h ad cl σ) (fun H hP hS => ?_) hP
  refine lv_aload_n hx hb dX12_saved_0 rfl (lv_at hl 0 rfl) ?_
  refine lv_iload_n hx hb dX12_saved_1 rfl (lv_at hl 1 rfl) ?_
  refine zy_i (va_runV (As := [.int x]) (rest := []) ⟨hx, hb, hml, hown, hts⟩ (n_isChoiceV l dC dI h ad cl H.size σ x hI) (cwV 1 hts gd_n_saved_423_n_isChoiceV rfl rfl rfl dd_n_isChoiceV ⟨Nat.le_of_ble_eq_true rfl, Nat.le_of_ble_eq_true rfl⟩) (preV hP hK hD hE (ci := 12) (q0 := 0) rfl rfl) rfl rfl hl.1 rfl (lv_room (Nat.le_of_ble_eq_true rfl)) dX12_saved_2 ⟨Nat.le_of_ble_eq_true rfl, Nat.le_of_ble_eq_true rfl⟩) hD hS hA (fun z2_ τ1_ H locs hq hP hD hS => ?_)
  obtain ⟨hI3_, hx4_, f5_⟩ := hq
  have Xτ1_ : eqx [37, 41, 42, 43, 44, 45, 46, 32, 47, 48, 49, 54, 55, 56, 57] τ1_ σ := eqx.tr hx4_ eqx.rf rg_578
  refine W.widen (k := 0) (n := 0) (Nat.le_of_ble_eq_true rfl) (Nat.le_of_ble_eq_true rfl) ?_
  refine lv_if_eq (tgt := 16) hx hb dX12_saved_5 rfl (fun c6_ => ?_) (fun c6_ => ?_)
  · have tc6_ := (show z2_.toInt = 0 from ti_eq rfl rg_11 c6_)
    refine lv_iconst (v := (-1)) hx hb dX12_saved_16 rg_53 ?_
    rw [hQ]
    exact W.iret (v := (-1)) hx hb hr (fun t ht hW => ⟨⟨(-1), τ1_, rfl, ⟨hI3_, Xτ1_⟩, wEn_of hP (hK.sub [] rfl) hD ht hW⟩, hS.F ht⟩) hS.2.2 dX12_saved_17
  · have tc6_ := (show z2_.toInt ≠ 0 from ti_ne rfl rg_11 c6_)
    refine lv_aload_n hx hb dX12_saved_8 rfl (lv_at hl 0 rfl) ?_
    refine lv_iload_n hx hb dX12_saved_9 rfl (lv_at hl 1 rfl) ?_
    refine zy_i (va_runV (As := [.int x]) (rest := []) ⟨hx, hb, hml, hown, hts⟩ (n_savedBy l dC dI h ad cl H.size τ1_ x hI3_) (cwV 1 hts gd_n_saved_447_n_savedBy rfl rfl rfl dd_n_savedBy ⟨Nat.le_of_ble_eq_true rfl, Nat.le_of_ble_eq_true rfl⟩) (preV hP hK hD hE (ci := 12) (q0 := 0) rfl rfl) rfl rfl hl.1 rfl (lv_room (Nat.le_of_ble_eq_true rfl)) dX12_saved_10 ⟨Nat.le_of_ble_eq_true rfl, Nat.le_of_ble_eq_true rfl⟩) hD hS hA (fun z8_ τ7_ H locs hq hP hD hS => ?_)
    obtain rfl := hq
    refine W.widen (k := 0) (n := 0) (Nat.le_of_ble_eq_true rfl) (Nat.le_of_ble_eq_true rfl) ?_
    refine lv_goto (tgt := 17) hx hb dX12_saved_13 rfl ?_
    rw [hQ]
    exact W.iret (v := z8_) hx hb hr (fun t ht hW => ⟨⟨z8_, τ1_, rfl, ⟨hI3_, Xτ1_⟩, wEn_of hP (hK.sub [] rfl) hD ht hW⟩, hS.F ht⟩) hS.2.2 dX12_saved_17
def ow_n_measure : List Cond := [.fieldLink RX12 249 "NearEnoughModel" "sheets" "I", .fieldLink RX12 97 "NearEnoughModel" "isKeptBack" "[Z"]
def vs_n_measure : List Cond := .code yX12_measure cX12_measure 5 (some .long) :: (ow_n_measure ++ (([.methodLink RX12 438 yX12_farOn, .instanceMethod yX12_farOn, .selects RX12 yX12_farOn yX12_farOn, .initialized RX12] : List Cond) ++ (vs_n_farOn ++ (([.methodLink RX12 318 yX12_greater, .static yX12_greater, .initialized yX12_greater.cls] : List Cond) ++ (vs_n_greaterV ++ (wsX120))))))
theorem vg_n_measure : vs_n_measure.all goodWord = true := by decide +kernel
theorem dd_n_measure : yX12_measure.cls = RX12 ∧ yX12_measure.cls ≠ "java/lang/invoke/MethodHandle" ∧ yX12_measure.cls ≠ "java/lang/invoke/VarHandle" ∧ (parseMethodDescriptor yX12_measure.desc).map (fun d => d.parameters.length) = some 1 := by decide +kernel
def rm_n_measure : Room := { frames := 6, cells := 0, slots := 0, locals := 161 }
theorem gd_n_measure_438_n_farOn : GoodIn vs_n_measure (wsV RX12 438 RX12 yX12_farOn vs_n_farOn) := goodIn_app (goodIn_sub (fun w h => (List.mem_cons_of_mem _ (List.mem_append_right _ (List.mem_append_left _ h)))) (by decide +kernel)) (goodIn_sub (fun w h => (List.mem_cons_of_mem _ (List.mem_append_right _ (List.mem_append_right _ (List.mem_append_left _ h))))) vg_n_farOn)
theorem gd_n_measure_318_n_greaterV : GoodIn vs_n_measure (va_wsS RX12 318 yX12_greater vs_n_greaterV) := goodIn_app (goodIn_sub (fun w h => (List.mem_cons_of_mem _ (List.mem_append_right _ (List.mem_append_right _ (List.mem_append_right _ (List.mem_append_left _ h)))))) (by decide +kernel)) (goodIn_sub (fun w h => (List.mem_cons_of_mem _ (List.mem_append_right _ (List.mem_append_right _ (List.mem_append_right _ (List.mem_append_right _ (List.mem_append_left _ h))))))) vg_n_greaterV)
set_option maxHeartbeats 4000000 in
set_option maxRecDepth 100000 in
theorem n_measure (l : Launch) (dC : Nat → ClassId) (dI : Nat → Nat → Nat) (h : Nat) (ad : Nat → Nat) (cl : Nat → ClassId) (sz : Nat) (σ : MS) (x : Int32) (hI : Inv σ) (hR : RelP σ (σ.1 29).toNatClampNeg) (hon : OnOk σ) (he : EndOk σ x) : Met l yX12_measure vs_n_measure rm_n_measure (va_Pc [.ref h, .int x] (wSt dC dI (mW h ad cl σ) (mT cl) sz)) (va_Ql (fun (r : Int64) (τ : MS) => Inv τ ∧ eqx [42, 41] τ σ) (fun (τ : MS) => wEn dC dI (va_A (mW h ad cl σ) sz) (mW h ad cl τ) []) (va_A (mW h ad cl σ) sz)) 0 0 (va_A (mW h ad cl σ) sz) := by
  refine Met.ofW (cc := cX12_measure) (maxL := 5) (ret := (some .long)) (by decide) rfl ?_
  intro p e s m args below meth c s₁ B hml hv
  obtain ⟨rfl, hsz, hP, hK, hD0, hE⟩ := hv
  have hx := B.exec
  have hb := B.bytes
  have hr := B.returns
  have hts := atoms_spec (ws := vs_n_measure) B.pre
  have hown : s.vm.findClass RX12 = some m.cls := findClass_of_methodNamed B.named
  have hlocks := B.notSynchronized
  subst hsz
  have hD := hD0.self (sz := s.heap.size)
  generalize hAe : va_A (mW h ad cl σ) s.heap.size = A at hD ⊢
  have hA : ∀ q : Nat, s.heap.size ≤ q → A q := fun q h => by rw [← hAe]; exact Or.inr h
  have hl := lv_entry ([.ref h, .int x]) (n := 5) (Nat.le_of_ble_eq_true rfl)
  rw [lg_entry_eq]
  generalize (lg_sl ([.ref h, .int x]) ++ List.replicate (5 - (lg_sl ([.ref h, .int x])).length) Slot.unset).toArray = ls at hl ⊢
  have hl : lv_has ls 5 [(0, .ref h), (1, .int x)] := hl
  have ho := fun w (h : w ∈ ow_n_measure) => hts w (List.mem_cons_of_mem _ (List.mem_append_left _ h))
  have hin12 : ∀ w ∈ u_ws RX12 TX12 59, w ∈ vs_n_measure := fun w h => (List.mem_cons_of_mem _ (List.mem_append_right _ (List.mem_append_right _ (List.mem_append_right _ (List.mem_append_right _ (List.mem_append_right _ h))))))
  refine zQ (fun Q hQ => ?_)
  have he0 := he
  unfold EndOk at he0
  have pt_5 : ∀ (n5 : Nat) (τ : MS) (mo : Int64) (kv : Int32) (H : Heap) (locs : List Loc) (ls : Array Slot), (40 - kv.toInt).toNat < n5 → (Inv τ) → (eqx [42, 41] τ σ) → (0 ≤ kv.toInt) → (OnOk τ) → va_P (dC, dI) vwCl (mW h ad cl τ) H → va_D A (mW h ad cl τ) → va_S A s.heap H locs → lv_has ls 5 [(0, .ref h), (1, .int x), (2, .long mo), (4, .int kv)] → W p l e (headSpec vs_n_measure rm_n_measure).room s m #[Value.ref h, Value.int x] below meth c H locs 0 0 Q (F0 m 5 ls []) := by
    intro n5
    induction n5 with
    | zero => intro τ mo kv H locs ls hn5 hIτ hxτ hk0 honτ hP hD hS hl; exact absurd hn5 (Nat.not_lt_zero _)
    | succ n5 ih5 =>
      intro τ mo kv H locs ls hn5 hIτ hxτ hk0 honτ hP hD hS hl
      have bτ_29 : 0 ≤ (τ.1 29).toInt ∧ (τ.1 29).toInt ≤ 1 := hIτ.1 29
      have qq1_ : (τ.1 29).toInt = ((σ.1 29) : Int32).toInt := congrArg Int32.toInt (((hxτ 29 rg_483).1))
      have bτ_39 : 0 ≤ (τ.1 39).toInt ∧ (τ.1 39).toInt ≤ 40 := hIτ.1 39
      have qq2_ : (τ.1 39).toInt = ((σ.1 39) : Int32).toInt := congrArg Int32.toInt (((hxτ 39 rg_576).1))
      refine lv_iload hx hb dX12_measure_5 (lv_at hl 3 rfl) ?_
      refine lv_aload_n hx hb dX12_measure_7 rfl (lv_at hl 0 rfl) ?_
      refine va_get (D := (dC, dI)) (ci := 12) (v := .int (τ.1 39)) (C := RX12) (T := TX12) (N := 59) hx hb hts hin12 hown hK hP 0 rfl rfl 39 (Nat.le_of_ble_eq_true rfl) (ho (.fieldLink RX12 249 "NearEnoughModel" "sheets" "I") (List.mem_of_getElem? (i := 0) rfl)) (fun _ h9 => h9) rfl dX12_measure_8 ?_
      refine zi (v := (σ.1 39)) ((hxτ 39 rg_576).1) ?_
      have bb3_ : 0 ≤ (σ.1 39).toInt ∧ (σ.1 39).toInt ≤ 40 := by have h9 := hIτ.1 39; rw [show (τ.1 39) = (σ.1 39) from ((hxτ 39 rg_576).1)] at h9; exact h9
      refine lv_icmp_ge (tgt := 42) hx hb dX12_measure_11 rfl (fun c4_ => ?_) (fun c4_ => ?_)
      · have tc4_ := (show (σ.1 39).toInt ≤ kv.toInt from ti_le rfl rfl c4_)
        refine lv_lload_n hx hb dX12_measure_42 rfl (lv_at hl 2 rfl) ?_
        rw [hQ]
        exact W.lret (v := mo) hx hb hr (fun t ht hW => ⟨⟨mo, τ, rfl, ⟨hIτ, hxτ⟩, wEn_of hP (hK.sub [] rfl) hD ht hW⟩, hS.F ht⟩) hS.2.2 dX12_measure_43
      · have tc4_ := (show kv.toInt < (σ.1 39).toInt from ti_nle rfl rfl c4_)
        refine lv_aload_n hx hb dX12_measure_14 rfl (lv_at hl 0 rfl) ?_
        refine va_get (D := (dC, dI)) (ci := 12) (v := .ref (ad 38)) (C := RX12) (T := TX12) (N := 59) hx hb hts hin12 hown hK hP 0 rfl rfl 38 (Nat.le_of_ble_eq_true rfl) (ho (.fieldLink RX12 97 "NearEnoughModel" "isKeptBack" "[Z") (List.mem_of_getElem? (i := 1) rfl)) (fun _ h9 => h9) rfl dX12_measure_15 ?_
        refine lv_iload hx hb dX12_measure_18 (lv_at hl 3 rfl) ?_
        have o1 : 0 ≤ kv.toInt := by omega
        have o2 : kv.toInt < ((40 : Nat) : Int) := by omega
        refine va_zald hx hb hK hP 28 27 rfl rfl (ti_inx o1 o2) dX12_measure_20 ?_
        refine lv_topi (fun z5_ ez5_ => ?_)
        have gz5_ : z5_.toInt = ((τ.2.1 38) (Int32.toNatClampNeg kv)).toInt := congrArg Int32.toInt (ez5_.trans (congrFun rfl (Int32.toNatClampNeg kv)))
        refine lv_if_ne (tgt := 36) hx hb dX12_measure_21 rfl (fun c6_ => ?_) (fun c6_ => ?_)
        · have tc6_ := (show z5_.toInt ≠ 0 from ti_ne rfl rg_11 c6_)
          obtain ⟨z7_, ez7_⟩ : ∃ y : Int32, y = kv + 1 := ⟨_, rfl⟩
          have o3 : -2147483648 ≤ kv.toInt + 1 := by omega
          have o4 : kv.toInt + 1 ≤ 2147483647 := by omega
          have tz7_ := ti_add ez7_ rfl rg_18 o3 o4
          refine lv_iinc (v := z7_) (lv' := [(4, .int z7_), (0, .ref h), (1, .int x), (2, .long mo)]) hx hb dX12_measure_36 hl (k := 3) rfl (iincp ez7_ rg_6) (Nat.le_of_ble_eq_true rfl) rfl (fun ls hl => ?_)
          refine lv_goto (tgt := 5) hx hb dX12_measure_39 rfl ?_
          have o5 : (40 - z7_.toInt).toNat < n5 := by omega
          have o6 : 0 ≤ z7_.toInt := by omega
          exact ih5 τ mo z7_ _ _ _ (show (40 - z7_.toInt).toNat < n5 from o5) hIτ hxτ (show 0 ≤ z7_.toInt from o6) honτ hP hD hS (lv_sub hl [1, 2, 3, 0] rfl)
        · have tc6_ := (show z5_.toInt = 0 from ti_eq rfl rg_11 c6_)
          refine lv_lload_n hx hb dX12_measure_24 rfl (lv_at hl 2 rfl) ?_
          refine lv_aload_n hx hb dX12_measure_25 rfl (lv_at hl 0 rfl) ?_
          refine lv_iload_n hx hb dX12_measure_26 rfl (lv_at hl 1 rfl) ?_
          refine lv_iload hx hb dX12_measure_27 (lv_at hl 3 rfl) ?_
          have o7 : kv.toInt ≤ 39 := by omega
          refine zy_l (va_runV (As := [.int x, .int kv]) (rest := [.long mo]) ⟨hx, hb, hml, hown, hts⟩ (n_farOn l dC dI h ad cl H.size τ x kv hIτ (RelP.x hR hxτ rg_483 rg_490) honτ (EndOk.x he hxτ rg_483 rg_581) ⟨o1, o7⟩) (cwV 2 hts gd_n_measure_438_n_farOn rfl rfl rfl dd_n_farOn ⟨Nat.le_of_ble_eq_true rfl, Nat.le_of_ble_eq_true rfl⟩) (preV hP hK hD hE (ci := 12) (q0 := 0) rfl rfl) rfl rfl hl.1 rfl (lv_room (Nat.le_of_ble_eq_true rfl)) dX12_measure_29 ⟨Nat.le_of_ble_eq_true rfl, Nat.le_of_ble_eq_true rfl⟩) hD hS hA (fun y9_ τ8_ H locs hq hP hD hS => ?_)
          obtain ⟨hI10_, hx11_, f12_⟩ := hq
          have Xτ8_ : eqx [42, 41] τ8_ σ := eqx.tr hx11_ hxτ rg_566
          have qq13_ : (τ8_.1 29).toInt = ((σ.1 29) : Int32).toInt := congrArg Int32.toInt ((show τ8_.1 29 = (σ.1 29) from ((hx11_ 29 rg_483).1).trans ((hxτ 29 rg_483).1)))
          have qq14_ : (τ8_.1 39).toInt = ((σ.1 39) : Int32).toInt := congrArg Int32.toInt ((show τ8_.1 39 = (σ.1 39) from ((hx11_ 39 rg_576).1).trans ((hxτ 39 rg_576).1)))
          refine W.widen (k := 0) (n := 0) (Nat.le_of_ble_eq_true rfl) (Nat.le_of_ble_eq_true rfl) ?_
          refine zs_l (va_runS (As := [.long mo, .long y9_]) (rest := []) ⟨hx, hb, hml, hown, hts⟩ (n_greaterV l dC dI mo y9_  H.size) (va_cwS 2 hts gd_n_measure_318_n_greaterV rfl rfl rfl dd_n_greaterV ⟨Nat.le_of_ble_eq_true rfl, Nat.le_of_ble_eq_true rfl⟩) (preS (A := A) empP (hK.sub (tys' := []) [] rfl) empD hE) rfl rfl hl.1 rfl (lv_room (Nat.le_of_ble_eq_true rfl)) dX12_measure_32 ⟨Nat.le_of_ble_eq_true rfl, Nat.le_of_ble_eq_true rfl⟩) hP hD hS hA (fun y15_ H locs hq hP hD hS => ?_)
          have f16_ := hq
          refine W.widen (k := 0) (n := 0) (Nat.le_of_ble_eq_true rfl) (Nat.le_of_ble_eq_true rfl) ?_
          refine lv_lstore_n (lv' := [(2, .long y15_), (0, .ref h), (1, .int x), (4, .int kv)]) hx hb dX12_measure_35 rfl hl (Nat.le_of_ble_eq_true rfl) rfl (fun ls hl => ?_)
          obtain ⟨z17_, ez17_⟩ : ∃ y : Int32, y = kv + 1 := ⟨_, rfl⟩
          have o8 : -2147483648 ≤ kv.toInt + 1 := by omega
          have o9 : kv.toInt + 1 ≤ 2147483647 := by omega
          have tz17_ := ti_add ez17_ rfl rg_18 o8 o9
          refine lv_iinc (v := z17_) (lv' := [(4, .int z17_), (2, .long y15_), (0, .ref h), (1, .int x)]) hx hb dX12_measure_36 hl (k := 3) rfl (iincp ez17_ rg_6) (Nat.le_of_ble_eq_true rfl) rfl (fun ls hl => ?_)
          refine lv_goto (tgt := 5) hx hb dX12_measure_39 rfl ?_
          have o10 : (40 - z17_.toInt).toNat < n5 := by omega
          have o11 : 0 ≤ z17_.toInt := by omega
          exact ih5 τ8_ y15_ z17_ _ _ _ (show (40 - z17_.toInt).toNat < n5 from o10) hI10_ Xτ8_ (show 0 ≤ z17_.toInt from o11) (OnOk.x honτ hx11_ rg_492 rg_493 rg_487) hP hD hS (lv_sub hl [2, 3, 1, 0] rfl)
  refine zH (A := A) (ws := mW h ad cl σ) (fun H hP hS => ?_) hP
  have bσ_29 : 0 ≤ (σ.1 29).toInt ∧ (σ.1 29).toInt ≤ 1 := hI.1 29
  have bσ_39 : 0 ≤ (σ.1 39).toInt ∧ (σ.1 39).toInt ≤ 40 := hI.1 39
  refine lv_lconst (v := 0) hx hb dX12_measure_0 (by decide) ?_
  refine lv_lstore_n (lv' := [(2, .long 0), (0, .ref h), (1, .int x)]) hx hb dX12_measure_1 rfl hl (Nat.le_of_ble_eq_true rfl) rfl (fun ls hl => ?_)
  refine lv_iconst (v := 0) hx hb dX12_measure_2 rg_0 ?_
  refine lv_istore (lv' := [(4, .int 0), (2, .long 0), (0, .ref h), (1, .int x)]) hx hb dX12_measure_3 hl (Nat.le_of_ble_eq_true rfl) rfl (fun ls hl => ?_)
  exact pt_5 _ σ 0 0 _ _ _ (Nat.lt_succ_self _) hI eqx.rf rg_56 hon hP hD hS (lv_sub hl [2, 3, 1, 0] rfl)
def ow_n_measured : List Cond := [.constantLong RX12 373 (-1)]
def vs_n_measured : List Cond := .code yX12_measured cX12_measured 3 (some .long) :: (ow_n_measured ++ (([.methodLink RX12 431 yX12_isEnd, .instanceMethod yX12_isEnd, .selects RX12 yX12_isEnd yX12_isEnd, .initialized RX12] : List Cond) ++ (vs_n_isEnd ++ (([.methodLink RX12 370 yX12_isOpen, .instanceMethod yX12_isOpen, .selects RX12 yX12_isOpen yX12_isOpen, .initialized RX12] : List Cond) ++ (vs_n_isOpen ++ (([.methodLink RX12 441 yX12_measure, .instanceMethod yX12_measure, .selects RX12 yX12_measure yX12_measure, .initialized RX12] : List Cond) ++ (vs_n_measure)))))))
theorem vg_n_measured : vs_n_measured.all goodWord = true := by decide +kernel
theorem dd_n_measured : yX12_measured.cls = RX12 ∧ yX12_measured.cls ≠ "java/lang/invoke/MethodHandle" ∧ yX12_measured.cls ≠ "java/lang/invoke/VarHandle" ∧ (parseMethodDescriptor yX12_measured.desc).map (fun d => d.parameters.length) = some 2 := by decide +kernel
def rm_n_measured : Room := { frames := 7, cells := 0, slots := 0, locals := 185 }
theorem gd_n_measured_431_n_isEnd : GoodIn vs_n_measured (wsV RX12 431 RX12 yX12_isEnd vs_n_isEnd) := goodIn_app (goodIn_sub (fun w h => (List.mem_cons_of_mem _ (List.mem_append_right _ (List.mem_append_left _ h)))) (by decide +kernel)) (goodIn_sub (fun w h => (List.mem_cons_of_mem _ (List.mem_append_right _ (List.mem_append_right _ (List.mem_append_left _ h))))) vg_n_isEnd)
theorem gd_n_measured_370_n_isOpen : GoodIn vs_n_measured (wsV RX12 370 RX12 yX12_isOpen vs_n_isOpen) := goodIn_app (goodIn_sub (fun w h => (List.mem_cons_of_mem _ (List.mem_append_right _ (List.mem_append_right _ (List.mem_append_right _ (List.mem_append_left _ h)))))) (by decide +kernel)) (goodIn_sub (fun w h => (List.mem_cons_of_mem _ (List.mem_append_right _ (List.mem_append_right _ (List.mem_append_right _ (List.mem_append_right _ (List.mem_append_left _ h))))))) vg_n_isOpen)
theorem gd_n_measured_441_n_measure : GoodIn vs_n_measured (wsV RX12 441 RX12 yX12_measure vs_n_measure) := goodIn_app (goodIn_sub (fun w h => (List.mem_cons_of_mem _ (List.mem_append_right _ (List.mem_append_right _ (List.mem_append_right _ (List.mem_append_right _ (List.mem_append_right _ (List.mem_append_left _ h)))))))) (by decide +kernel)) (goodIn_sub (fun w h => (List.mem_cons_of_mem _ (List.mem_append_right _ (List.mem_append_right _ (List.mem_append_right _ (List.mem_append_right _ (List.mem_append_right _ (List.mem_append_right _ h)))))))) vg_n_measure)
set_option maxHeartbeats 4000000 in
set_option maxRecDepth 100000 in
theorem n_measured (l : Launch) (dC : Nat → ClassId) (dI : Nat → Nat → Nat) (h : Nat) (ad : Nat → Nat) (cl : Nat → ClassId) (sz : Nat) (σ : MS) (x : Int32) (y : Int32) (hI : Inv σ) (hR : RelP σ (σ.1 29).toNatClampNeg) (hC : ChR σ) : Met l yX12_measured vs_n_measured rm_n_measured (va_Pc [.ref h, .int x, .int y] (wSt dC dI (mW h ad cl σ) (mT cl) sz)) (va_Ql (fun (r : Int64) (τ : MS) => Inv τ ∧ eqx [37, 41, 42, 43, 44, 45, 46, 32, 47, 48, 49, 54, 55, 56, 57] τ σ) (fun (τ : MS) => wEn dC dI (va_A (mW h ad cl σ) sz) (mW h ad cl τ) []) (va_A (mW h ad cl σ) sz)) 0 0 (va_A (mW h ad cl σ) sz) := by
  refine Met.ofW (cc := cX12_measured) (maxL := 3) (ret := (some .long)) (by decide) rfl ?_
  intro p e s m args below meth c s₁ B hml hv
  obtain ⟨rfl, hsz, hP, hK, hD0, hE⟩ := hv
  have hx := B.exec
  have hb := B.bytes
  have hr := B.returns
  have hts := atoms_spec (ws := vs_n_measured) B.pre
  have hown : s.vm.findClass RX12 = some m.cls := findClass_of_methodNamed B.named
  have hlocks := B.notSynchronized
  subst hsz
  have hD := hD0.self (sz := s.heap.size)
  generalize hAe : va_A (mW h ad cl σ) s.heap.size = A at hD ⊢
  have hA : ∀ q : Nat, s.heap.size ≤ q → A q := fun q h => by rw [← hAe]; exact Or.inr h
  have hl := lv_entry ([.ref h, .int x, .int y]) (n := 3) (Nat.le_of_ble_eq_true rfl)
  rw [lg_entry_eq]
  generalize (lg_sl ([.ref h, .int x, .int y]) ++ List.replicate (3 - (lg_sl ([.ref h, .int x, .int y])).length) Slot.unset).toArray = ls at hl ⊢
  have hl : lv_has ls 3 [(0, .ref h), (1, .int x), (2, .int y)] := hl
  have ho := fun w (h : w ∈ ow_n_measured) => hts w (List.mem_cons_of_mem _ (List.mem_append_left _ h))
  refine zQ (fun Q hQ => ?_)
  refine zH (A := A) (ws := mW h ad cl σ) (fun H hP hS => ?_) hP
  have bσ_29 : 0 ≤ (σ.1 29).toInt ∧ (σ.1 29).toInt ≤ 1 := hI.1 29
  refine lv_aload_n hx hb dX12_measured_0 rfl (lv_at hl 0 rfl) ?_
  refine lv_iload_n hx hb dX12_measured_1 rfl (lv_at hl 1 rfl) ?_
  refine zy_i (va_runV (As := [.int x]) (rest := []) ⟨hx, hb, hml, hown, hts⟩ (n_isEnd l dC dI h ad cl H.size σ x hI) (cwV 1 hts gd_n_measured_431_n_isEnd rfl rfl rfl dd_n_isEnd ⟨Nat.le_of_ble_eq_true rfl, Nat.le_of_ble_eq_true rfl⟩) (preV hP hK hD hE (ci := 12) (q0 := 0) rfl rfl) rfl rfl hl.1 rfl (lv_room (Nat.le_of_ble_eq_true rfl)) dX12_measured_2 ⟨Nat.le_of_ble_eq_true rfl, Nat.le_of_ble_eq_true rfl⟩) hD hS hA (fun z2_ τ1_ H locs hq hP hD hS => ?_)
  obtain ⟨rfl, f3_⟩ := hq
  refine W.widen (k := 0) (n := 0) (Nat.le_of_ble_eq_true rfl) (Nat.le_of_ble_eq_true rfl) ?_
  refine lv_if_eq (tgt := 24) hx hb dX12_measured_5 rfl (fun c4_ => ?_) (fun c4_ => ?_)
  · have tc4_ := (show z2_.toInt = 0 from ti_eq rfl rg_11 c4_)
    refine lv_ldc2 (v := (-1)) hx hb hown (ho (.constantLong RX12 373 (-1)) (List.mem_of_getElem? (i := 0) rfl)) dX12_measured_24 ?_
    rw [hQ]
    exact W.lret (v := (-1)) hx hb hr (fun t ht hW => ⟨⟨(-1), σ, rfl, ⟨hI, eqx.rf⟩, wEn_of hP (hK.sub [] rfl) hD ht hW⟩, hS.F ht⟩) hS.2.2 dX12_measured_27
  · have tc4_ := (show z2_.toInt ≠ 0 from ti_ne rfl rg_11 c4_)
    refine lv_aload_n hx hb dX12_measured_8 rfl (lv_at hl 0 rfl) ?_
    refine lv_iload_n hx hb dX12_measured_9 rfl (lv_at hl 2 rfl) ?_
    refine zy_i (va_runV (As := [.int y]) (rest := []) ⟨hx, hb, hml, hown, hts⟩ (n_isOpen l dC dI h ad cl H.size σ y hI hR hC) (cwV 1 hts gd_n_measured_370_n_isOpen rfl rfl rfl dd_n_isOpen ⟨Nat.le_of_ble_eq_true rfl, Nat.le_of_ble_eq_true rfl⟩) (preV hP hK hD hE (ci := 12) (q0 := 0) rfl rfl) rfl rfl hl.1 rfl (lv_room (Nat.le_of_ble_eq_true rfl)) dX12_measured_10 ⟨Nat.le_of_ble_eq_true rfl, Nat.le_of_ble_eq_true rfl⟩) hD hS hA (fun z6_ τ5_ H locs hq hP hD hS => ?_)
    obtain ⟨hI7_, hx8_, f9_⟩ := hq
    have Xτ5_ : eqx [37, 41, 42, 43, 44, 45, 46, 32, 47, 48, 49, 54, 55, 56, 57] τ5_ σ := eqx.tr hx8_ eqx.rf rg_568
    have qq10_ : (τ5_.1 29).toInt = ((σ.1 29) : Int32).toInt := congrArg Int32.toInt ((show τ5_.1 29 = (σ.1 29) from ((hx8_ 29 rg_569).1).trans rfl))
    refine W.widen (k := 0) (n := 0) (Nat.le_of_ble_eq_true rfl) (Nat.le_of_ble_eq_true rfl) ?_
    refine lv_if_eq (tgt := 24) hx hb dX12_measured_13 rfl (fun c11_ => ?_) (fun c11_ => ?_)
    · have tc11_ := (show z6_.toInt = 0 from ti_eq rfl rg_11 c11_)
      refine lv_ldc2 (v := (-1)) hx hb hown (ho (.constantLong RX12 373 (-1)) (List.mem_of_getElem? (i := 0) rfl)) dX12_measured_24 ?_
      rw [hQ]
      exact W.lret (v := (-1)) hx hb hr (fun t ht hW => ⟨⟨(-1), τ5_, rfl, ⟨hI7_, Xτ5_⟩, wEn_of hP (hK.sub [] rfl) hD ht hW⟩, hS.F ht⟩) hS.2.2 dX12_measured_27
    · have tc11_ := (show z6_.toInt ≠ 0 from ti_ne rfl rg_11 c11_)
      refine lv_aload_n hx hb dX12_measured_16 rfl (lv_at hl 0 rfl) ?_
      refine lv_iload_n hx hb dX12_measured_17 rfl (lv_at hl 1 rfl) ?_
      have o1 : ¬ z6_.toInt = 0 := by omega
      have POK12_ : Opn σ y (τ5_.2.1 37) (τ5_.2.2.1 43) (τ5_.2.2.1 44) := by rcases f9_ with q | q; exact q.2; exact absurd q.1 o1
      have OK12_ : OnOk τ5_ := OnR.ok hI hC hx8_ rg_573 rg_574 POK12_.1
      have o2 : 0 ≤ x.toInt := by omega
      have o3 : x.toInt ≤ 3 := by omega
      have o4 : x.toInt < (σ.2.1 13 (σ.1 29).toNatClampNeg).toInt := by omega
      have HE13_ : EndOk σ x := ⟨o2, o3, o4⟩
      refine zy_l (va_runV (As := [.int x]) (rest := []) ⟨hx, hb, hml, hown, hts⟩ (n_measure l dC dI h ad cl H.size τ5_ x hI7_ (RelP.x hR Xτ5_ rg_571 rg_572) OK12_ (EndOk.x HE13_ Xτ5_ rg_571 rg_577)) (cwV 1 hts gd_n_measured_441_n_measure rfl rfl rfl dd_n_measure ⟨Nat.le_of_ble_eq_true rfl, Nat.le_of_ble_eq_true rfl⟩) (preV hP hK hD hE (ci := 12) (q0 := 0) rfl rfl) rfl rfl hl.1 rfl (lv_room (Nat.le_of_ble_eq_true rfl)) dX12_measured_18 ⟨Nat.le_of_ble_eq_true rfl, Nat.le_of_ble_eq_true rfl⟩) hD hS hA (fun y15_ τ14_ H locs hq hP hD hS => ?_)
      obtain ⟨hI16_, hx17_⟩ := hq
      have Xτ14_ : eqx [37, 41, 42, 43, 44, 45, 46, 32, 47, 48, 49, 54, 55, 56, 57] τ14_ σ := eqx.tr hx17_ Xτ5_ rg_575
      have qq18_ : (τ14_.1 29).toInt = ((σ.1 29) : Int32).toInt := congrArg Int32.toInt ((show τ14_.1 29 = (σ.1 29) from ((hx17_ 29 rg_483).1).trans (show τ5_.1 29 = (σ.1 29) from ((hx8_ 29 rg_569).1).trans rfl)))
      refine W.widen (k := 0) (n := 0) (Nat.le_of_ble_eq_true rfl) (Nat.le_of_ble_eq_true rfl) ?_
      refine lv_goto (tgt := 27) hx hb dX12_measured_21 rfl ?_
      rw [hQ]
      exact W.lret (v := y15_) hx hb hr (fun t ht hW => ⟨⟨y15_, τ14_, rfl, ⟨hI16_, Xτ14_⟩, wEn_of hP (hK.sub [] rfl) hD ht hW⟩, hS.F ht⟩) hS.2.2 dX12_measured_27
