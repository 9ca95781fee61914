theorem dX4_readRow_0 : decode cX4_readRow 0 = .ok (.aload_n 0, 1) := by decide +kernel
theorem dX4_readRow_17 : decode cX4_readRow 17 = .ok (.invokevirtual 68, 3) := by decide +kernel
theorem dX4_readRow_20 : decode cX4_readRow 20 = .ok (.aload_n 0, 1) := by decide +kernel
theorem dX4_readRow_21 : decode cX4_readRow 21 = .ok (.invokevirtual 96, 3) := by decide +kernel
theorem dX4_readRow_24 : decode cX4_readRow 24 = .ok (.lstore_n 1, 1) := by decide +kernel
theorem dX4_readRow_25 : decode cX4_readRow 25 = .ok (.aload_n 0, 1) := by decide +kernel
theorem dX4_readRow_26 : decode cX4_readRow 26 = .ok (.ldc 100, 2) := by decide +kernel
theorem dX4_readRow_28 : decode cX4_readRow 28 = .ok (.invokevirtual 102, 3) := by decide +kernel
theorem dX4_readRow_31 : decode cX4_readRow 31 = .ok (.aload_n 0, 1) := by decide +kernel
theorem dX4_readRow_32 : decode cX4_readRow 32 = .ok (.iconst 1, 1) := by decide +kernel
theorem dX4_readRow_33 : decode cX4_readRow 33 = .ok (.bipush 6, 2) := by decide +kernel
theorem dX4_readRow_35 : decode cX4_readRow 35 = .ok (.iconst 0, 1) := by decide +kernel
theorem dX4_readRow_36 : decode cX4_readRow 36 = .ok (.invokevirtual 106, 3) := by decide +kernel
theorem dX4_readRow_39 : decode cX4_readRow 39 = .ok (.istore_n 3, 1) := by decide +kernel
theorem dX4_readRow_40 : decode cX4_readRow 40 = .ok (.aload_n 0, 1) := by decide +kernel
theorem dX4_readRow_41 : decode cX4_readRow 41 = .ok (.ldc 110, 2) := by decide +kernel
theorem dX4_readRow_43 : decode cX4_readRow 43 = .ok (.invokevirtual 102, 3) := by decide +kernel
theorem dX4_readRow_46 : decode cX4_readRow 46 = .ok (.aload_n 0, 1) := by decide +kernel
theorem dX4_readRow_47 : decode cX4_readRow 47 = .ok (.sipush (-999), 3) := by decide +kernel
theorem dX4_readRow_50 : decode cX4_readRow 50 = .ok (.sipush 999, 3) := by decide +kernel
theorem dX4_readRow_53 : decode cX4_readRow 53 = .ok (.iconst 1, 1) := by decide +kernel
theorem dX4_readRow_54 : decode cX4_readRow 54 = .ok (.invokevirtual 106, 3) := by decide +kernel
theorem dX4_readRow_57 : decode cX4_readRow 57 = .ok (.istore 4, 2) := by decide +kernel
theorem dX4_readRow_59 : decode cX4_readRow 59 = .ok (.aload_n 0, 1) := by decide +kernel
theorem dX4_readRow_60 : decode cX4_readRow 60 = .ok (.ldc 112, 2) := by decide +kernel
theorem dX4_readRow_62 : decode cX4_readRow 62 = .ok (.invokevirtual 102, 3) := by decide +kernel
theorem dX4_readRow_65 : decode cX4_readRow 65 = .ok (.aload_n 0, 1) := by decide +kernel
theorem dX4_readRow_66 : decode cX4_readRow 66 = .ok (.iload 4, 2) := by decide +kernel
theorem dX4_readRow_68 : decode cX4_readRow 68 = .ok (.sipush 999, 3) := by decide +kernel
theorem dX4_readRow_71 : decode cX4_readRow 71 = .ok (.iconst 1, 1) := by decide +kernel
theorem dX4_readRow_72 : decode cX4_readRow 72 = .ok (.invokevirtual 106, 3) := by decide +kernel
theorem dX4_readRow_75 : decode cX4_readRow 75 = .ok (.istore 5, 2) := by decide +kernel
theorem dX4_readRow_77 : decode cX4_readRow 77 = .ok (.aload_n 0, 1) := by decide +kernel
theorem dX4_readRow_78 : decode cX4_readRow 78 = .ok (.invokevirtual 114, 3) := by decide +kernel
theorem dX4_readRow_81 : decode cX4_readRow 81 = .ok (.aload_n 0, 1) := by decide +kernel
theorem dX4_readRow_82 : decode cX4_readRow 82 = .ok (.getfield 18, 3) := by decide +kernel
theorem dX4_readRow_85 : decode cX4_readRow 85 = .ok (.ifCond .ne 16, 3) := by decide +kernel
theorem dX4_readRow_101 : decode cX4_readRow 101 = .ok (.return_, 1) := by decide +kernel
theorem dX4_readRow_88 : decode cX4_readRow 88 = .ok (.aload_n 0, 1) := by decide +kernel
theorem dX4_readRow_89 : decode cX4_readRow 89 = .ok (.getfield 12, 3) := by decide +kernel
theorem dX4_readRow_92 : decode cX4_readRow 92 = .ok (.lload_n 1, 1) := by decide +kernel
theorem dX4_readRow_93 : decode cX4_readRow 93 = .ok (.iload_n 3, 1) := by decide +kernel
theorem dX4_readRow_94 : decode cX4_readRow 94 = .ok (.iload 4, 2) := by decide +kernel
theorem dX4_readRow_96 : decode cX4_readRow 96 = .ok (.iload 5, 2) := by decide +kernel
theorem dX4_readRow_98 : decode cX4_readRow 98 = .ok (.invokevirtual 117, 3) := by decide +kernel
theorem dX4_readRow_1 : decode cX4_readRow 1 = .ok (.aload_n 0, 1) := by decide +kernel
theorem dX4_readRow_2 : decode cX4_readRow 2 = .ok (.getfield 12, 3) := by decide +kernel
theorem dX4_readRow_5 : decode cX4_readRow 5 = .ok (.getfield 93, 3) := by decide +kernel
theorem dX4_readRow_8 : decode cX4_readRow 8 = .ok (.iconst 2, 1) := by decide +kernel
theorem dX4_readRow_9 : decode cX4_readRow 9 = .ok (.if_icmp .ge 7, 3) := by decide +kernel
theorem dX4_readRow_16 : decode cX4_readRow 16 = .ok (.iconst 0, 1) := by decide +kernel
theorem dX4_readRow_12 : decode cX4_readRow 12 = .ok (.iconst 1, 1) := by decide +kernel
theorem dX4_readRow_13 : decode cX4_readRow 13 = .ok (.goto 4, 3) := by decide +kernel
theorem dX4_readEnd_0 : decode cX4_readEnd 0 = .ok (.aload_n 0, 1) := by decide +kernel
theorem dX4_readEnd_17 : decode cX4_readEnd 17 = .ok (.invokevirtual 68, 3) := by decide +kernel
theorem dX4_readEnd_20 : decode cX4_readEnd 20 = .ok (.aload_n 0, 1) := by decide +kernel
theorem dX4_readEnd_21 : decode cX4_readEnd 21 = .ok (.getfield 30, 3) := by decide +kernel
theorem dX4_readEnd_24 : decode cX4_readEnd 24 = .ok (.getfield 61, 3) := by decide +kernel
theorem dX4_readEnd_27 : decode cX4_readEnd 27 = .ok (.istore_n 1, 1) := by decide +kernel
theorem dX4_readEnd_28 : decode cX4_readEnd 28 = .ok (.aload_n 0, 1) := by decide +kernel
theorem dX4_readEnd_29 : decode cX4_readEnd 29 = .ok (.invokevirtual 124, 3) := by decide +kernel
theorem dX4_readEnd_32 : decode cX4_readEnd 32 = .ok (.istore_n 2, 1) := by decide +kernel
theorem dX4_readEnd_57 : decode cX4_readEnd 57 = .ok (.aload_n 0, 1) := by decide +kernel
theorem dX4_readEnd_58 : decode cX4_readEnd 58 = .ok (.ldc 131, 2) := by decide +kernel
theorem dX4_readEnd_60 : decode cX4_readEnd 60 = .ok (.invokevirtual 102, 3) := by decide +kernel
theorem dX4_readEnd_63 : decode cX4_readEnd 63 = .ok (.aload_n 0, 1) := by decide +kernel
theorem dX4_readEnd_64 : decode cX4_readEnd 64 = .ok (.iconst 0, 1) := by decide +kernel
theorem dX4_readEnd_65 : decode cX4_readEnd 65 = .ok (.sipush 9999, 3) := by decide +kernel
theorem dX4_readEnd_68 : decode cX4_readEnd 68 = .ok (.iconst 0, 1) := by decide +kernel
theorem dX4_readEnd_69 : decode cX4_readEnd 69 = .ok (.invokevirtual 106, 3) := by decide +kernel
theorem dX4_readEnd_72 : decode cX4_readEnd 72 = .ok (.istore_n 3, 1) := by decide +kernel
theorem dX4_readEnd_73 : decode cX4_readEnd 73 = .ok (.aload_n 0, 1) := by decide +kernel
theorem dX4_readEnd_74 : decode cX4_readEnd 74 = .ok (.invokevirtual 133, 3) := by decide +kernel
theorem dX4_readEnd_77 : decode cX4_readEnd 77 = .ok (.istore 4, 2) := by decide +kernel
theorem dX4_readEnd_79 : decode cX4_readEnd 79 = .ok (.aload_n 0, 1) := by decide +kernel
theorem dX4_readEnd_80 : decode cX4_readEnd 80 = .ok (.invokevirtual 114, 3) := by decide +kernel
theorem dX4_readEnd_83 : decode cX4_readEnd 83 = .ok (.aload_n 0, 1) := by decide +kernel
theorem dX4_readEnd_84 : decode cX4_readEnd 84 = .ok (.getfield 18, 3) := by decide +kernel
theorem dX4_readEnd_87 : decode cX4_readEnd 87 = .ok (.ifCond .ne 14, 3) := by decide +kernel
theorem dX4_readEnd_101 : decode cX4_readEnd 101 = .ok (.return_, 1) := by decide +kernel
theorem dX4_readEnd_90 : decode cX4_readEnd 90 = .ok (.aload_n 0, 1) := by decide +kernel
theorem dX4_readEnd_91 : decode cX4_readEnd 91 = .ok (.getfield 12, 3) := by decide +kernel
theorem dX4_readEnd_94 : decode cX4_readEnd 94 = .ok (.iload_n 2, 1) := by decide +kernel
theorem dX4_readEnd_95 : decode cX4_readEnd 95 = .ok (.iload_n 3, 1) := by decide +kernel
theorem dX4_readEnd_96 : decode cX4_readEnd 96 = .ok (.iload 4, 2) := by decide +kernel
theorem dX4_readEnd_98 : decode cX4_readEnd 98 = .ok (.invokevirtual 136, 3) := by decide +kernel
theorem dX4_readEnd_33 : decode cX4_readEnd 33 = .ok (.aload_n 0, 1) := by decide +kernel
theorem dX4_readEnd_34 : decode cX4_readEnd 34 = .ok (.getfield 18, 3) := by decide +kernel
theorem dX4_readEnd_37 : decode cX4_readEnd 37 = .ok (.ifCond .ne 20, 3) := by decide +kernel
theorem dX4_readEnd_40 : decode cX4_readEnd 40 = .ok (.aload_n 0, 1) := by decide +kernel
theorem dX4_readEnd_41 : decode cX4_readEnd 41 = .ok (.getfield 12, 3) := by decide +kernel
theorem dX4_readEnd_44 : decode cX4_readEnd 44 = .ok (.iload_n 2, 1) := by decide +kernel
theorem dX4_readEnd_45 : decode cX4_readEnd 45 = .ok (.invokevirtual 128, 3) := by decide +kernel
theorem dX4_readEnd_48 : decode cX4_readEnd 48 = .ok (.ifCond .eq 9, 3) := by decide +kernel
theorem dX4_readEnd_51 : decode cX4_readEnd 51 = .ok (.aload_n 0, 1) := by decide +kernel
theorem dX4_readEnd_52 : decode cX4_readEnd 52 = .ok (.iconst 3, 1) := by decide +kernel
theorem dX4_readEnd_53 : decode cX4_readEnd 53 = .ok (.iload_n 1, 1) := by decide +kernel
theorem dX4_readEnd_54 : decode cX4_readEnd 54 = .ok (.invokevirtual 64, 3) := by decide +kernel
theorem dX4_readEnd_1 : decode cX4_readEnd 1 = .ok (.aload_n 0, 1) := by decide +kernel
theorem dX4_readEnd_2 : decode cX4_readEnd 2 = .ok (.getfield 12, 3) := by decide +kernel
theorem dX4_readEnd_5 : decode cX4_readEnd 5 = .ok (.getfield 121, 3) := by decide +kernel
theorem dX4_readEnd_8 : decode cX4_readEnd 8 = .ok (.iconst 4, 1) := by decide +kernel
theorem dX4_readEnd_9 : decode cX4_readEnd 9 = .ok (.if_icmp .ge 7, 3) := by decide +kernel
theorem dX4_readEnd_16 : decode cX4_readEnd 16 = .ok (.iconst 0, 1) := by decide +kernel
theorem dX4_readEnd_12 : decode cX4_readEnd 12 = .ok (.iconst 1, 1) := by decide +kernel
theorem dX4_readEnd_13 : decode cX4_readEnd 13 = .ok (.goto 4, 3) := by decide +kernel
theorem dX4_readStep_0 : decode cX4_readStep 0 = .ok (.aload_n 0, 1) := by decide +kernel
theorem dX4_readStep_1 : decode cX4_readStep 1 = .ok (.invokevirtual 146, 3) := by decide +kernel
theorem dX4_readStep_4 : decode cX4_readStep 4 = .ok (.istore_n 1, 1) := by decide +kernel
theorem dX4_readStep_5 : decode cX4_readStep 5 = .ok (.aload_n 0, 1) := by decide +kernel
theorem dX4_readStep_28 : decode cX4_readStep 28 = .ok (.invokevirtual 68, 3) := by decide +kernel
theorem dX4_readStep_31 : decode cX4_readStep 31 = .ok (.aload_n 0, 1) := by decide +kernel
theorem dX4_readStep_32 : decode cX4_readStep 32 = .ok (.getfield 30, 3) := by decide +kernel
theorem dX4_readStep_35 : decode cX4_readStep 35 = .ok (.getfield 61, 3) := by decide +kernel
theorem dX4_readStep_38 : decode cX4_readStep 38 = .ok (.istore_n 2, 1) := by decide +kernel
theorem dX4_readStep_39 : decode cX4_readStep 39 = .ok (.new 152, 3) := by decide +kernel
theorem dX4_readStep_42 : decode cX4_readStep 42 = .ok (.dup, 1) := by decide +kernel
theorem dX4_readStep_43 : decode cX4_readStep 43 = .ok (.iload_n 1, 1) := by decide +kernel
theorem dX4_readStep_44 : decode cX4_readStep 44 = .ok (.aload_n 0, 1) := by decide +kernel
theorem dX4_readStep_45 : decode cX4_readStep 45 = .ok (.invokevirtual 96, 3) := by decide +kernel
theorem dX4_readStep_48 : decode cX4_readStep 48 = .ok (.invokespecial 154, 3) := by decide +kernel
theorem dX4_readStep_51 : decode cX4_readStep 51 = .ok (.astore_n 3, 1) := by decide +kernel
theorem dX4_readStep_52 : decode cX4_readStep 52 = .ok (.aload_n 0, 1) := by decide +kernel
theorem dX4_readStep_53 : decode cX4_readStep 53 = .ok (.aload_n 3, 1) := by decide +kernel
theorem dX4_readStep_54 : decode cX4_readStep 54 = .ok (.invokevirtual 157, 3) := by decide +kernel
theorem dX4_readStep_57 : decode cX4_readStep 57 = .ok (.aload_n 0, 1) := by decide +kernel
theorem dX4_readStep_58 : decode cX4_readStep 58 = .ok (.getfield 18, 3) := by decide +kernel
theorem dX4_readStep_61 : decode cX4_readStep 61 = .ok (.ifCond .ne 37, 3) := by decide +kernel
theorem dX4_readStep_98 : decode cX4_readStep 98 = .ok (.aload_n 0, 1) := by decide +kernel
theorem dX4_readStep_99 : decode cX4_readStep 99 = .ok (.invokevirtual 114, 3) := by decide +kernel
theorem dX4_readStep_102 : decode cX4_readStep 102 = .ok (.aload_n 0, 1) := by decide +kernel
theorem dX4_readStep_103 : decode cX4_readStep 103 = .ok (.getfield 18, 3) := by decide +kernel
theorem dX4_readStep_106 : decode cX4_readStep 106 = .ok (.ifCond .ne 11, 3) := by decide +kernel
theorem dX4_readStep_117 : decode cX4_readStep 117 = .ok (.return_, 1) := by decide +kernel
theorem dX4_readStep_109 : decode cX4_readStep 109 = .ok (.aload_n 0, 1) := by decide +kernel
theorem dX4_readStep_110 : decode cX4_readStep 110 = .ok (.getfield 12, 3) := by decide +kernel
theorem dX4_readStep_113 : decode cX4_readStep 113 = .ok (.aload_n 3, 1) := by decide +kernel
theorem dX4_readStep_114 : decode cX4_readStep 114 = .ok (.invokevirtual 174, 3) := by decide +kernel
theorem dX4_readStep_64 : decode cX4_readStep 64 = .ok (.aload_n 0, 1) := by decide +kernel
theorem dX4_readStep_65 : decode cX4_readStep 65 = .ok (.aload_n 3, 1) := by decide +kernel
theorem dX4_readStep_66 : decode cX4_readStep 66 = .ok (.invokevirtual 161, 3) := by decide +kernel
theorem dX4_readStep_69 : decode cX4_readStep 69 = .ok (.aload_n 3, 1) := by decide +kernel
theorem dX4_readStep_70 : decode cX4_readStep 70 = .ok (.getfield 164, 3) := by decide +kernel
theorem dX4_readStep_73 : decode cX4_readStep 73 = .ok (.ldc2_w 167, 3) := by decide +kernel
theorem dX4_readStep_76 : decode cX4_readStep 76 = .ok (.lcmp, 1) := by decide +kernel
theorem dX4_readStep_77 : decode cX4_readStep 77 = .ok (.ifCond .lt 14, 3) := by decide +kernel
theorem dX4_readStep_91 : decode cX4_readStep 91 = .ok (.aload_n 0, 1) := by decide +kernel
theorem dX4_readStep_92 : decode cX4_readStep 92 = .ok (.bipush 7, 2) := by decide +kernel
theorem dX4_readStep_94 : decode cX4_readStep 94 = .ok (.iload_n 2, 1) := by decide +kernel
theorem dX4_readStep_95 : decode cX4_readStep 95 = .ok (.invokevirtual 64, 3) := by decide +kernel
theorem dX4_readStep_80 : decode cX4_readStep 80 = .ok (.aload_n 3, 1) := by decide +kernel
theorem dX4_readStep_81 : decode cX4_readStep 81 = .ok (.getfield 169, 3) := by decide +kernel
theorem dX4_readStep_84 : decode cX4_readStep 84 = .ok (.ldc2_w 172, 3) := by decide +kernel
theorem dX4_readStep_87 : decode cX4_readStep 87 = .ok (.lcmp, 1) := by decide +kernel
theorem dX4_readStep_88 : decode cX4_readStep 88 = .ok (.ifCond .le 10, 3) := by decide +kernel
theorem dX4_readStep_6 : decode cX4_readStep 6 = .ok (.iload_n 1, 1) := by decide +kernel
theorem dX4_readStep_7 : decode cX4_readStep 7 = .ok (.iconst (-1), 1) := by decide +kernel
theorem dX4_readStep_8 : decode cX4_readStep 8 = .ok (.if_icmp .eq 19, 3) := by decide +kernel
theorem dX4_readStep_27 : decode cX4_readStep 27 = .ok (.iconst 0, 1) := by decide +kernel
theorem dX4_readStep_11 : decode cX4_readStep 11 = .ok (.aload_n 0, 1) := by decide +kernel
theorem dX4_readStep_12 : decode cX4_readStep 12 = .ok (.getfield 12, 3) := by decide +kernel
theorem dX4_readStep_15 : decode cX4_readStep 15 = .ok (.getfield 149, 3) := by decide +kernel
theorem dX4_readStep_18 : decode cX4_readStep 18 = .ok (.bipush 12, 2) := by decide +kernel
theorem dX4_readStep_20 : decode cX4_readStep 20 = .ok (.if_icmp .ge 7, 3) := by decide +kernel
theorem dX4_readStep_23 : decode cX4_readStep 23 = .ok (.iconst 1, 1) := by decide +kernel
theorem dX4_readStep_24 : decode cX4_readStep 24 = .ok (.goto 4, 3) := by decide +kernel

def ow_g_readRow : List Cond := [.fieldLink RX4 18 "NearEnough$Reader" "fault" "I", .fieldLink RX4 12 "NearEnough$Reader" "told" "LNearEnough$Program;", .fieldLink RX4 93 "NearEnough$Program" "rowCount" "I"]
def vs_g_readRow : List Cond := .code yX4_readRow cX4_readRow 6 none :: (ow_g_readRow ++ (([.methodLink RX4 68 yX4_pass, .instanceMethod yX4_pass, .selects RX4 yX4_pass yX4_pass, .initialized RX4] : List Cond) ++ (vs_r_pass ++ (([.methodLink RX4 96 yX4_needNewName, .instanceMethod yX4_needNewName, .selects RX4 yX4_needNewName yX4_needNewName, .initialized RX4] : List Cond) ++ (vs_r_needNewName ++ (([.methodLink RX4 102 yX4_needWord, .instanceMethod yX4_needWord, .selects RX4 yX4_needWord yX4_needWord, .initialized RX4] : List Cond) ++ (vs_r_needWord ++ (([.methodLink RX4 106 yX4_needNumber, .instanceMethod yX4_needNumber, .selects RX4 yX4_needNumber yX4_needNumber, .initialized RX4] : List Cond) ++ (vs_r_needNumber ++ (([.methodLink RX4 114 yX4_needSemicolon, .instanceMethod yX4_needSemicolon, .selects RX4 yX4_needSemicolon yX4_needSemicolon, .initialized RX4] : List Cond) ++ (vs_r_needSemi ++ (([.methodLink RX4 117 yX3_addRow, .instanceMethod yX3_addRow, .selects RX3 yX3_addRow yX3_addRow, .initialized RX3] : List Cond) ++ (vs_g_addRow ++ (wsX30 ++ (wsX40)))))))))))))))
theorem vg_g_readRow : vs_g_readRow.all goodWord = true := by decide +kernel
theorem dd_g_readRow : yX4_readRow.cls = RX4 ∧ yX4_readRow.cls ≠ "java/lang/invoke/MethodHandle" ∧ yX4_readRow.cls ≠ "java/lang/invoke/VarHandle" ∧ (parseMethodDescriptor yX4_readRow.desc).map (fun d => d.parameters.length) = some 0 := by decide +kernel
def rm_g_readRow : Room := { frames := 7, cells := 1, slots := 5, locals := 152 }
theorem gd_g_readRow_68_r_pass : GoodIn vs_g_readRow (wsV RX4 68 RX4 yX4_pass vs_r_pass) := goodIn_app (goodIn_sub (fun w h => (List.mem_cons_of_mem _ (List.mem_append_right _ (List.mem_append_left _ h)))) (by decide +kernel)) (goodIn_sub (fun w h => (List.mem_cons_of_mem _ (List.mem_append_right _ (List.mem_append_right _ (List.mem_append_left _ h))))) vg_r_pass)
theorem gd_g_readRow_96_r_needNewName : GoodIn vs_g_readRow (wsV RX4 96 RX4 yX4_needNewName vs_r_needNewName) := goodIn_app (goodIn_sub (fun w h => (List.mem_cons_of_mem _ (List.mem_append_right _ (List.mem_append_right _ (List.mem_append_right _ (List.mem_append_left _ h)))))) (by decide +kernel)) (goodIn_sub (fun w h => (List.mem_cons_of_mem _ (List.mem_append_right _ (List.mem_append_right _ (List.mem_append_right _ (List.mem_append_right _ (List.mem_append_left _ h))))))) vg_r_needNewName)
theorem gd_g_readRow_102_r_needWord : GoodIn vs_g_readRow (wsV RX4 102 RX4 yX4_needWord vs_r_needWord) := goodIn_app (goodIn_sub (fun w h => (List.mem_cons_of_mem _ (List.mem_append_right _ (List.mem_append_right _ (List.mem_append_right _ (List.mem_append_right _ (List.mem_append_right _ (List.mem_append_left _ h)))))))) (by decide +kernel)) (goodIn_sub (fun w h => (List.mem_cons_of_mem _ (List.mem_append_right _ (List.mem_append_right _ (List.mem_append_right _ (List.mem_append_right _ (List.mem_append_right _ (List.mem_append_right _ (List.mem_append_left _ h))))))))) vg_r_needWord)
theorem gd_g_readRow_106_r_needNumber : GoodIn vs_g_readRow (wsV RX4 106 RX4 yX4_needNumber vs_r_needNumber) := goodIn_app (goodIn_sub (fun w h => (List.mem_cons_of_mem _ (List.mem_append_right _ (List.mem_append_right _ (List.mem_append_right _ (List.mem_append_right _ (List.mem_append_right _ (List.mem_append_right _ (List.mem_append_right _ (List.mem_append_left _ h)))))))))) (by decide +kernel)) (goodIn_sub (fun w h => (List.mem_cons_of_mem _ (List.mem_append_right _ (List.mem_append_right _ (List.mem_append_right _ (List.mem_append_right _ (List.mem_append_right _ (List.mem_append_right _ (List.mem_append_right _ (List.mem_append_right _ (List.mem_append_left _ h))))))))))) vg_r_needNumber)
theorem gd_g_readRow_114_r_needSemi : GoodIn vs_g_readRow (wsV RX4 114 RX4 yX4_needSemicolon vs_r_needSemi) := goodIn_app (goodIn_sub (fun w h => (List.mem_cons_of_mem _ (List.mem_append_right _ (List.mem_append_right _ (List.mem_append_right _ (List.mem_append_right _ (List.mem_append_right _ (List.mem_append_right _ (List.mem_append_right _ (List.mem_append_right _ (List.mem_append_right _ (List.mem_append_left _ h)))))))))))) (by decide +kernel)) (goodIn_sub (fun w h => (List.mem_cons_of_mem _ (List.mem_append_right _ (List.mem_append_right _ (List.mem_append_right _ (List.mem_append_right _ (List.mem_append_right _ (List.mem_append_right _ (List.mem_append_right _ (List.mem_append_right _ (List.mem_append_right _ (List.mem_append_right _ (List.mem_append_left _ h))))))))))))) vg_r_needSemi)
theorem gd_g_readRow_117_g_addRow : GoodIn vs_g_readRow (wsV RX4 117 RX3 yX3_addRow vs_g_addRow) := goodIn_app (goodIn_sub (fun w h => (List.mem_cons_of_mem _ (List.mem_append_right _ (List.mem_append_right _ (List.mem_append_right _ (List.mem_append_right _ (List.mem_append_right _ (List.mem_append_right _ (List.mem_append_right _ (List.mem_append_right _ (List.mem_append_right _ (List.mem_append_right _ (List.mem_append_right _ (List.mem_append_left _ h)))))))))))))) (by decide +kernel)) (goodIn_sub (fun w h => (List.mem_cons_of_mem _ (List.mem_append_right _ (List.mem_append_right _ (List.mem_append_right _ (List.mem_append_right _ (List.mem_append_right _ (List.mem_append_right _ (List.mem_append_right _ (List.mem_append_right _ (List.mem_append_right _ (List.mem_append_right _ (List.mem_append_right _ (List.mem_append_right _ (List.mem_append_left _ h))))))))))))))) vg_g_addRow)
set_option maxHeartbeats 4000000 in
set_option maxRecDepth 100000 in
theorem g_readRow (l : Launch) (dC : Nat → ClassId) (dI : Nat → Nat → Nat) (adK adV : Nat → Nat) (κ : CE) (sz : Nat) (σ : MS) (hk : PInv κ) (hI : RInv σ)  : Met l yX4_readRow vs_g_readRow rm_g_readRow (va_Pc [.ref (kA κ 0)] (wSr dC dI adK adV (rW κ σ) (rT κ) sz)) (va_Qv (fun (u : CE × MS) => PInv u.1 ∧ RInv u.2 ∧ kA u.1 = kA κ ∧ kC u.1 = kC κ ∧ True) (fun (u : CE × MS) => wEn dC dI (va_A (rW κ σ) sz) (rW u.1 u.2) []) (va_A (rW κ σ) sz)) 1 5 (va_A (rW κ σ) sz) := by
  refine Met.ofW (cc := cX4_readRow) (maxL := 6) (ret := none) (by decide +kernel) rfl ?_
  intro p e s m args below meth c s₁ B hml hv
  obtain ⟨rfl, ⟨hsz, hP, hK, hD0, hE⟩, hZ, hR⟩ := hv
  have hx := B.exec
  have hb := B.bytes
  have hr := B.returns
  have hts := atoms_spec (ws := vs_g_readRow) B.pre
  have hown : s.vm.findClass RX4 = some m.cls := findClass_of_methodNamed B.named
  have hlocks := B.notSynchronized
  subst hsz
  have hD := hD0.self (sz := s.heap.size)
  generalize hAe : va_A (rW κ σ) s.heap.size = A at hD hZ ⊢
  have hA : ∀ q : Nat, s.heap.size ≤ q → A q := fun q h => by rw [← hAe]; exact Or.inr h
  have hl := lv_entry ([.ref (kA κ 0)]) (n := 6) (Nat.le_of_ble_eq_true rfl)
  rw [lg_entry_eq]
  generalize (lg_sl ([.ref (kA κ 0)]) ++ List.replicate (6 - (lg_sl ([.ref (kA κ 0)])).length) Slot.unset).toArray = ls at hl ⊢
  have hl : lv_has ls 6 [(0, .ref (kA κ 0))] := hl
  have ho := fun w (h : w ∈ ow_g_readRow) => hts w (List.mem_cons_of_mem _ (List.mem_append_left _ h))
  have hin3 : ∀ w ∈ u_ws RX3 TX3 8, w ∈ vs_g_readRow := fun w h => (List.mem_cons_of_mem _ (List.mem_append_right _ (List.mem_append_right _ (List.mem_append_right _ (List.mem_append_right _ (List.mem_append_right _ (List.mem_append_right _ (List.mem_append_right _ (List.mem_append_right _ (List.mem_append_right _ (List.mem_append_right _ (List.mem_append_right _ (List.mem_append_right _ (List.mem_append_right _ (List.mem_append_left _ h)))))))))))))))
  have hin4 : ∀ w ∈ u_ws RX4 TX4 4, w ∈ vs_g_readRow := fun w h => (List.mem_cons_of_mem _ (List.mem_append_right _ (List.mem_append_right _ (List.mem_append_right _ (List.mem_append_right _ (List.mem_append_right _ (List.mem_append_right _ (List.mem_append_right _ (List.mem_append_right _ (List.mem_append_right _ (List.mem_append_right _ (List.mem_append_right _ (List.mem_append_right _ (List.mem_append_right _ (List.mem_append_right _ h)))))))))))))))
  refine zQ (fun Q hQ => ?_)
  refine zH (A := A) (ws := (rW κ σ)) (fun H hP hS => ?_) hP
  have hk0 := hk.1
  have hk1 := hk.2.1
  have hk2 := hk.2.2.1
  refine lv_aload_n hx hb dX4_readRow_0 rfl (lv_at hl 0 rfl) ?_
  have pt17_ : ∀ (s17_ : Int32) (H : Heap) (locs : List Loc) (ls : Array Slot), va_P (dC, dI) vwCl (rW κ σ) H → va_D A (rW κ σ) → va_S A s.heap H locs → lv_has ls 6 [(0, .ref (kA κ 0))] → W p l e (headSpec vs_g_readRow rm_g_readRow).room s m #[Value.ref (kA κ 0)] below meth c H locs 0 0 Q (F0 m 17 ls [.int s17_, .ref (kA κ 0)]) := by
    intro s17_ H locs ls hP hD hS hl
    refine zy_v (va_runV (As := [.int s17_]) (rest := []) ⟨hx, hb, hml, hown, hts⟩ (r_pass l dC dI adK adV κ H.size σ s17_ hk hI ) (cwV 1 hts gd_g_readRow_68_r_pass rfl rfl rfl dd_r_pass ⟨Nat.le_of_ble_eq_true rfl, Nat.le_of_ble_eq_true rfl⟩) (preVr hP hK hD hE hZ hR hS hA (ci := 4) (q0 := 0) rfl rfl) rfl rfl hl.1 rfl (lv_room (Nat.le_of_ble_eq_true rfl)) dX4_readRow_17 ⟨Nat.le_of_ble_eq_true rfl, Nat.le_of_ble_eq_true rfl⟩) hD hS hA (fun τ2_ H locs hq hP hD hS => ?_)
    obtain ⟨hτ2_, q3_⟩ := hq
    have q3_ : ((σ.1 1).toInt = 0 ∨ (τ2_.1 1).toInt ≠ 0) := q3_
    refine W.widen (k := 0) (n := 0) (Nat.le_of_ble_eq_true rfl) (Nat.le_of_ble_eq_true rfl) ?_
    refine lv_aload_n hx hb dX4_readRow_20 rfl (lv_at hl 0 rfl) ?_
    refine zy_l (va_runV (As := []) (rest := []) ⟨hx, hb, hml, hown, hts⟩ (r_needNewName l dC dI adK adV κ H.size τ2_  hk hτ2_ ) (cwV 0 hts gd_g_readRow_96_r_needNewName rfl rfl rfl dd_r_needNewName ⟨Nat.le_of_ble_eq_true rfl, Nat.le_of_ble_eq_true rfl⟩) (preVr hP hK hD hE hZ hR hS hA (ci := 4) (q0 := 0) rfl rfl) rfl rfl hl.1 rfl (lv_room (Nat.le_of_ble_eq_true rfl)) dX4_readRow_21 ⟨Nat.le_of_ble_eq_true rfl, Nat.le_of_ble_eq_true rfl⟩) hD hS hA (fun y4_ τ5_ H locs hq hP hD hS => ?_)
    obtain ⟨hτ5_, q6_⟩ := hq
    have q6_ : ((τ2_.1 1).toInt = 0 ∨ (τ5_.1 1).toInt ≠ 0) := q6_
    refine W.widen (k := 0) (n := 0) (Nat.le_of_ble_eq_true rfl) (Nat.le_of_ble_eq_true rfl) ?_
    refine lv_lstore_n (lv' := [(1, .long y4_), (0, .ref (kA κ 0))]) hx hb dX4_readRow_24 rfl hl (Nat.le_of_ble_eq_true rfl) rfl (fun ls hl => ?_)
    refine lv_aload_n hx hb dX4_readRow_25 rfl (lv_at hl 1 rfl) ?_
    refine va_ldcS (tx := "has ") (q := adK 3) hx hb hown (hR (100, "has ", 3) (List.mem_of_getElem? (i := 3) rfl)) dX4_readRow_26 ?_
    refine zy_v (va_runV (As := [.ref (adK 3)]) (rest := []) ⟨hx, hb, hml, hown, hts⟩ (r_needWord l dC dI adK adV κ H.size τ5_ 3 (by decide) hk hτ5_ ) (cwV 1 hts gd_g_readRow_102_r_needWord rfl rfl rfl dd_r_needWord ⟨Nat.le_of_ble_eq_true rfl, Nat.le_of_ble_eq_true rfl⟩) (preVr hP hK hD hE hZ hR hS hA (ci := 4) (q0 := 0) rfl rfl) rfl rfl hl.1 rfl (lv_room (Nat.le_of_ble_eq_true rfl)) dX4_readRow_28 ⟨Nat.le_of_ble_eq_true rfl, Nat.le_of_ble_eq_true rfl⟩) hD hS hA (fun τ8_ H locs hq hP hD hS => ?_)
    obtain ⟨hτ8_, q9_⟩ := hq
    have q9_ : ((τ5_.1 1).toInt = 0 ∨ (τ8_.1 1).toInt ≠ 0) := q9_
    refine W.widen (k := 0) (n := 0) (Nat.le_of_ble_eq_true rfl) (Nat.le_of_ble_eq_true rfl) ?_
    refine lv_aload_n hx hb dX4_readRow_31 rfl (lv_at hl 1 rfl) ?_
    refine lv_iconst (v := 1) hx hb dX4_readRow_32 rg_6 ?_
    refine lv_bipush (v := 6) hx hb dX4_readRow_33 rg_55 ?_
    refine lv_iconst (v := 0) hx hb dX4_readRow_35 rg_0 ?_
    have kk10_ : (1 : Int32).toInt = 1 := rg_18
    have kk11_ : (6 : Int32).toInt = 6 := rg_70
    have kk12_ : (0 : Int32).toInt = 0 := rg_11
    refine zy_i (va_runV (As := [.int 1, .int 6, .int 0]) (rest := []) ⟨hx, hb, hml, hown, hts⟩ (r_needNumber l dC dI adK adV κ H.size τ8_ 1 6 0 hk hτ8_ ) (cwV 3 hts gd_g_readRow_106_r_needNumber rfl rfl rfl dd_r_needNumber ⟨Nat.le_of_ble_eq_true rfl, Nat.le_of_ble_eq_true rfl⟩) (preVr hP hK hD hE hZ hR hS hA (ci := 4) (q0 := 0) rfl rfl) rfl rfl hl.1 rfl (lv_room (Nat.le_of_ble_eq_true rfl)) dX4_readRow_36 ⟨Nat.le_of_ble_eq_true rfl, Nat.le_of_ble_eq_true rfl⟩) hD hS hA (fun z13_ τ14_ H locs hq hP hD hS => ?_)
    obtain ⟨hτ14_, q15_⟩ := hq
    have q15_ : ((τ8_.1 1).toInt = 0 ∨ (τ14_.1 1).toInt ≠ 0) ∧ ((τ14_.1 1).toInt ≠ 0 ∨ ((1 : Int32).toInt ≤ z13_.toInt ∧ z13_.toInt ≤ (6 : Int32).toInt)) := q15_
    refine W.widen (k := 0) (n := 0) (Nat.le_of_ble_eq_true rfl) (Nat.le_of_ble_eq_true rfl) ?_
    refine lv_istore_n (lv' := [(3, .int z13_), (1, .long y4_), (0, .ref (kA κ 0))]) hx hb dX4_readRow_39 rfl hl (Nat.le_of_ble_eq_true rfl) rfl (fun ls hl => ?_)
    refine lv_aload_n hx hb dX4_readRow_40 rfl (lv_at hl 2 rfl) ?_
    refine va_ldcS (tx := "from ") (q := adK 4) hx hb hown (hR (110, "from ", 4) (List.mem_of_getElem? (i := 4) rfl)) dX4_readRow_41 ?_
    refine zy_v (va_runV (As := [.ref (adK 4)]) (rest := []) ⟨hx, hb, hml, hown, hts⟩ (r_needWord l dC dI adK adV κ H.size τ14_ 4 (by decide) hk hτ14_ ) (cwV 1 hts gd_g_readRow_102_r_needWord rfl rfl rfl dd_r_needWord ⟨Nat.le_of_ble_eq_true rfl, Nat.le_of_ble_eq_true rfl⟩) (preVr hP hK hD hE hZ hR hS hA (ci := 4) (q0 := 0) rfl rfl) rfl rfl hl.1 rfl (lv_room (Nat.le_of_ble_eq_true rfl)) dX4_readRow_43 ⟨Nat.le_of_ble_eq_true rfl, Nat.le_of_ble_eq_true rfl⟩) hD hS hA (fun τ17_ H locs hq hP hD hS => ?_)
    obtain ⟨hτ17_, q18_⟩ := hq
    have q18_ : ((τ14_.1 1).toInt = 0 ∨ (τ17_.1 1).toInt ≠ 0) := q18_
    refine W.widen (k := 0) (n := 0) (Nat.le_of_ble_eq_true rfl) (Nat.le_of_ble_eq_true rfl) ?_
    refine lv_aload_n hx hb dX4_readRow_46 rfl (lv_at hl 2 rfl) ?_
    refine lv_sipush (v := (-999)) hx hb dX4_readRow_47 rg_96 ?_
    refine lv_sipush (v := 999) hx hb dX4_readRow_50 rg_80 ?_
    refine lv_iconst (v := 1) hx hb dX4_readRow_53 rg_6 ?_
    have kk19_ : ((-999) : Int32).toInt = (-999) := rg_97
    have kk20_ : (999 : Int32).toInt = 999 := rg_81
    have kk21_ : (1 : Int32).toInt = 1 := rg_18
    refine zy_i (va_runV (As := [.int (-999), .int 999, .int 1]) (rest := []) ⟨hx, hb, hml, hown, hts⟩ (r_needNumber l dC dI adK adV κ H.size τ17_ (-999) 999 1 hk hτ17_ ) (cwV 3 hts gd_g_readRow_106_r_needNumber rfl rfl rfl dd_r_needNumber ⟨Nat.le_of_ble_eq_true rfl, Nat.le_of_ble_eq_true rfl⟩) (preVr hP hK hD hE hZ hR hS hA (ci := 4) (q0 := 0) rfl rfl) rfl rfl hl.1 rfl (lv_room (Nat.le_of_ble_eq_true rfl)) dX4_readRow_54 ⟨Nat.le_of_ble_eq_true rfl, Nat.le_of_ble_eq_true rfl⟩) hD hS hA (fun z22_ τ23_ H locs hq hP hD hS => ?_)
    obtain ⟨hτ23_, q24_⟩ := hq
    have q24_ : ((τ17_.1 1).toInt = 0 ∨ (τ23_.1 1).toInt ≠ 0) ∧ ((τ23_.1 1).toInt ≠ 0 ∨ ((-999 : Int32).toInt ≤ z22_.toInt ∧ z22_.toInt ≤ (999 : Int32).toInt)) := q24_
    refine W.widen (k := 0) (n := 0) (Nat.le_of_ble_eq_true rfl) (Nat.le_of_ble_eq_true rfl) ?_
    refine lv_istore (lv' := [(4, .int z22_), (3, .int z13_), (1, .long y4_), (0, .ref (kA κ 0))]) hx hb dX4_readRow_57 hl (Nat.le_of_ble_eq_true rfl) rfl (fun ls hl => ?_)
    refine lv_aload_n hx hb dX4_readRow_59 rfl (lv_at hl 3 rfl) ?_
    refine va_ldcS (tx := "to ") (q := adK 5) hx hb hown (hR (112, "to ", 5) (List.mem_of_getElem? (i := 5) rfl)) dX4_readRow_60 ?_
    refine zy_v (va_runV (As := [.ref (adK 5)]) (rest := []) ⟨hx, hb, hml, hown, hts⟩ (r_needWord l dC dI adK adV κ H.size τ23_ 5 (by decide) hk hτ23_ ) (cwV 1 hts gd_g_readRow_102_r_needWord rfl rfl rfl dd_r_needWord ⟨Nat.le_of_ble_eq_true rfl, Nat.le_of_ble_eq_true rfl⟩) (preVr hP hK hD hE hZ hR hS hA (ci := 4) (q0 := 0) rfl rfl) rfl rfl hl.1 rfl (lv_room (Nat.le_of_ble_eq_true rfl)) dX4_readRow_62 ⟨Nat.le_of_ble_eq_true rfl, Nat.le_of_ble_eq_true rfl⟩) hD hS hA (fun τ26_ H locs hq hP hD hS => ?_)
    obtain ⟨hτ26_, q27_⟩ := hq
    have q27_ : ((τ23_.1 1).toInt = 0 ∨ (τ26_.1 1).toInt ≠ 0) := q27_
    refine W.widen (k := 0) (n := 0) (Nat.le_of_ble_eq_true rfl) (Nat.le_of_ble_eq_true rfl) ?_
    refine lv_aload_n hx hb dX4_readRow_65 rfl (lv_at hl 3 rfl) ?_
    refine lv_iload hx hb dX4_readRow_66 (lv_at hl 0 rfl) ?_
    refine lv_sipush (v := 999) hx hb dX4_readRow_68 rg_80 ?_
    refine lv_iconst (v := 1) hx hb dX4_readRow_71 rg_6 ?_
    have kk28_ : (999 : Int32).toInt = 999 := rg_81
    have kk29_ : (1 : Int32).toInt = 1 := rg_18
    refine zy_i (va_runV (As := [.int z22_, .int 999, .int 1]) (rest := []) ⟨hx, hb, hml, hown, hts⟩ (r_needNumber l dC dI adK adV κ H.size τ26_ z22_ 999 1 hk hτ26_ ) (cwV 3 hts gd_g_readRow_106_r_needNumber rfl rfl rfl dd_r_needNumber ⟨Nat.le_of_ble_eq_true rfl, Nat.le_of_ble_eq_true rfl⟩) (preVr hP hK hD hE hZ hR hS hA (ci := 4) (q0 := 0) rfl rfl) rfl rfl hl.1 rfl (lv_room (Nat.le_of_ble_eq_true rfl)) dX4_readRow_72 ⟨Nat.le_of_ble_eq_true rfl, Nat.le_of_ble_eq_true rfl⟩) hD hS hA (fun z30_ τ31_ H locs hq hP hD hS => ?_)
    obtain ⟨hτ31_, q32_⟩ := hq
    have q32_ : ((τ26_.1 1).toInt = 0 ∨ (τ31_.1 1).toInt ≠ 0) ∧ ((τ31_.1 1).toInt ≠ 0 ∨ (z22_.toInt ≤ z30_.toInt ∧ z30_.toInt ≤ (999 : Int32).toInt)) := q32_
    refine W.widen (k := 0) (n := 0) (Nat.le_of_ble_eq_true rfl) (Nat.le_of_ble_eq_true rfl) ?_
    refine lv_istore (lv' := [(5, .int z30_), (4, .int z22_), (3, .int z13_), (1, .long y4_), (0, .ref (kA κ 0))]) hx hb dX4_readRow_75 hl (Nat.le_of_ble_eq_true rfl) rfl (fun ls hl => ?_)
    refine lv_aload_n hx hb dX4_readRow_77 rfl (lv_at hl 4 rfl) ?_
    refine zy_v (va_runV (As := []) (rest := []) ⟨hx, hb, hml, hown, hts⟩ (r_needSemi l dC dI adK adV κ H.size τ31_  hk hτ31_ ) (cwV 0 hts gd_g_readRow_114_r_needSemi rfl rfl rfl dd_r_needSemi ⟨Nat.le_of_ble_eq_true rfl, Nat.le_of_ble_eq_true rfl⟩) (preVr hP hK hD hE hZ hR hS hA (ci := 4) (q0 := 0) rfl rfl) rfl rfl hl.1 rfl (lv_room (Nat.le_of_ble_eq_true rfl)) dX4_readRow_78 ⟨Nat.le_of_ble_eq_true rfl, Nat.le_of_ble_eq_true rfl⟩) hD hS hA (fun τ34_ H locs hq hP hD hS => ?_)
    obtain ⟨hτ34_, q35_⟩ := hq
    have q35_ : ((τ31_.1 1).toInt = 0 ∨ (τ34_.1 1).toInt ≠ 0) := q35_
    refine W.widen (k := 0) (n := 0) (Nat.le_of_ble_eq_true rfl) (Nat.le_of_ble_eq_true rfl) ?_
    refine lv_aload_n hx hb dX4_readRow_81 rfl (lv_at hl 4 rfl) ?_
    refine va_get (D := (dC, dI)) (ci := 4) (v := .int (τ34_.1 1)) (C := RX4) (T := TX4) (N := 4) hx hb hts hin4 hown hK hP 0 rfl rfl 2 (Nat.le_of_ble_eq_true rfl) (ho (.fieldLink RX4 18 "NearEnough$Reader" "fault" "I") (List.mem_of_getElem? (i := 0) rfl)) (fun _ h9 => h9) rfl dX4_readRow_82 ?_
    refine lv_if_ne (tgt := 101) hx hb dX4_readRow_85 rfl (fun c36_ => ?_) (fun c36_ => ?_)
    · have tc36_ := (show (τ34_.1 1).toInt ≠ 0 from ti_ne rfl rg_11 c36_)
      refine W.widen (k := 1) (n := 5) (Nat.le_of_ble_eq_true rfl) (Nat.le_of_ble_eq_true rfl) ?_
      rw [hQ]
      exact W.vret hx hb hr (fun t ht hW => ⟨⟨(κ, τ34_), rfl, ⟨hk, hτ34_, rfl, rfl, trivial⟩, wEn_of hP (hK.sub [] rfl) hD ht hW⟩, hS.F ht⟩) hS.2.2 dX4_readRow_101
    · have tc36_ := (show (τ34_.1 1).toInt = 0 from ti_eq rfl rg_11 c36_)
      refine lv_aload_n hx hb dX4_readRow_88 rfl (lv_at hl 4 rfl) ?_
      refine va_get (D := (dC, dI)) (ci := 4) (v := .ref (kA κ 3)) (C := RX4) (T := TX4) (N := 4) hx hb hts hin4 hown hK hP 0 rfl rfl 1 (Nat.le_of_ble_eq_true rfl) (ho (.fieldLink RX4 12 "NearEnough$Reader" "told" "LNearEnough$Program;") (List.mem_of_getElem? (i := 1) rfl)) (fun _ h9 => h9) rfl dX4_readRow_89 ?_
      refine lv_lload_n hx hb dX4_readRow_92 rfl (lv_at hl 3 rfl) ?_
      refine lv_iload_n hx hb dX4_readRow_93 rfl (lv_at hl 2 rfl) ?_
      refine lv_iload hx hb dX4_readRow_94 (lv_at hl 1 rfl) ?_
      refine lv_iload hx hb dX4_readRow_96 (lv_at hl 0 rfl) ?_
      have o1 : 1 ≤ z13_.toInt := by omega
      have o2 : z13_.toInt ≤ 6 := by omega
      refine zy_v (va_runV (As := [.long y4_, .int z13_, .int z22_, .int z30_]) (rest := []) ⟨hx, hb, hml, hown, hts⟩ (g_addRow l dC dI adK adV κ H.size τ34_ y4_ z13_ z22_ z30_ hk hτ34_ ⟨o1, o2⟩) (cwV 4 hts gd_g_readRow_117_g_addRow rfl rfl rfl dd_g_addRow ⟨Nat.le_of_ble_eq_true rfl, Nat.le_of_ble_eq_true rfl⟩) (preVr hP hK hD hE hZ hR hS hA (ci := 3) (q0 := 3) rfl rfl) rfl rfl hl.1 rfl (lv_room (Nat.le_of_ble_eq_true rfl)) dX4_readRow_98 ⟨Nat.le_of_ble_eq_true rfl, Nat.le_of_ble_eq_true rfl⟩) hD hS hA (fun τ38_ H locs hq hP hD hS => ?_)
      obtain ⟨κ40_, τ41_⟩ := τ38_
      obtain ⟨hkκ40_, hτ41_, haκ40_, hcκ40_, q39_⟩ := hq
      have hP : va_P (dC, dI) vwCl (rW κ40_ τ41_) H := hP
      have hD : va_D A (rW κ40_ τ41_) := hD
      refine W.widen (k := 1) (n := 5) (Nat.le_of_ble_eq_true rfl) (Nat.le_of_ble_eq_true rfl) ?_
      refine W.widen (k := 1) (n := 5) (Nat.le_of_ble_eq_true rfl) (Nat.le_of_ble_eq_true rfl) ?_
      rw [hQ]
      exact W.vret hx hb hr (fun t ht hW => ⟨⟨(κ40_, τ41_), rfl, ⟨hkκ40_, hτ41_, haκ40_, hcκ40_, trivial⟩, wEn_of hP (hK.sub [] rfl) hD ht hW⟩, hS.F ht⟩) hS.2.2 dX4_readRow_101
  refine lv_aload_n hx hb dX4_readRow_1 rfl (lv_at hl 0 rfl) ?_
  refine va_get (D := (dC, dI)) (ci := 4) (v := .ref (kA κ 3)) (C := RX4) (T := TX4) (N := 4) hx hb hts hin4 hown hK hP 0 rfl rfl 1 (Nat.le_of_ble_eq_true rfl) (ho (.fieldLink RX4 12 "NearEnough$Reader" "told" "LNearEnough$Program;") (List.mem_of_getElem? (i := 1) rfl)) (fun _ h9 => h9) rfl dX4_readRow_2 ?_
  refine va_get (D := (dC, dI)) (ci := 3) (v := .int (pI κ 0)) (C := RX3) (T := TX3) (N := 8) hx hb hts hin3 hown hK hP 3 rfl rfl 5 (Nat.le_of_ble_eq_true rfl) (ho (.fieldLink RX4 93 "NearEnough$Program" "rowCount" "I") (List.mem_of_getElem? (i := 2) rfl)) (fun _ h9 => h9) rfl dX4_readRow_5 ?_
  refine lv_iconst (v := 2) hx hb dX4_readRow_8 rg_19 ?_
  refine lv_icmp_ge (tgt := 16) hx hb dX4_readRow_9 rfl (fun c42_ => ?_) (fun c42_ => ?_)
  · have tc42_ := (show 2 ≤ (pI κ 0).toInt from ti_le rg_20 rfl c42_)
    refine lv_iconst (v := 0) hx hb dX4_readRow_16 rg_0 ?_
    have kk43_ : (0 : Int32).toInt = 0 := rg_11
    exact pt17_  0 _ _ _  hP hD hS (lv_sub hl [0] rfl)
  · have tc42_ := (show (pI κ 0).toInt < 2 from ti_nle rg_20 rfl c42_)
    refine lv_iconst (v := 1) hx hb dX4_readRow_12 rg_6 ?_
    refine lv_goto (tgt := 17) hx hb dX4_readRow_13 rfl ?_
    have kk44_ : (1 : Int32).toInt = 1 := rg_18
    exact pt17_  1 _ _ _  hP hD hS (lv_sub hl [0] rfl)
def ow_g_readEnd : List Cond := [.fieldLink RX4 30 "NearEnough$Reader" "scanner" "LNearEnough$Scanner;", .fieldLink RX4 61 "NearEnough$Scanner" "place" "I", .fieldLink RX4 18 "NearEnough$Reader" "fault" "I", .fieldLink RX4 12 "NearEnough$Reader" "told" "LNearEnough$Program;", .fieldLink RX4 121 "NearEnough$Program" "endCount" "I"]
def vs_g_readEnd : List Cond := .code yX4_readEnd cX4_readEnd 5 none :: (ow_g_readEnd ++ (([.methodLink RX4 68 yX4_pass, .instanceMethod yX4_pass, .selects RX4 yX4_pass yX4_pass, .initialized RX4] : List Cond) ++ (vs_r_pass ++ (([.methodLink RX4 124 yX4_needStep, .instanceMethod yX4_needStep, .selects RX4 yX4_needStep yX4_needStep, .initialized RX4] : List Cond) ++ (vs_r_needStep ++ (([.methodLink RX4 102 yX4_needWord, .instanceMethod yX4_needWord, .selects RX4 yX4_needWord yX4_needWord, .initialized RX4] : List Cond) ++ (vs_r_needWord ++ (([.methodLink RX4 106 yX4_needNumber, .instanceMethod yX4_needNumber, .selects RX4 yX4_needNumber yX4_needNumber, .initialized RX4] : List Cond) ++ (vs_r_needNumber ++ (([.methodLink RX4 133 yX4_needEndKind, .instanceMethod yX4_needEndKind, .selects RX4 yX4_needEndKind yX4_needEndKind, .initialized RX4] : List Cond) ++ (vs_r_needEndKind ++ (([.methodLink RX4 114 yX4_needSemicolon, .instanceMethod yX4_needSemicolon, .selects RX4 yX4_needSemicolon yX4_needSemicolon, .initialized RX4] : List Cond) ++ (vs_r_needSemi ++ (([.methodLink RX4 136 yX3_addEnd, .instanceMethod yX3_addEnd, .selects RX3 yX3_addEnd yX3_addEnd, .initialized RX3] : List Cond) ++ (vs_g_addEnd ++ (([.methodLink RX4 128 yX3_hasEndOf, .instanceMethod yX3_hasEndOf, .selects RX3 yX3_hasEndOf yX3_hasEndOf, .initialized RX3] : List Cond) ++ (vs_r_hasEndOf ++ (([.methodLink RX4 64 yX4_refuse, .instanceMethod yX4_refuse, .selects RX4 yX4_refuse yX4_refuse, .initialized RX4] : List Cond) ++ (vs_r_refuse ++ (wsX30 ++ (wsX40 ++ (wsX60))))))))))))))))))))))
theorem vg_g_readEnd : vs_g_readEnd.all goodWord = true := by decide +kernel
theorem dd_g_readEnd : yX4_readEnd.cls = RX4 ∧ yX4_readEnd.cls ≠ "java/lang/invoke/MethodHandle" ∧ yX4_readEnd.cls ≠ "java/lang/invoke/VarHandle" ∧ (parseMethodDescriptor yX4_readEnd.desc).map (fun d => d.parameters.length) = some 0 := by decide +kernel
def rm_g_readEnd : Room := { frames := 7, cells := 0, slots := 0, locals := 152 }
theorem gd_g_readEnd_68_r_pass : GoodIn vs_g_readEnd (wsV RX4 68 RX4 yX4_pass vs_r_pass) := goodIn_app (goodIn_sub (fun w h => (List.mem_cons_of_mem _ (List.mem_append_right _ (List.mem_append_left _ h)))) (by decide +kernel)) (goodIn_sub (fun w h => (List.mem_cons_of_mem _ (List.mem_append_right _ (List.mem_append_right _ (List.mem_append_left _ h))))) vg_r_pass)
theorem gd_g_readEnd_124_r_needStep : GoodIn vs_g_readEnd (wsV RX4 124 RX4 yX4_needStep vs_r_needStep) := goodIn_app (goodIn_sub (fun w h => (List.mem_cons_of_mem _ (List.mem_append_right _ (List.mem_append_right _ (List.mem_append_right _ (List.mem_append_left _ h)))))) (by decide +kernel)) (goodIn_sub (fun w h => (List.mem_cons_of_mem _ (List.mem_append_right _ (List.mem_append_right _ (List.mem_append_right _ (List.mem_append_right _ (List.mem_append_left _ h))))))) vg_r_needStep)
theorem gd_g_readEnd_102_r_needWord : GoodIn vs_g_readEnd (wsV RX4 102 RX4 yX4_needWord vs_r_needWord) := goodIn_app (goodIn_sub (fun w h => (List.mem_cons_of_mem _ (List.mem_append_right _ (List.mem_append_right _ (List.mem_append_right _ (List.mem_append_right _ (List.mem_append_right _ (List.mem_append_left _ h)))))))) (by decide +kernel)) (goodIn_sub (fun w h => (List.mem_cons_of_mem _ (List.mem_append_right _ (List.mem_append_right _ (List.mem_append_right _ (List.mem_append_right _ (List.mem_append_right _ (List.mem_append_right _ (List.mem_append_left _ h))))))))) vg_r_needWord)
theorem gd_g_readEnd_106_r_needNumber : GoodIn vs_g_readEnd (wsV RX4 106 RX4 yX4_needNumber vs_r_needNumber) := goodIn_app (goodIn_sub (fun w h => (List.mem_cons_of_mem _ (List.mem_append_right _ (List.mem_append_right _ (List.mem_append_right _ (List.mem_append_right _ (List.mem_append_right _ (List.mem_append_right _ (List.mem_append_right _ (List.mem_append_left _ h)))))))))) (by decide +kernel)) (goodIn_sub (fun w h => (List.mem_cons_of_mem _ (List.mem_append_right _ (List.mem_append_right _ (List.mem_append_right _ (List.mem_append_right _ (List.mem_append_right _ (List.mem_append_right _ (List.mem_append_right _ (List.mem_append_right _ (List.mem_append_left _ h))))))))))) vg_r_needNumber)
theorem gd_g_readEnd_133_r_needEndKind : GoodIn vs_g_readEnd (wsV RX4 133 RX4 yX4_needEndKind vs_r_needEndKind) := goodIn_app (goodIn_sub (fun w h => (List.mem_cons_of_mem _ (List.mem_append_right _ (List.mem_append_right _ (List.mem_append_right _ (List.mem_append_right _ (List.mem_append_right _ (List.mem_append_right _ (List.mem_append_right _ (List.mem_append_right _ (List.mem_append_right _ (List.mem_append_left _ h)))))))))))) (by decide +kernel)) (goodIn_sub (fun w h => (List.mem_cons_of_mem _ (List.mem_append_right _ (List.mem_append_right _ (List.mem_append_right _ (List.mem_append_right _ (List.mem_append_right _ (List.mem_append_right _ (List.mem_append_right _ (List.mem_append_right _ (List.mem_append_right _ (List.mem_append_right _ (List.mem_append_left _ h))))))))))))) vg_r_needEndKind)
theorem gd_g_readEnd_114_r_needSemi : GoodIn vs_g_readEnd (wsV RX4 114 RX4 yX4_needSemicolon vs_r_needSemi) := goodIn_app (goodIn_sub (fun w h => (List.mem_cons_of_mem _ (List.mem_append_right _ (List.mem_append_right _ (List.mem_append_right _ (List.mem_append_right _ (List.mem_append_right _ (List.mem_append_right _ (List.mem_append_right _ (List.mem_append_right _ (List.mem_append_right _ (List.mem_append_right _ (List.mem_append_right _ (List.mem_append_left _ h)))))))))))))) (by decide +kernel)) (goodIn_sub (fun w h => (List.mem_cons_of_mem _ (List.mem_append_right _ (List.mem_append_right _ (List.mem_append_right _ (List.mem_append_right _ (List.mem_append_right _ (List.mem_append_right _ (List.mem_append_right _ (List.mem_append_right _ (List.mem_append_right _ (List.mem_append_right _ (List.mem_append_right _ (List.mem_append_right _ (List.mem_append_left _ h))))))))))))))) vg_r_needSemi)
theorem gd_g_readEnd_136_g_addEnd : GoodIn vs_g_readEnd (wsV RX4 136 RX3 yX3_addEnd vs_g_addEnd) := goodIn_app (goodIn_sub (fun w h => (List.mem_cons_of_mem _ (List.mem_append_right _ (List.mem_append_right _ (List.mem_append_right _ (List.mem_append_right _ (List.mem_append_right _ (List.mem_append_right _ (List.mem_append_right _ (List.mem_append_right _ (List.mem_append_right _ (List.mem_append_right _ (List.mem_append_right _ (List.mem_append_right _ (List.mem_append_right _ (List.mem_append_left _ h)))))))))))))))) (by decide +kernel)) (goodIn_sub (fun w h => (List.mem_cons_of_mem _ (List.mem_append_right _ (List.mem_append_right _ (List.mem_append_right _ (List.mem_append_right _ (List.mem_append_right _ (List.mem_append_right _ (List.mem_append_right _ (List.mem_append_right _ (List.mem_append_right _ (List.mem_append_right _ (List.mem_append_right _ (List.mem_append_right _ (List.mem_append_right _ (List.mem_append_right _ (List.mem_append_left _ h))))))))))))))))) vg_g_addEnd)
theorem gd_g_readEnd_128_r_hasEndOf : GoodIn vs_g_readEnd (wsV RX4 128 RX3 yX3_hasEndOf vs_r_hasEndOf) := goodIn_app (goodIn_sub (fun w h => (List.mem_cons_of_mem _ (List.mem_append_right _ (List.mem_append_right _ (List.mem_append_right _ (List.mem_append_right _ (List.mem_append_right _ (List.mem_append_right _ (List.mem_append_right _ (List.mem_append_right _ (List.mem_append_right _ (List.mem_append_right _ (List.mem_append_right _ (List.mem_append_right _ (List.mem_append_right _ (List.mem_append_right _ (List.mem_append_right _ (List.mem_append_left _ h)))))))))))))))))) (by decide +kernel)) (goodIn_sub (fun w h => (List.mem_cons_of_mem _ (List.mem_append_right _ (List.mem_append_right _ (List.mem_append_right _ (List.mem_append_right _ (List.mem_append_right _ (List.mem_append_right _ (List.mem_append_right _ (List.mem_append_right _ (List.mem_append_right _ (List.mem_append_right _ (List.mem_append_right _ (List.mem_append_right _ (List.mem_append_right _ (List.mem_append_right _ (List.mem_append_right _ (List.mem_append_right _ (List.mem_append_left _ h))))))))))))))))))) vg_r_hasEndOf)
theorem gd_g_readEnd_64_r_refuse : GoodIn vs_g_readEnd (wsV RX4 64 RX4 yX4_refuse vs_r_refuse) := goodIn_app (goodIn_sub (fun w h => (List.mem_cons_of_mem _ (List.mem_append_right _ (List.mem_append_right _ (List.mem_append_right _ (List.mem_append_right _ (List.mem_append_right _ (List.mem_append_right _ (List.mem_append_right _ (List.mem_append_right _ (List.mem_append_right _ (List.mem_append_right _ (List.mem_append_right _ (List.mem_append_right _ (List.mem_append_right _ (List.mem_append_right _ (List.mem_append_right _ (List.mem_append_right _ (List.mem_append_right _ (List.mem_append_left _ h)))))))))))))))))))) (by decide +kernel)) (goodIn_sub (fun w h => (List.mem_cons_of_mem _ (List.mem_append_right _ (List.mem_append_right _ (List.mem_append_right _ (List.mem_append_right _ (List.mem_append_right _ (List.mem_append_right _ (List.mem_append_right _ (List.mem_append_right _ (List.mem_append_right _ (List.mem_append_right _ (List.mem_append_right _ (List.mem_append_right _ (List.mem_append_right _ (List.mem_append_right _ (List.mem_append_right _ (List.mem_append_right _ (List.mem_append_right _ (List.mem_append_right _ (List.mem_append_left _ h))))))))))))))))))))) vg_r_refuse)
set_option maxHeartbeats 4000000 in
set_option maxRecDepth 100000 in
theorem g_readEnd (l : Launch) (dC : Nat → ClassId) (dI : Nat → Nat → Nat) (adK adV : Nat → Nat) (κ : CE) (sz : Nat) (σ : MS) (hk : PInv κ) (hI : RInv σ)  : Met l yX4_readEnd vs_g_readEnd rm_g_readEnd (va_Pc [.ref (kA κ 0)] (wSr dC dI adK adV (rW κ σ) (rT κ) sz)) (va_Qv (fun (u : CE × MS) => PInv u.1 ∧ RInv u.2 ∧ kA u.1 = kA κ ∧ kC u.1 = kC κ ∧ True) (fun (u : CE × MS) => wEn dC dI (va_A (rW κ σ) sz) (rW u.1 u.2) []) (va_A (rW κ σ) sz)) 0 0 (va_A (rW κ σ) sz) := by
  refine Met.ofW (cc := cX4_readEnd) (maxL := 5) (ret := none) (by decide +kernel) rfl ?_
  intro p e s m args below meth c s₁ B hml hv
  obtain ⟨rfl, ⟨hsz, hP, hK, hD0, hE⟩, hZ, hR⟩ := hv
  have hx := B.exec
  have hb := B.bytes
  have hr := B.returns
  have hts := atoms_spec (ws := vs_g_readEnd) B.pre
  have hown : s.vm.findClass RX4 = some m.cls := findClass_of_methodNamed B.named
  have hlocks := B.notSynchronized
  subst hsz
  have hD := hD0.self (sz := s.heap.size)
  generalize hAe : va_A (rW κ σ) s.heap.size = A at hD hZ ⊢
  have hA : ∀ q : Nat, s.heap.size ≤ q → A q := fun q h => by rw [← hAe]; exact Or.inr h
  have hl := lv_entry ([.ref (kA κ 0)]) (n := 5) (Nat.le_of_ble_eq_true rfl)
  rw [lg_entry_eq]
  generalize (lg_sl ([.ref (kA κ 0)]) ++ List.replicate (5 - (lg_sl ([.ref (kA κ 0)])).length) Slot.unset).toArray = ls at hl ⊢
  have hl : lv_has ls 5 [(0, .ref (kA κ 0))] := hl
  have ho := fun w (h : w ∈ ow_g_readEnd) => hts w (List.mem_cons_of_mem _ (List.mem_append_left _ h))
  have hin3 : ∀ w ∈ u_ws RX3 TX3 8, w ∈ vs_g_readEnd := fun w h => (List.mem_cons_of_mem _ (List.mem_append_right _ (List.mem_append_right _ (List.mem_append_right _ (List.mem_append_right _ (List.mem_append_right _ (List.mem_append_right _ (List.mem_append_right _ (List.mem_append_right _ (List.mem_append_right _ (List.mem_append_right _ (List.mem_append_right _ (List.mem_append_right _ (List.mem_append_right _ (List.mem_append_right _ (List.mem_append_right _ (List.mem_append_right _ (List.mem_append_right _ (List.mem_append_right _ (List.mem_append_right _ (List.mem_append_left _ h)))))))))))))))))))))
  have hin4 : ∀ w ∈ u_ws RX4 TX4 4, w ∈ vs_g_readEnd := fun w h => (List.mem_cons_of_mem _ (List.mem_append_right _ (List.mem_append_right _ (List.mem_append_right _ (List.mem_append_right _ (List.mem_append_right _ (List.mem_append_right _ (List.mem_append_right _ (List.mem_append_right _ (List.mem_append_right _ (List.mem_append_right _ (List.mem_append_right _ (List.mem_append_right _ (List.mem_append_right _ (List.mem_append_right _ (List.mem_append_right _ (List.mem_append_right _ (List.mem_append_right _ (List.mem_append_right _ (List.mem_append_right _ (List.mem_append_right _ (List.mem_append_left _ h))))))))))))))))))))))
  have hin6 : ∀ w ∈ u_ws RX6 TX6 7, w ∈ vs_g_readEnd := fun w h => (List.mem_cons_of_mem _ (List.mem_append_right _ (List.mem_append_right _ (List.mem_append_right _ (List.mem_append_right _ (List.mem_append_right _ (List.mem_append_right _ (List.mem_append_right _ (List.mem_append_right _ (List.mem_append_right _ (List.mem_append_right _ (List.mem_append_right _ (List.mem_append_right _ (List.mem_append_right _ (List.mem_append_right _ (List.mem_append_right _ (List.mem_append_right _ (List.mem_append_right _ (List.mem_append_right _ (List.mem_append_right _ (List.mem_append_right _ (List.mem_append_right _ h))))))))))))))))))))))
  refine zQ (fun Q hQ => ?_)
  refine zH (A := A) (ws := (rW κ σ)) (fun H hP hS => ?_) hP
  have hk0 := hk.1
  have hk1 := hk.2.1
  have hk2 := hk.2.2.1
  refine lv_aload_n hx hb dX4_readEnd_0 rfl (lv_at hl 0 rfl) ?_
  have pt17_ : ∀ (s17_ : Int32) (H : Heap) (locs : List Loc) (ls : Array Slot), va_P (dC, dI) vwCl (rW κ σ) H → va_D A (rW κ σ) → va_S A s.heap H locs → lv_has ls 5 [(0, .ref (kA κ 0))] → W p l e (headSpec vs_g_readEnd rm_g_readEnd).room s m #[Value.ref (kA κ 0)] below meth c H locs 0 0 Q (F0 m 17 ls [.int s17_, .ref (kA κ 0)]) := by
    intro s17_ H locs ls hP hD hS hl
    refine zy_v (va_runV (As := [.int s17_]) (rest := []) ⟨hx, hb, hml, hown, hts⟩ (r_pass l dC dI adK adV κ H.size σ s17_ hk hI ) (cwV 1 hts gd_g_readEnd_68_r_pass rfl rfl rfl dd_r_pass ⟨Nat.le_of_ble_eq_true rfl, Nat.le_of_ble_eq_true rfl⟩) (preVr hP hK hD hE hZ hR hS hA (ci := 4) (q0 := 0) rfl rfl) rfl rfl hl.1 rfl (lv_room (Nat.le_of_ble_eq_true rfl)) dX4_readEnd_17 ⟨Nat.le_of_ble_eq_true rfl, Nat.le_of_ble_eq_true rfl⟩) hD hS hA (fun τ2_ H locs hq hP hD hS => ?_)
    obtain ⟨hτ2_, q3_⟩ := hq
    have q3_ : ((σ.1 1).toInt = 0 ∨ (τ2_.1 1).toInt ≠ 0) := q3_
    refine W.widen (k := 0) (n := 0) (Nat.le_of_ble_eq_true rfl) (Nat.le_of_ble_eq_true rfl) ?_
    refine lv_aload_n hx hb dX4_readEnd_20 rfl (lv_at hl 0 rfl) ?_
    refine va_get (D := (dC, dI)) (ci := 4) (v := .ref (kA κ 1)) (C := RX4) (T := TX4) (N := 4) hx hb hts hin4 hown hK hP 0 rfl rfl 0 (Nat.le_of_ble_eq_true rfl) (ho (.fieldLink RX4 30 "NearEnough$Reader" "scanner" "LNearEnough$Scanner;") (List.mem_of_getElem? (i := 0) rfl)) (fun _ h9 => h9) rfl dX4_readEnd_21 ?_
    have bτ2__5 : 0 ≤ (τ2_.1 5).toInt ∧ (τ2_.1 5).toInt ≤ 1000 := hτ2_ 5
    refine va_get (D := (dC, dI)) (ci := 6) (v := .int (τ2_.1 5)) (C := RX6) (T := TX6) (N := 7) hx hb hts hin6 hown hK hP 1 rfl rfl 4 (Nat.le_of_ble_eq_true rfl) (ho (.fieldLink RX4 61 "NearEnough$Scanner" "place" "I") (List.mem_of_getElem? (i := 1) rfl)) (fun _ h9 => h9) rfl dX4_readEnd_24 ?_
    refine lv_istore_n (lv' := [(1, .int (τ2_.1 5)), (0, .ref (kA κ 0))]) hx hb dX4_readEnd_27 rfl hl (Nat.le_of_ble_eq_true rfl) rfl (fun ls hl => ?_)
    refine lv_aload_n hx hb dX4_readEnd_28 rfl (lv_at hl 1 rfl) ?_
    refine zy_i (va_runV (As := []) (rest := []) ⟨hx, hb, hml, hown, hts⟩ (r_needStep l dC dI adK adV κ H.size τ2_  hk hτ2_ ) (cwV 0 hts gd_g_readEnd_124_r_needStep rfl rfl rfl dd_r_needStep ⟨Nat.le_of_ble_eq_true rfl, Nat.le_of_ble_eq_true rfl⟩) (preVr hP hK hD hE hZ hR hS hA (ci := 4) (q0 := 0) rfl rfl) rfl rfl hl.1 rfl (lv_room (Nat.le_of_ble_eq_true rfl)) dX4_readEnd_29 ⟨Nat.le_of_ble_eq_true rfl, Nat.le_of_ble_eq_true rfl⟩) hD hS hA (fun z4_ τ5_ H locs hq hP hD hS => ?_)
    obtain ⟨hτ5_, q6_⟩ := hq
    have q6_ : ((τ2_.1 1).toInt = 0 ∨ (τ5_.1 1).toInt ≠ 0) ∧ 0 ≤ z4_.toInt ∧ z4_.toInt ≤ 11 ∧ ((τ5_.1 1).toInt ≠ 0 ∨ z4_.toInt < (pI κ 1).toInt) := q6_
    refine W.widen (k := 0) (n := 0) (Nat.le_of_ble_eq_true rfl) (Nat.le_of_ble_eq_true rfl) ?_
    refine lv_istore_n (lv' := [(2, .int z4_), (1, .int (τ2_.1 5)), (0, .ref (kA κ 0))]) hx hb dX4_readEnd_32 rfl hl (Nat.le_of_ble_eq_true rfl) rfl (fun ls hl => ?_)
    have pt57_ : ∀ (σ57_ : MS) (H : Heap) (locs : List Loc) (ls : Array Slot), RInv σ57_ → ((τ5_.1 1).toInt = 0 ∨ (σ57_.1 1).toInt ≠ 0) → va_P (dC, dI) vwCl (rW κ σ57_) H → va_D A (rW κ σ57_) → va_S A s.heap H locs → lv_has ls 5 [(2, .int z4_), (0, .ref (kA κ 0))] → W p l e (headSpec vs_g_readEnd rm_g_readEnd).room s m #[Value.ref (kA κ 0)] below meth c H locs 0 0 Q (F0 m 57 ls []) := by
      intro σ57_ H locs ls hIσ57_ hf57_0_ hP hD hS hl
      refine lv_aload_n hx hb dX4_readEnd_57 rfl (lv_at hl 1 rfl) ?_
      refine va_ldcS (tx := "off ") (q := adK 6) hx hb hown (hR (131, "off ", 6) (List.mem_of_getElem? (i := 6) rfl)) dX4_readEnd_58 ?_
      refine zy_v (va_runV (As := [.ref (adK 6)]) (rest := []) ⟨hx, hb, hml, hown, hts⟩ (r_needWord l dC dI adK adV κ H.size σ57_ 6 (by decide) hk hIσ57_ ) (cwV 1 hts gd_g_readEnd_102_r_needWord rfl rfl rfl dd_r_needWord ⟨Nat.le_of_ble_eq_true rfl, Nat.le_of_ble_eq_true rfl⟩) (preVr hP hK hD hE hZ hR hS hA (ci := 4) (q0 := 0) rfl rfl) rfl rfl hl.1 rfl (lv_room (Nat.le_of_ble_eq_true rfl)) dX4_readEnd_60 ⟨Nat.le_of_ble_eq_true rfl, Nat.le_of_ble_eq_true rfl⟩) hD hS hA (fun τ8_ H locs hq hP hD hS => ?_)
      obtain ⟨hτ8_, q9_⟩ := hq
      have q9_ : ((σ57_.1 1).toInt = 0 ∨ (τ8_.1 1).toInt ≠ 0) := q9_
      refine W.widen (k := 0) (n := 0) (Nat.le_of_ble_eq_true rfl) (Nat.le_of_ble_eq_true rfl) ?_
      refine lv_aload_n hx hb dX4_readEnd_63 rfl (lv_at hl 1 rfl) ?_
      refine lv_iconst (v := 0) hx hb dX4_readEnd_64 rg_0 ?_
      refine lv_sipush (v := 9999) hx hb dX4_readEnd_65 rg_385 ?_
      refine lv_iconst (v := 0) hx hb dX4_readEnd_68 rg_0 ?_
      have kk10_ : (0 : Int32).toInt = 0 := rg_11
      have kk11_ : (9999 : Int32).toInt = 9999 := rg_386
      have kk12_ : (0 : Int32).toInt = 0 := rg_11
      refine zy_i (va_runV (As := [.int 0, .int 9999, .int 0]) (rest := []) ⟨hx, hb, hml, hown, hts⟩ (r_needNumber l dC dI adK adV κ H.size τ8_ 0 9999 0 hk hτ8_ ) (cwV 3 hts gd_g_readEnd_106_r_needNumber rfl rfl rfl dd_r_needNumber ⟨Nat.le_of_ble_eq_true rfl, Nat.le_of_ble_eq_true rfl⟩) (preVr hP hK hD hE hZ hR hS hA (ci := 4) (q0 := 0) rfl rfl) rfl rfl hl.1 rfl (lv_room (Nat.le_of_ble_eq_true rfl)) dX4_readEnd_69 ⟨Nat.le_of_ble_eq_true rfl, Nat.le_of_ble_eq_true rfl⟩) hD hS hA (fun z13_ τ14_ H locs hq hP hD hS => ?_)
      obtain ⟨hτ14_, q15_⟩ := hq
      have q15_ : ((τ8_.1 1).toInt = 0 ∨ (τ14_.1 1).toInt ≠ 0) ∧ ((τ14_.1 1).toInt ≠ 0 ∨ ((0 : Int32).toInt ≤ z13_.toInt ∧ z13_.toInt ≤ (9999 : Int32).toInt)) := q15_
      refine W.widen (k := 0) (n := 0) (Nat.le_of_ble_eq_true rfl) (Nat.le_of_ble_eq_true rfl) ?_
      refine lv_istore_n (lv' := [(3, .int z13_), (2, .int z4_), (0, .ref (kA κ 0))]) hx hb dX4_readEnd_72 rfl hl (Nat.le_of_ble_eq_true rfl) rfl (fun ls hl => ?_)
      refine lv_aload_n hx hb dX4_readEnd_73 rfl (lv_at hl 2 rfl) ?_
      refine zy_i (va_runV (As := []) (rest := []) ⟨hx, hb, hml, hown, hts⟩ (r_needEndKind l dC dI adK adV κ H.size τ14_  hk hτ14_ ) (cwV 0 hts gd_g_readEnd_133_r_needEndKind rfl rfl rfl dd_r_needEndKind ⟨Nat.le_of_ble_eq_true rfl, Nat.le_of_ble_eq_true rfl⟩) (preVr hP hK hD hE hZ hR hS hA (ci := 4) (q0 := 0) rfl rfl) rfl rfl hl.1 rfl (lv_room (Nat.le_of_ble_eq_true rfl)) dX4_readEnd_74 ⟨Nat.le_of_ble_eq_true rfl, Nat.le_of_ble_eq_true rfl⟩) hD hS hA (fun z16_ τ17_ H locs hq hP hD hS => ?_)
      obtain ⟨hτ17_, q18_⟩ := hq
      have q18_ : ((τ14_.1 1).toInt = 0 ∨ (τ17_.1 1).toInt ≠ 0) := q18_
      refine W.widen (k := 0) (n := 0) (Nat.le_of_ble_eq_true rfl) (Nat.le_of_ble_eq_true rfl) ?_
      refine lv_istore (lv' := [(4, .int z16_), (3, .int z13_), (2, .int z4_), (0, .ref (kA κ 0))]) hx hb dX4_readEnd_77 hl (Nat.le_of_ble_eq_true rfl) rfl (fun ls hl => ?_)
      refine lv_aload_n hx hb dX4_readEnd_79 rfl (lv_at hl 3 rfl) ?_
      refine zy_v (va_runV (As := []) (rest := []) ⟨hx, hb, hml, hown, hts⟩ (r_needSemi l dC dI adK adV κ H.size τ17_  hk hτ17_ ) (cwV 0 hts gd_g_readEnd_114_r_needSemi rfl rfl rfl dd_r_needSemi ⟨Nat.le_of_ble_eq_true rfl, Nat.le_of_ble_eq_true rfl⟩) (preVr hP hK hD hE hZ hR hS hA (ci := 4) (q0 := 0) rfl rfl) rfl rfl hl.1 rfl (lv_room (Nat.le_of_ble_eq_true rfl)) dX4_readEnd_80 ⟨Nat.le_of_ble_eq_true rfl, Nat.le_of_ble_eq_true rfl⟩) hD hS hA (fun τ20_ H locs hq hP hD hS => ?_)
      obtain ⟨hτ20_, q21_⟩ := hq
      have q21_ : ((τ17_.1 1).toInt = 0 ∨ (τ20_.1 1).toInt ≠ 0) := q21_
      refine W.widen (k := 0) (n := 0) (Nat.le_of_ble_eq_true rfl) (Nat.le_of_ble_eq_true rfl) ?_
      refine lv_aload_n hx hb dX4_readEnd_83 rfl (lv_at hl 3 rfl) ?_
      refine va_get (D := (dC, dI)) (ci := 4) (v := .int (τ20_.1 1)) (C := RX4) (T := TX4) (N := 4) hx hb hts hin4 hown hK hP 0 rfl rfl 2 (Nat.le_of_ble_eq_true rfl) (ho (.fieldLink RX4 18 "NearEnough$Reader" "fault" "I") (List.mem_of_getElem? (i := 2) rfl)) (fun _ h9 => h9) rfl dX4_readEnd_84 ?_
      refine lv_if_ne (tgt := 101) hx hb dX4_readEnd_87 rfl (fun c22_ => ?_) (fun c22_ => ?_)
      · have tc22_ := (show (τ20_.1 1).toInt ≠ 0 from ti_ne rfl rg_11 c22_)
        rw [hQ]
        exact W.vret hx hb hr (fun t ht hW => ⟨⟨(κ, τ20_), rfl, ⟨hk, hτ20_, rfl, rfl, trivial⟩, wEn_of hP (hK.sub [] rfl) hD ht hW⟩, hS.F ht⟩) hS.2.2 dX4_readEnd_101
      · have tc22_ := (show (τ20_.1 1).toInt = 0 from ti_eq rfl rg_11 c22_)
        refine lv_aload_n hx hb dX4_readEnd_90 rfl (lv_at hl 3 rfl) ?_
        refine va_get (D := (dC, dI)) (ci := 4) (v := .ref (kA κ 3)) (C := RX4) (T := TX4) (N := 4) hx hb hts hin4 hown hK hP 0 rfl rfl 1 (Nat.le_of_ble_eq_true rfl) (ho (.fieldLink RX4 12 "NearEnough$Reader" "told" "LNearEnough$Program;") (List.mem_of_getElem? (i := 3) rfl)) (fun _ h9 => h9) rfl dX4_readEnd_91 ?_
        refine lv_iload_n hx hb dX4_readEnd_94 rfl (lv_at hl 2 rfl) ?_
        refine lv_iload_n hx hb dX4_readEnd_95 rfl (lv_at hl 1 rfl) ?_
        refine lv_iload hx hb dX4_readEnd_96 (lv_at hl 0 rfl) ?_
        have o1 : 0 ≤ z4_.toInt := by omega
        have o2 : z4_.toInt < (pI κ 1).toInt := by omega
        refine zy_v (va_runV (As := [.int z4_, .int z13_, .int z16_]) (rest := []) ⟨hx, hb, hml, hown, hts⟩ (g_addEnd l dC dI adK adV κ H.size τ20_ z4_ z13_ z16_ hk hτ20_ ⟨o1, o2⟩) (cwV 3 hts gd_g_readEnd_136_g_addEnd rfl rfl rfl dd_g_addEnd ⟨Nat.le_of_ble_eq_true rfl, Nat.le_of_ble_eq_true rfl⟩) (preVr hP hK hD hE hZ hR hS hA (ci := 3) (q0 := 3) rfl rfl) rfl rfl hl.1 rfl (lv_room (Nat.le_of_ble_eq_true rfl)) dX4_readEnd_98 ⟨Nat.le_of_ble_eq_true rfl, Nat.le_of_ble_eq_true rfl⟩) hD hS hA (fun τ24_ H locs hq hP hD hS => ?_)
        obtain ⟨κ26_, τ27_⟩ := τ24_
        obtain ⟨hkκ26_, hτ27_, haκ26_, hcκ26_, q25_⟩ := hq
        have hP : va_P (dC, dI) vwCl (rW κ26_ τ27_) H := hP
        have hD : va_D A (rW κ26_ τ27_) := hD
        have q25_ : (τ27_.1 1).toInt = (τ20_.1 1).toInt := q25_
        refine W.widen (k := 0) (n := 0) (Nat.le_of_ble_eq_true rfl) (Nat.le_of_ble_eq_true rfl) ?_
        rw [hQ]
        exact W.vret hx hb hr (fun t ht hW => ⟨⟨(κ26_, τ27_), rfl, ⟨hkκ26_, hτ27_, haκ26_, hcκ26_, trivial⟩, wEn_of hP (hK.sub [] rfl) hD ht hW⟩, hS.F ht⟩) hS.2.2 dX4_readEnd_101
    refine lv_aload_n hx hb dX4_readEnd_33 rfl (lv_at hl 2 rfl) ?_
    refine va_get (D := (dC, dI)) (ci := 4) (v := .int (τ5_.1 1)) (C := RX4) (T := TX4) (N := 4) hx hb hts hin4 hown hK hP 0 rfl rfl 2 (Nat.le_of_ble_eq_true rfl) (ho (.fieldLink RX4 18 "NearEnough$Reader" "fault" "I") (List.mem_of_getElem? (i := 2) rfl)) (fun _ h9 => h9) rfl dX4_readEnd_34 ?_
    refine lv_if_ne (tgt := 57) hx hb dX4_readEnd_37 rfl (fun c28_ => ?_) (fun c28_ => ?_)
    · have tc28_ := (show (τ5_.1 1).toInt ≠ 0 from ti_ne rfl rg_11 c28_)
      have o3 : (τ5_.1 1).toInt = 0 ∨ (τ5_.1 1).toInt ≠ 0 := by omega
      exact pt57_ τ5_  _ _ _ hτ5_ o3 hP hD hS (lv_sub hl [0, 2] rfl)
    · have tc28_ := (show (τ5_.1 1).toInt = 0 from ti_eq rfl rg_11 c28_)
      refine lv_aload_n hx hb dX4_readEnd_40 rfl (lv_at hl 2 rfl) ?_
      refine va_get (D := (dC, dI)) (ci := 4) (v := .ref (kA κ 3)) (C := RX4) (T := TX4) (N := 4) hx hb hts hin4 hown hK hP 0 rfl rfl 1 (Nat.le_of_ble_eq_true rfl) (ho (.fieldLink RX4 12 "NearEnough$Reader" "told" "LNearEnough$Program;") (List.mem_of_getElem? (i := 3) rfl)) (fun _ h9 => h9) rfl dX4_readEnd_41 ?_
      refine lv_iload_n hx hb dX4_readEnd_44 rfl (lv_at hl 0 rfl) ?_
      refine zy_i (va_runV (As := [.int z4_]) (rest := []) ⟨hx, hb, hml, hown, hts⟩ (r_hasEndOf l dC dI adK adV κ H.size τ5_ z4_ hk hτ5_ ) (cwV 1 hts gd_g_readEnd_128_r_hasEndOf rfl rfl rfl dd_r_hasEndOf ⟨Nat.le_of_ble_eq_true rfl, Nat.le_of_ble_eq_true rfl⟩) (preVr hP hK hD hE hZ hR hS hA (ci := 3) (q0 := 3) rfl rfl) rfl rfl hl.1 rfl (lv_room (Nat.le_of_ble_eq_true rfl)) dX4_readEnd_45 ⟨Nat.le_of_ble_eq_true rfl, Nat.le_of_ble_eq_true rfl⟩) hD hS hA (fun z29_ τ30_ H locs hq hP hD hS => ?_)
      obtain ⟨hτ30_, q31_⟩ := hq
      rw [hτ30_] at hP hD
      have q31_ : z29_.toInt = 0 ∨ z29_.toInt = 1 := q31_
      refine W.widen (k := 0) (n := 0) (Nat.le_of_ble_eq_true rfl) (Nat.le_of_ble_eq_true rfl) ?_
      refine lv_if_eq (tgt := 57) hx hb dX4_readEnd_48 rfl (fun c32_ => ?_) (fun c32_ => ?_)
      · have tc32_ := (show z29_.toInt = 0 from ti_eq rfl rg_11 c32_)
        have o4 : (τ5_.1 1).toInt = 0 ∨ (τ5_.1 1).toInt ≠ 0 := by omega
        exact pt57_ τ5_  _ _ _ hτ5_ o4 hP hD hS (lv_sub hl [0, 2] rfl)
      · have tc32_ := (show z29_.toInt ≠ 0 from ti_ne rfl rg_11 c32_)
        refine lv_aload_n hx hb dX4_readEnd_51 rfl (lv_at hl 2 rfl) ?_
        refine lv_iconst (v := 3) hx hb dX4_readEnd_52 rg_16 ?_
        refine lv_iload_n hx hb dX4_readEnd_53 rfl (lv_at hl 1 rfl) ?_
        have kk33_ : (3 : Int32).toInt = 3 := rg_17
        refine zy_v (va_runV (As := [.int 3, .int (τ2_.1 5)]) (rest := []) ⟨hx, hb, hml, hown, hts⟩ (r_refuse l dC dI adK adV κ H.size τ5_ 3 (τ2_.1 5) hk hτ5_ (by decide)) (cwV 2 hts gd_g_readEnd_64_r_refuse rfl rfl rfl dd_r_refuse ⟨Nat.le_of_ble_eq_true rfl, Nat.le_of_ble_eq_true rfl⟩) (preVr hP hK hD hE hZ hR hS hA (ci := 4) (q0 := 0) rfl rfl) rfl rfl hl.1 rfl (lv_room (Nat.le_of_ble_eq_true rfl)) dX4_readEnd_54 ⟨Nat.le_of_ble_eq_true rfl, Nat.le_of_ble_eq_true rfl⟩) hD hS hA (fun τ35_ H locs hq hP hD hS => ?_)
        obtain ⟨hτ35_, q36_⟩ := hq
        have q36_ : (τ35_.1 1).toInt ≠ 0 := q36_
        refine W.widen (k := 0) (n := 0) (Nat.le_of_ble_eq_true rfl) (Nat.le_of_ble_eq_true rfl) ?_
        have o5 : (τ5_.1 1).toInt = 0 ∨ (τ35_.1 1).toInt ≠ 0 := by omega
        exact pt57_ τ35_  _ _ _ hτ35_ o5 hP hD hS (lv_sub hl [0, 2] rfl)
  refine lv_aload_n hx hb dX4_readEnd_1 rfl (lv_at hl 0 rfl) ?_
  refine va_get (D := (dC, dI)) (ci := 4) (v := .ref (kA κ 3)) (C := RX4) (T := TX4) (N := 4) hx hb hts hin4 hown hK hP 0 rfl rfl 1 (Nat.le_of_ble_eq_true rfl) (ho (.fieldLink RX4 12 "NearEnough$Reader" "told" "LNearEnough$Program;") (List.mem_of_getElem? (i := 3) rfl)) (fun _ h9 => h9) rfl dX4_readEnd_2 ?_
  refine va_get (D := (dC, dI)) (ci := 3) (v := .int (pI κ 2)) (C := RX3) (T := TX3) (N := 8) hx hb hts hin3 hown hK hP 3 rfl rfl 7 (Nat.le_of_ble_eq_true rfl) (ho (.fieldLink RX4 121 "NearEnough$Program" "endCount" "I") (List.mem_of_getElem? (i := 4) rfl)) (fun _ h9 => h9) rfl dX4_readEnd_5 ?_
  refine lv_iconst (v := 4) hx hb dX4_readEnd_8 rg_31 ?_
  refine lv_icmp_ge (tgt := 16) hx hb dX4_readEnd_9 rfl (fun c37_ => ?_) (fun c37_ => ?_)
  · have tc37_ := (show 4 ≤ (pI κ 2).toInt from ti_le rg_32 rfl c37_)
    refine lv_iconst (v := 0) hx hb dX4_readEnd_16 rg_0 ?_
    have kk38_ : (0 : Int32).toInt = 0 := rg_11
    exact pt17_  0 _ _ _  hP hD hS (lv_sub hl [0] rfl)
  · have tc37_ := (show (pI κ 2).toInt < 4 from ti_nle rg_32 rfl c37_)
    refine lv_iconst (v := 1) hx hb dX4_readEnd_12 rg_6 ?_
    refine lv_goto (tgt := 17) hx hb dX4_readEnd_13 rfl ?_
    have kk39_ : (1 : Int32).toInt = 1 := rg_18
    exact pt17_  1 _ _ _  hP hD hS (lv_sub hl [0] rfl)
def ow_g_readStep : List Cond := [.fieldLink RX4 30 "NearEnough$Reader" "scanner" "LNearEnough$Scanner;", .fieldLink RX4 61 "NearEnough$Scanner" "place" "I", .classLink RX4 152 RX9, .instantiable RX9 11, .initialized RX9, .methodLink RX4 154 yX9_init, .instanceMethod yX9_init, .fieldLink RX4 18 "NearEnough$Reader" "fault" "I", .fieldLink RX4 12 "NearEnough$Reader" "told" "LNearEnough$Program;", .fieldLink RX4 164 "NearEnough$Step" "low" "J", .constantLong RX4 167 (-1000000000), .fieldLink RX4 169 "NearEnough$Step" "high" "J", .constantLong RX4 172 (1000000000), .fieldLink RX4 149 "NearEnough$Program" "stepCount" "I"]
def vs_g_readStep : List Cond := .code yX4_readStep cX4_readStep 4 none :: (ow_g_readStep ++ (([.methodLink RX4 146 yX4_stepKind, .instanceMethod yX4_stepKind, .selects RX4 yX4_stepKind yX4_stepKind, .initialized RX4] : List Cond) ++ (vs_r_stepKind ++ (([.methodLink RX4 68 yX4_pass, .instanceMethod yX4_pass, .selects RX4 yX4_pass yX4_pass, .initialized RX4] : List Cond) ++ (vs_r_pass ++ (([.methodLink RX4 96 yX4_needNewName, .instanceMethod yX4_needNewName, .selects RX4 yX4_needNewName yX4_needNewName, .initialized RX4] : List Cond) ++ (vs_r_needNewName ++ (vs_g_Step ++ (([.methodLink RX4 157 yX4_readParts, .instanceMethod yX4_readParts, .selects RX4 yX4_readParts yX4_readParts, .initialized RX4] : List Cond) ++ (vs_g_readParts ++ (([.methodLink RX4 114 yX4_needSemicolon, .instanceMethod yX4_needSemicolon, .selects RX4 yX4_needSemicolon yX4_needSemicolon, .initialized RX4] : List Cond) ++ (vs_r_needSemi ++ (([.methodLink RX4 174 yX3_addStep, .instanceMethod yX3_addStep, .selects RX3 yX3_addStep yX3_addStep, .initialized RX3] : List Cond) ++ (vs_g_addStep ++ (([.methodLink RX4 161 yX4_makeSpan, .instanceMethod yX4_makeSpan, .selects RX4 yX4_makeSpan yX4_makeSpan, .initialized RX4] : List Cond) ++ (vs_g_makeSpan ++ (([.methodLink RX4 64 yX4_refuse, .instanceMethod yX4_refuse, .selects RX4 yX4_refuse yX4_refuse, .initialized RX4] : List Cond) ++ (vs_r_refuse ++ (wsX30 ++ (wsX40 ++ (wsX60 ++ (wsX90))))))))))))))))))))))
theorem vg_g_readStep : vs_g_readStep.all goodWord = true := by decide +kernel
theorem dd_g_readStep : yX4_readStep.cls = RX4 ∧ yX4_readStep.cls ≠ "java/lang/invoke/MethodHandle" ∧ yX4_readStep.cls ≠ "java/lang/invoke/VarHandle" ∧ (parseMethodDescriptor yX4_readStep.desc).map (fun d => d.parameters.length) = some 0 := by decide +kernel
def rm_g_readStep : Room := { frames := 8, cells := 1, slots := 11, locals := 172 }
theorem gd_g_readStep_146_r_stepKind : GoodIn vs_g_readStep (wsV RX4 146 RX4 yX4_stepKind vs_r_stepKind) := goodIn_app (goodIn_sub (fun w h => (List.mem_cons_of_mem _ (List.mem_append_right _ (List.mem_append_left _ h)))) (by decide +kernel)) (goodIn_sub (fun w h => (List.mem_cons_of_mem _ (List.mem_append_right _ (List.mem_append_right _ (List.mem_append_left _ h))))) vg_r_stepKind)
theorem gd_g_readStep_68_r_pass : GoodIn vs_g_readStep (wsV RX4 68 RX4 yX4_pass vs_r_pass) := goodIn_app (goodIn_sub (fun w h => (List.mem_cons_of_mem _ (List.mem_append_right _ (List.mem_append_right _ (List.mem_append_right _ (List.mem_append_left _ h)))))) (by decide +kernel)) (goodIn_sub (fun w h => (List.mem_cons_of_mem _ (List.mem_append_right _ (List.mem_append_right _ (List.mem_append_right _ (List.mem_append_right _ (List.mem_append_left _ h))))))) vg_r_pass)
theorem gd_g_readStep_96_r_needNewName : GoodIn vs_g_readStep (wsV RX4 96 RX4 yX4_needNewName vs_r_needNewName) := goodIn_app (goodIn_sub (fun w h => (List.mem_cons_of_mem _ (List.mem_append_right _ (List.mem_append_right _ (List.mem_append_right _ (List.mem_append_right _ (List.mem_append_right _ (List.mem_append_left _ h)))))))) (by decide +kernel)) (goodIn_sub (fun w h => (List.mem_cons_of_mem _ (List.mem_append_right _ (List.mem_append_right _ (List.mem_append_right _ (List.mem_append_right _ (List.mem_append_right _ (List.mem_append_right _ (List.mem_append_left _ h))))))))) vg_r_needNewName)
theorem gd_g_readStep_154_g_Step : GoodIn vs_g_readStep (vs_g_Step) := (goodIn_sub (fun w h => (List.mem_cons_of_mem _ (List.mem_append_right _ (List.mem_append_right _ (List.mem_append_right _ (List.mem_append_right _ (List.mem_append_right _ (List.mem_append_right _ (List.mem_append_right _ (List.mem_append_left _ h)))))))))) vg_g_Step)
theorem gd_g_readStep_157_g_readParts : GoodIn vs_g_readStep (wsV RX4 157 RX4 yX4_readParts vs_g_readParts) := goodIn_app (goodIn_sub (fun w h => (List.mem_cons_of_mem _ (List.mem_append_right _ (List.mem_append_right _ (List.mem_append_right _ (List.mem_append_right _ (List.mem_append_right _ (List.mem_append_right _ (List.mem_append_right _ (List.mem_append_right _ (List.mem_append_left _ h))))))))))) (by decide +kernel)) (goodIn_sub (fun w h => (List.mem_cons_of_mem _ (List.mem_append_right _ (List.mem_append_right _ (List.mem_append_right _ (List.mem_append_right _ (List.mem_append_right _ (List.mem_append_right _ (List.mem_append_right _ (List.mem_append_right _ (List.mem_append_right _ (List.mem_append_left _ h)))))))))))) vg_g_readParts)
theorem gd_g_readStep_114_r_needSemi : GoodIn vs_g_readStep (wsV RX4 114 RX4 yX4_needSemicolon vs_r_needSemi) := goodIn_app (goodIn_sub (fun w h => (List.mem_cons_of_mem _ (List.mem_append_right _ (List.mem_append_right _ (List.mem_append_right _ (List.mem_append_right _ (List.mem_append_right _ (List.mem_append_right _ (List.mem_append_right _ (List.mem_append_right _ (List.mem_append_right _ (List.mem_append_right _ (List.mem_append_left _ h))))))))))))) (by decide +kernel)) (goodIn_sub (fun w h => (List.mem_cons_of_mem _ (List.mem_append_right _ (List.mem_append_right _ (List.mem_append_right _ (List.mem_append_right _ (List.mem_append_right _ (List.mem_append_right _ (List.mem_append_right _ (List.mem_append_right _ (List.mem_append_right _ (List.mem_append_right _ (List.mem_append_right _ (List.mem_append_left _ h)))))))))))))) vg_r_needSemi)
theorem gd_g_readStep_174_g_addStep : GoodIn vs_g_readStep (wsV RX4 174 RX3 yX3_addStep vs_g_addStep) := goodIn_app (goodIn_sub (fun w h => (List.mem_cons_of_mem _ (List.mem_append_right _ (List.mem_append_right _ (List.mem_append_right _ (List.mem_append_right _ (List.mem_append_right _ (List.mem_append_right _ (List.mem_append_right _ (List.mem_append_right _ (List.mem_append_right _ (List.mem_append_right _ (List.mem_append_right _ (List.mem_append_right _ (List.mem_append_left _ h))))))))))))))) (by decide +kernel)) (goodIn_sub (fun w h => (List.mem_cons_of_mem _ (List.mem_append_right _ (List.mem_append_right _ (List.mem_append_right _ (List.mem_append_right _ (List.mem_append_right _ (List.mem_append_right _ (List.mem_append_right _ (List.mem_append_right _ (List.mem_append_right _ (List.mem_append_right _ (List.mem_append_right _ (List.mem_append_right _ (List.mem_append_right _ (List.mem_append_left _ h)))))))))))))))) vg_g_addStep)
theorem gd_g_readStep_161_g_makeSpan : GoodIn vs_g_readStep (wsV RX4 161 RX4 yX4_makeSpan vs_g_makeSpan) := goodIn_app (goodIn_sub (fun w h => (List.mem_cons_of_mem _ (List.mem_append_right _ (List.mem_append_right _ (List.mem_append_right _ (List.mem_append_right _ (List.mem_append_right _ (List.mem_append_right _ (List.mem_append_right _ (List.mem_append_right _ (List.mem_append_right _ (List.mem_append_right _ (List.mem_append_right _ (List.mem_append_right _ (List.mem_append_right _ (List.mem_append_right _ (List.mem_append_left _ h))))))))))))))))) (by decide +kernel)) (goodIn_sub (fun w h => (List.mem_cons_of_mem _ (List.mem_append_right _ (List.mem_append_right _ (List.mem_append_right _ (List.mem_append_right _ (List.mem_append_right _ (List.mem_append_right _ (List.mem_append_right _ (List.mem_append_right _ (List.mem_append_right _ (List.mem_append_right _ (List.mem_append_right _ (List.mem_append_right _ (List.mem_append_right _ (List.mem_append_right _ (List.mem_append_right _ (List.mem_append_left _ h)))))))))))))))))) vg_g_makeSpan)
theorem gd_g_readStep_64_r_refuse : GoodIn vs_g_readStep (wsV RX4 64 RX4 yX4_refuse vs_r_refuse) := goodIn_app (goodIn_sub (fun w h => (List.mem_cons_of_mem _ (List.mem_append_right _ (List.mem_append_right _ (List.mem_append_right _ (List.mem_append_right _ (List.mem_append_right _ (List.mem_append_right _ (List.mem_append_right _ (List.mem_append_right _ (List.mem_append_right _ (List.mem_append_right _ (List.mem_append_right _ (List.mem_append_right _ (List.mem_append_right _ (List.mem_append_right _ (List.mem_append_right _ (List.mem_append_right _ (List.mem_append_left _ h))))))))))))))))))) (by decide +kernel)) (goodIn_sub (fun w h => (List.mem_cons_of_mem _ (List.mem_append_right _ (List.mem_append_right _ (List.mem_append_right _ (List.mem_append_right _ (List.mem_append_right _ (List.mem_append_right _ (List.mem_append_right _ (List.mem_append_right _ (List.mem_append_right _ (List.mem_append_right _ (List.mem_append_right _ (List.mem_append_right _ (List.mem_append_right _ (List.mem_append_right _ (List.mem_append_right _ (List.mem_append_right _ (List.mem_append_right _ (List.mem_append_left _ h)))))))))))))))))))) vg_r_refuse)
set_option maxHeartbeats 4000000 in
set_option maxRecDepth 100000 in
theorem g_readStep (l : Launch) (dC : Nat → ClassId) (dI : Nat → Nat → Nat) (adK adV : Nat → Nat) (κ : CE) (sz : Nat) (σ : MS) (hk : PInv κ) (hI : RInv σ)  : Met l yX4_readStep vs_g_readStep rm_g_readStep (va_Pc [.ref (kA κ 0)] (wSr dC dI adK adV (rW κ σ) (rT κ) sz)) (va_Qv (fun (u : CE × MS) => PInv u.1 ∧ RInv u.2 ∧ kA u.1 = kA κ ∧ kC u.1 = kC κ ∧ True) (fun (u : CE × MS) => wEn dC dI (va_A (rW κ σ) sz) (rW u.1 u.2) []) (va_A (rW κ σ) sz)) 1 11 (va_A (rW κ σ) sz) := by
  refine Met.ofW (cc := cX4_readStep) (maxL := 4) (ret := none) (by decide +kernel) rfl ?_
  intro p e s m args below meth c s₁ B hml hv
  obtain ⟨rfl, ⟨hsz, hP, hK, hD0, hE⟩, hZ, hR⟩ := hv
  have hx := B.exec
  have hb := B.bytes
  have hr := B.returns
  have hts := atoms_spec (ws := vs_g_readStep) B.pre
  have hown : s.vm.findClass RX4 = some m.cls := findClass_of_methodNamed B.named
  have hlocks := B.notSynchronized
  subst hsz
  have hD := hD0.self (sz := s.heap.size)
  generalize hAe : va_A (rW κ σ) s.heap.size = A at hD hZ ⊢
  have hA : ∀ q : Nat, s.heap.size ≤ q → A q := fun q h => by rw [← hAe]; exact Or.inr h
  have hl := lv_entry ([.ref (kA κ 0)]) (n := 4) (Nat.le_of_ble_eq_true rfl)
  rw [lg_entry_eq]
  generalize (lg_sl ([.ref (kA κ 0)]) ++ List.replicate (4 - (lg_sl ([.ref (kA κ 0)])).length) Slot.unset).toArray = ls at hl ⊢
  have hl : lv_has ls 4 [(0, .ref (kA κ 0))] := hl
  have ho := fun w (h : w ∈ ow_g_readStep) => hts w (List.mem_cons_of_mem _ (List.mem_append_left _ h))
  have hin3 : ∀ w ∈ u_ws RX3 TX3 8, w ∈ vs_g_readStep := fun w h => (List.mem_cons_of_mem _ (List.mem_append_right _ (List.mem_append_right _ (List.mem_append_right _ (List.mem_append_right _ (List.mem_append_right _ (List.mem_append_right _ (List.mem_append_right _ (List.mem_append_right _ (List.mem_append_right _ (List.mem_append_right _ (List.mem_append_right _ (List.mem_append_right _ (List.mem_append_right _ (List.mem_append_right _ (List.mem_append_right _ (List.mem_append_right _ (List.mem_append_right _ (List.mem_append_right _ (List.mem_append_left _ h))))))))))))))))))))
  have hin4 : ∀ w ∈ u_ws RX4 TX4 4, w ∈ vs_g_readStep := fun w h => (List.mem_cons_of_mem _ (List.mem_append_right _ (List.mem_append_right _ (List.mem_append_right _ (List.mem_append_right _ (List.mem_append_right _ (List.mem_append_right _ (List.mem_append_right _ (List.mem_append_right _ (List.mem_append_right _ (List.mem_append_right _ (List.mem_append_right _ (List.mem_append_right _ (List.mem_append_right _ (List.mem_append_right _ (List.mem_append_right _ (List.mem_append_right _ (List.mem_append_right _ (List.mem_append_right _ (List.mem_append_right _ (List.mem_append_left _ h)))))))))))))))))))))
  have hin6 : ∀ w ∈ u_ws RX6 TX6 7, w ∈ vs_g_readStep := fun w h => (List.mem_cons_of_mem _ (List.mem_append_right _ (List.mem_append_right _ (List.mem_append_right _ (List.mem_append_right _ (List.mem_append_right _ (List.mem_append_right _ (List.mem_append_right _ (List.mem_append_right _ (List.mem_append_right _ (List.mem_append_right _ (List.mem_append_right _ (List.mem_append_right _ (List.mem_append_right _ (List.mem_append_right _ (List.mem_append_right _ (List.mem_append_right _ (List.mem_append_right _ (List.mem_append_right _ (List.mem_append_right _ (List.mem_append_right _ (List.mem_append_left _ h))))))))))))))))))))))
  have hin9 : ∀ w ∈ u_ws RX9 TX9 11, w ∈ vs_g_readStep := fun w h => (List.mem_cons_of_mem _ (List.mem_append_right _ (List.mem_append_right _ (List.mem_append_right _ (List.mem_append_right _ (List.mem_append_right _ (List.mem_append_right _ (List.mem_append_right _ (List.mem_append_right _ (List.mem_append_right _ (List.mem_append_right _ (List.mem_append_right _ (List.mem_append_right _ (List.mem_append_right _ (List.mem_append_right _ (List.mem_append_right _ (List.mem_append_right _ (List.mem_append_right _ (List.mem_append_right _ (List.mem_append_right _ (List.mem_append_right _ (List.mem_append_right _ h))))))))))))))))))))))
  refine zQ (fun Q hQ => ?_)
  refine zH (A := A) (ws := (rW κ σ)) (fun H hP hS => ?_) hP
  have hk0 := hk.1
  have hk1 := hk.2.1
  have hk2 := hk.2.2.1
  refine lv_aload_n hx hb dX4_readStep_0 rfl (lv_at hl 0 rfl) ?_
  refine zy_i (va_runV (As := []) (rest := []) ⟨hx, hb, hml, hown, hts⟩ (r_stepKind l dC dI adK adV κ H.size σ  hk hI ) (cwV 0 hts gd_g_readStep_146_r_stepKind rfl rfl rfl dd_r_stepKind ⟨Nat.le_of_ble_eq_true rfl, Nat.le_of_ble_eq_true rfl⟩) (preVr hP hK hD hE hZ hR hS hA (ci := 4) (q0 := 0) rfl rfl) rfl rfl hl.1 rfl (lv_room (Nat.le_of_ble_eq_true rfl)) dX4_readStep_1 ⟨Nat.le_of_ble_eq_true rfl, Nat.le_of_ble_eq_true rfl⟩) hD hS hA (fun z1_ τ2_ H locs hq hP hD hS => ?_)
  obtain ⟨hτ2_, q3_⟩ := hq
  rw [hτ2_] at hP hD
  have q3_ : (-1) ≤ z1_.toInt ∧ z1_.toInt ≤ 7 := q3_
  refine W.widen (k := 0) (n := 0) (Nat.le_of_ble_eq_true rfl) (Nat.le_of_ble_eq_true rfl) ?_
  refine lv_istore_n (lv' := [(1, .int z1_), (0, .ref (kA κ 0))]) hx hb dX4_readStep_4 rfl hl (Nat.le_of_ble_eq_true rfl) rfl (fun ls hl => ?_)
  refine lv_aload_n hx hb dX4_readStep_5 rfl (lv_at hl 1 rfl) ?_
  have pt28_ : ∀ (s28_ : Int32) (H : Heap) (locs : List Loc) (ls : Array Slot), va_P (dC, dI) vwCl (rW κ σ) H → va_D A (rW κ σ) → va_S A s.heap H locs → lv_has ls 4 [(1, .int z1_), (0, .ref (kA κ 0))] → W p l e (headSpec vs_g_readStep rm_g_readStep).room s m #[Value.ref (kA κ 0)] below meth c H locs 0 0 Q (F0 m 28 ls [.int s28_, .ref (kA κ 0)]) := by
    intro s28_ H locs ls hP hD hS hl
    refine zy_v (va_runV (As := [.int s28_]) (rest := []) ⟨hx, hb, hml, hown, hts⟩ (r_pass l dC dI adK adV κ H.size σ s28_ hk hI ) (cwV 1 hts gd_g_readStep_68_r_pass rfl rfl rfl dd_r_pass ⟨Nat.le_of_ble_eq_true rfl, Nat.le_of_ble_eq_true rfl⟩) (preVr hP hK hD hE hZ hR hS hA (ci := 4) (q0 := 0) rfl rfl) rfl rfl hl.1 rfl (lv_room (Nat.le_of_ble_eq_true rfl)) dX4_readStep_28 ⟨Nat.le_of_ble_eq_true rfl, Nat.le_of_ble_eq_true rfl⟩) hD hS hA (fun τ5_ H locs hq hP hD hS => ?_)
    obtain ⟨hτ5_, q6_⟩ := hq
    have q6_ : ((σ.1 1).toInt = 0 ∨ (τ5_.1 1).toInt ≠ 0) := q6_
    refine W.widen (k := 0) (n := 0) (Nat.le_of_ble_eq_true rfl) (Nat.le_of_ble_eq_true rfl) ?_
    refine lv_aload_n hx hb dX4_readStep_31 rfl (lv_at hl 1 rfl) ?_
    refine va_get (D := (dC, dI)) (ci := 4) (v := .ref (kA κ 1)) (C := RX4) (T := TX4) (N := 4) hx hb hts hin4 hown hK hP 0 rfl rfl 0 (Nat.le_of_ble_eq_true rfl) (ho (.fieldLink RX4 30 "NearEnough$Reader" "scanner" "LNearEnough$Scanner;") (List.mem_of_getElem? (i := 0) rfl)) (fun _ h9 => h9) rfl dX4_readStep_32 ?_
    have bτ5__5 : 0 ≤ (τ5_.1 5).toInt ∧ (τ5_.1 5).toInt ≤ 1000 := hτ5_ 5
    refine va_get (D := (dC, dI)) (ci := 6) (v := .int (τ5_.1 5)) (C := RX6) (T := TX6) (N := 7) hx hb hts hin6 hown hK hP 1 rfl rfl 4 (Nat.le_of_ble_eq_true rfl) (ho (.fieldLink RX4 61 "NearEnough$Scanner" "place" "I") (List.mem_of_getElem? (i := 1) rfl)) (fun _ h9 => h9) rfl dX4_readStep_35 ?_
    refine lv_istore_n (lv' := [(2, .int (τ5_.1 5)), (1, .int z1_), (0, .ref (kA κ 0))]) hx hb dX4_readStep_38 rfl hl (Nat.le_of_ble_eq_true rfl) rfl (fun ls hl => ?_)
    refine va_new (ci := 9) (fs := [.int 0, .long 0, .null, .int 0, .int 0, .int 0, .int 0, .int 0, .int 0, .long 0, .long 0]) (C := RX9) (T := TX9) (N := 11) hx hb hts hin9 tyX9 tyX9_ok hown (ho (.classLink RX4 152 RX9) (List.mem_of_getElem? (i := 2) rfl)) (ho (.instantiable RX9 11) (List.mem_of_getElem? (i := 3) rfl)) (ho (.initialized RX9) (List.mem_of_getElem? (i := 4) rfl)) hK hP hD hS hA rfl (by decide) (Nat.le_of_ble_eq_true rfl) (Nat.le_of_ble_eq_true rfl) dX4_readStep_39 (fun q7_ H hP hD hS => ?_)
    have hq_ : q7_ ∉ kL κ := va_pl_fresh2 (X := rF κ τ5_) (L := kL κ) (f := kf κ) hD
    obtain ⟨T8_, eT8_⟩ : ∃ x9 : TT, x9 = ((fun _ => 0), (fun _ => 0), none) := ⟨_, rfl⟩
    have hP : va_P (dC, dI) vwCl (rW (ku (kp κ q7_) q7_ T8_) τ5_) H := by rw [eT8_]; exact (rW_push (κ := κ) (σ := τ5_) (e := .inr (9, stV ((fun _ => 0), (fun _ => 0), none))) hq_) ▸ hP
    have hD : va_D A (rW (ku (kp κ q7_) q7_ T8_) τ5_) := by rw [eT8_]; exact (rW_push (κ := κ) (σ := τ5_) (e := .inr (9, stV ((fun _ => 0), (fun _ => 0), none))) hq_) ▸ hD
    refine W.widen (k := 1) (n := 11) (Nat.le_of_ble_eq_true rfl) (Nat.le_of_ble_eq_true rfl) ?_
    refine lv_dup hx hb dX4_readStep_42 rfl ?_
    refine lv_iload_n hx hb dX4_readStep_43 rfl (lv_at hl 1 rfl) ?_
    refine lv_aload_n hx hb dX4_readStep_44 rfl (lv_at hl 2 rfl) ?_
    refine zy_l (va_runV (As := []) (rest := [.int z1_, .ref q7_, .ref q7_]) ⟨hx, hb, hml, hown, hts⟩ (r_needNewName l dC dI adK adV (ku (kp κ q7_) q7_ T8_) H.size τ5_  ((fun t => PInv.push hk hq_) T8_) hτ5_ ) (cwV 0 hts gd_g_readStep_96_r_needNewName rfl rfl rfl dd_r_needNewName ⟨Nat.le_of_ble_eq_true rfl, Nat.le_of_ble_eq_true rfl⟩) (preVr hP hK hD hE hZ hR hS hA (ci := 4) (q0 := 0) rfl rfl) rfl rfl hl.1 rfl (lv_room (Nat.le_of_ble_eq_true rfl)) dX4_readStep_45 ⟨Nat.le_of_ble_eq_true rfl, Nat.le_of_ble_eq_true rfl⟩) hD hS hA (fun y9_ τ10_ H locs hq hP hD hS => ?_)
    obtain ⟨hτ10_, q11_⟩ := hq
    have q11_ : ((τ5_.1 1).toInt = 0 ∨ (τ10_.1 1).toInt ≠ 0) := q11_
    refine W.widen (k := 1) (n := 11) (Nat.le_of_ble_eq_true rfl) (Nat.le_of_ble_eq_true rfl) ?_
    refine zy_v (va_runI (As := [.int z1_, .long y9_]) (rest := [.ref q7_]) ⟨hx, hb, hml, hown, hts⟩ (g_Step l dC dI adK adV (kp κ q7_) H.size τ10_ q7_ T8_ z1_ y9_ (List.mem_append_right (kL κ) (List.mem_singleton_self q7_)) (fun t => PInv.push hk hq_) hτ10_ ) (cwI 2 hts gd_g_readStep_154_g_Step rfl rfl rfl (ho (.initialized RX9) (List.mem_of_getElem? (i := 4) rfl)) (ho (.methodLink RX4 154 yX9_init) (List.mem_of_getElem? (i := 5) rfl)) (ho (.instanceMethod yX9_init) (List.mem_of_getElem? (i := 6) rfl)) rfl (by decide +kernel) ⟨Nat.le_of_ble_eq_true rfl, Nat.le_of_ble_eq_true rfl⟩) (preSr hP hK hD hE hZ hR hS hA) rfl rfl hl.1 rfl (lv_room (Nat.le_of_ble_eq_true rfl)) dX4_readStep_48 ⟨Nat.le_of_ble_eq_true rfl, Nat.le_of_ble_eq_true rfl⟩) hD hS hA (fun τ13_ H locs hq hP hD hS => ?_)
    obtain ⟨T15_, τ16_⟩ := τ13_
    obtain ⟨hτ16_, q14_⟩ := hq
    have hP : va_P (dC, dI) vwCl (rW (ku (kp κ q7_) q7_ T15_) τ16_) H := hP
    have hD : va_D A (rW (ku (kp κ q7_) q7_ T15_) τ16_) := hD
    have q14_ : T15_.1 0 = z1_ ∧ (∀ j, 1 ≤ j → j ≤ 4 → T15_.1 j = 0) ∧ T15_.2.2 = none ∧ τ16_ = τ10_ := q14_
    refine W.widen (k := 1) (n := 11) (Nat.le_of_ble_eq_true rfl) (Nat.le_of_ble_eq_true rfl) ?_
    refine lv_astore_n (lv' := [(3, .ref q7_), (2, .int (τ5_.1 5)), (1, .int z1_), (0, .ref (kA κ 0))]) hx hb dX4_readStep_51 rfl hl (Nat.le_of_ble_eq_true rfl) rfl (fun ls hl => ?_)
    refine lv_aload_n hx hb dX4_readStep_52 rfl (lv_at hl 3 rfl) ?_
    refine lv_aload_n hx hb dX4_readStep_53 rfl (lv_at hl 0 rfl) ?_
    refine zy_v (va_runV (As := [.ref q7_]) (rest := []) ⟨hx, hb, hml, hown, hts⟩ (g_readParts l dC dI adK adV (kp κ q7_) H.size τ16_ q7_ T15_  (List.mem_append_right (kL κ) (List.mem_singleton_self q7_)) (fun t => PInv.push hk hq_) hτ16_ q14_.2.1 q14_.2.2.1) (cwV 1 hts gd_g_readStep_157_g_readParts rfl rfl rfl dd_g_readParts ⟨Nat.le_of_ble_eq_true rfl, Nat.le_of_ble_eq_true rfl⟩) (preVr hP hK hD hE hZ hR hS hA (ci := 4) (q0 := 0) rfl rfl) rfl rfl hl.1 rfl (lv_room (Nat.le_of_ble_eq_true rfl)) dX4_readStep_54 ⟨Nat.le_of_ble_eq_true rfl, Nat.le_of_ble_eq_true rfl⟩) hD hS hA (fun τ18_ H locs hq hP hD hS => ?_)
    obtain ⟨T20_, τ21_⟩ := τ18_
    obtain ⟨hτ21_, q19_⟩ := hq
    have hP : va_P (dC, dI) vwCl (rW (ku (kp κ q7_) q7_ T20_) τ21_) H := hP
    have hD : va_D A (rW (ku (kp κ q7_) q7_ T20_) τ21_) := hD
    have q19_ : ((τ16_.1 1).toInt = 0 ∨ (τ21_.1 1).toInt ≠ 0) ∧ PrOk (kp κ q7_) q7_ T20_ (τ21_.1 1).toInt := q19_
    refine W.widen (k := 1) (n := 11) (Nat.le_of_ble_eq_true rfl) (Nat.le_of_ble_eq_true rfl) ?_
    refine lv_aload_n hx hb dX4_readStep_57 rfl (lv_at hl 3 rfl) ?_
    refine va_get (D := (dC, dI)) (ci := 4) (v := .int (τ21_.1 1)) (C := RX4) (T := TX4) (N := 4) hx hb hts hin4 hown hK hP 0 rfl rfl 2 (Nat.le_of_ble_eq_true rfl) (ho (.fieldLink RX4 18 "NearEnough$Reader" "fault" "I") (List.mem_of_getElem? (i := 7) rfl)) (fun _ h9 => h9) rfl dX4_readStep_58 ?_
    refine lv_if_ne (tgt := 98) hx hb dX4_readStep_61 rfl (fun c22_ => ?_) (fun c22_ => ?_)
    · have tc22_ := (show (τ21_.1 1).toInt ≠ 0 from ti_ne rfl rg_11 c22_)
      refine lv_aload_n hx hb dX4_readStep_98 rfl (lv_at hl 3 rfl) ?_
      refine zy_v (va_runV (As := []) (rest := []) ⟨hx, hb, hml, hown, hts⟩ (r_needSemi l dC dI adK adV (ku (kp κ q7_) q7_ T20_) H.size τ21_  ((fun t => PInv.push hk hq_) T20_) hτ21_ ) (cwV 0 hts gd_g_readStep_114_r_needSemi rfl rfl rfl dd_r_needSemi ⟨Nat.le_of_ble_eq_true rfl, Nat.le_of_ble_eq_true rfl⟩) (preVr hP hK hD hE hZ hR hS hA (ci := 4) (q0 := 0) rfl rfl) rfl rfl hl.1 rfl (lv_room (Nat.le_of_ble_eq_true rfl)) dX4_readStep_99 ⟨Nat.le_of_ble_eq_true rfl, Nat.le_of_ble_eq_true rfl⟩) hD hS hA (fun τ24_ H locs hq hP hD hS => ?_)
      obtain ⟨hτ24_, q25_⟩ := hq
      have q25_ : ((τ21_.1 1).toInt = 0 ∨ (τ24_.1 1).toInt ≠ 0) := q25_
      refine W.widen (k := 1) (n := 11) (Nat.le_of_ble_eq_true rfl) (Nat.le_of_ble_eq_true rfl) ?_
      refine lv_aload_n hx hb dX4_readStep_102 rfl (lv_at hl 3 rfl) ?_
      refine va_get (D := (dC, dI)) (ci := 4) (v := .int (τ24_.1 1)) (C := RX4) (T := TX4) (N := 4) hx hb hts hin4 hown hK hP 0 rfl rfl 2 (Nat.le_of_ble_eq_true rfl) (ho (.fieldLink RX4 18 "NearEnough$Reader" "fault" "I") (List.mem_of_getElem? (i := 7) rfl)) (fun _ h9 => h9) rfl dX4_readStep_103 ?_
      refine lv_if_ne (tgt := 117) hx hb dX4_readStep_106 rfl (fun c26_ => ?_) (fun c26_ => ?_)
      · have tc26_ := (show (τ24_.1 1).toInt ≠ 0 from ti_ne rfl rg_11 c26_)
        refine W.widen (k := 1) (n := 11) (Nat.le_of_ble_eq_true rfl) (Nat.le_of_ble_eq_true rfl) ?_
        rw [hQ]
        exact W.vret hx hb hr (fun t ht hW => ⟨⟨((ku (kp κ q7_) q7_ T20_), τ24_), rfl, ⟨((fun t => PInv.push hk hq_) T20_), hτ24_, rfl, rfl, trivial⟩, wEn_of hP (hK.sub [] rfl) hD ht hW⟩, hS.F ht⟩) hS.2.2 dX4_readStep_117
      · have tc26_ := (show (τ24_.1 1).toInt = 0 from ti_eq rfl rg_11 c26_)
        refine lv_aload_n hx hb dX4_readStep_109 rfl (lv_at hl 3 rfl) ?_
        refine va_get (D := (dC, dI)) (ci := 4) (v := .ref (kA κ 3)) (C := RX4) (T := TX4) (N := 4) hx hb hts hin4 hown hK hP 0 rfl rfl 1 (Nat.le_of_ble_eq_true rfl) (ho (.fieldLink RX4 12 "NearEnough$Reader" "told" "LNearEnough$Program;") (List.mem_of_getElem? (i := 8) rfl)) (fun _ h9 => h9) rfl dX4_readStep_110 ?_
        refine lv_aload_n hx hb dX4_readStep_113 rfl (lv_at hl 0 rfl) ?_
        have o1 : (τ21_.1 1).toInt = 0 := by omega
        refine zy_v (va_runV (As := [.ref q7_]) (rest := []) ⟨hx, hb, hml, hown, hts⟩ (g_addStep l dC dI adK adV (ku (kp κ q7_) q7_ T20_) H.size τ24_ q7_ ((fun t => PInv.push hk hq_) T20_) hτ24_ T20_ ⟨(List.mem_append_right (kL κ) (List.mem_singleton_self q7_)), kf_self⟩ (by rcases q19_.2.2 with h9 | h9; exact absurd o1 h9; exact h9.1) (fun r9 h9 => by obtain ⟨u9, n9, g9⟩ := q19_.2.1 r9 h9; exact ⟨u9, IsRow.up g9 n9⟩)) (cwV 1 hts gd_g_readStep_174_g_addStep rfl rfl rfl dd_g_addStep ⟨Nat.le_of_ble_eq_true rfl, Nat.le_of_ble_eq_true rfl⟩) (preVr hP hK hD hE hZ hR hS hA (ci := 3) (q0 := 3) rfl rfl) rfl rfl hl.1 rfl (lv_room (Nat.le_of_ble_eq_true rfl)) dX4_readStep_114 ⟨Nat.le_of_ble_eq_true rfl, Nat.le_of_ble_eq_true rfl⟩) hD hS hA (fun τ28_ H locs hq hP hD hS => ?_)
        obtain ⟨κ30_, τ31_⟩ := τ28_
        obtain ⟨hkκ30_, hτ31_, haκ30_, hcκ30_, q29_⟩ := hq
        have hP : va_P (dC, dI) vwCl (rW κ30_ τ31_) H := hP
        have hD : va_D A (rW κ30_ τ31_) := hD
        have q29_ : (τ31_.1 1).toInt = (τ24_.1 1).toInt := q29_
        refine W.widen (k := 1) (n := 11) (Nat.le_of_ble_eq_true rfl) (Nat.le_of_ble_eq_true rfl) ?_
        refine W.widen (k := 1) (n := 11) (Nat.le_of_ble_eq_true rfl) (Nat.le_of_ble_eq_true rfl) ?_
        rw [hQ]
        exact W.vret hx hb hr (fun t ht hW => ⟨⟨(κ30_, τ31_), rfl, ⟨hkκ30_, hτ31_, haκ30_, hcκ30_, trivial⟩, wEn_of hP (hK.sub [] rfl) hD ht hW⟩, hS.F ht⟩) hS.2.2 dX4_readStep_117
    · have tc22_ := (show (τ21_.1 1).toInt = 0 from ti_eq rfl rg_11 c22_)
      refine lv_aload_n hx hb dX4_readStep_64 rfl (lv_at hl 3 rfl) ?_
      refine lv_aload_n hx hb dX4_readStep_65 rfl (lv_at hl 0 rfl) ?_
      have o2 : (τ21_.1 1).toInt = 0 := by omega
      refine zy_v (va_runV (As := [.ref q7_]) (rest := []) ⟨hx, hb, hml, hown, hts⟩ (g_makeSpan l dC dI adK adV (kp κ q7_) H.size τ21_ q7_ T20_  (List.mem_append_right (kL κ) (List.mem_singleton_self q7_)) (fun t => PInv.push hk hq_) hτ21_ q19_.2.1 (by rcases q19_.2.2 with h9 | h9; exact absurd o2 h9; exact h9.2) (by rcases q19_.2.2 with h9 | h9; exact absurd o2 h9; exact ⟨(h9.1 1 (by decide) (by decide)).1, (h9.1 2 (by decide) (by decide)).1⟩)) (cwV 1 hts gd_g_readStep_161_g_makeSpan rfl rfl rfl dd_g_makeSpan ⟨Nat.le_of_ble_eq_true rfl, Nat.le_of_ble_eq_true rfl⟩) (preVr hP hK hD hE hZ hR hS hA (ci := 4) (q0 := 0) rfl rfl) rfl rfl hl.1 rfl (lv_room (Nat.le_of_ble_eq_true rfl)) dX4_readStep_66 ⟨Nat.le_of_ble_eq_true rfl, Nat.le_of_ble_eq_true rfl⟩) hD hS hA (fun τ33_ H locs hq hP hD hS => ?_)
      obtain ⟨T35_, τ36_⟩ := τ33_
      obtain ⟨hτ36_, q34_⟩ := hq
      have hP : va_P (dC, dI) vwCl (rW (ku (kp κ q7_) q7_ T35_) τ36_) H := hP
      have hD : va_D A (rW (ku (kp κ q7_) q7_ T35_) τ36_) := hD
      have q34_ : T35_.1 = T20_.1 ∧ T35_.2.2 = T20_.2.2 ∧ (τ36_.1 1).toInt = (τ21_.1 1).toInt := q34_
      refine W.widen (k := 1) (n := 11) (Nat.le_of_ble_eq_true rfl) (Nat.le_of_ble_eq_true rfl) ?_
      have PR37_ : PrOk (kp κ q7_) q7_ T35_ (τ21_.1 1).toInt := PrOk.eq q19_.2 q34_.1 q34_.2.1
      refine lv_aload_n hx hb dX4_readStep_69 rfl (lv_at hl 0 rfl) ?_
      obtain ⟨kn38_, hkn38_⟩ := rpl (κ := (ku (kp κ q7_) q7_ T35_)) (σ := τ36_) (a := q7_) (List.mem_append_right (kL κ) (List.mem_singleton_self q7_)) kf_self
      refine va_get (D := (dC, dI)) (ci := 9) (v := .long (T35_.2.1 1)) (C := RX9) (T := TX9) (N := 11) hx hb hts hin9 hown hK hP kn38_ hkn38_ rfl 9 (Nat.le_of_ble_eq_true rfl) (ho (.fieldLink RX4 164 "NearEnough$Step" "low" "J") (List.mem_of_getElem? (i := 9) rfl)) (fun _ h9 => h9) rfl dX4_readStep_70 ?_
      refine lv_ldc2 (v := (-1000000000)) hx hb hown (ho (.constantLong RX4 167 (-1000000000)) (List.mem_of_getElem? (i := 10) rfl)) dX4_readStep_73 ?_
      refine W.lcmp hx hb dX4_readStep_76 ?_
      refine lv_topi (fun z39_ ez39_ => ?_)
      refine lv_if_lt (tgt := 91) hx hb dX4_readStep_77 rfl (fun c40_ => ?_) (fun c40_ => ?_)
      · have tc40_ := (show z39_.toInt < 0 from ti_lt rfl rg_11 c40_)
        have lc40_ : (T35_.2.1 1) < (-1000000000) := (lg_cmp_lt (T35_.2.1 1) (-1000000000)).mp (by rw [← ez39_]; exact c40_)
        refine lv_aload_n hx hb dX4_readStep_91 rfl (lv_at hl 3 rfl) ?_
        refine lv_bipush (v := 7) hx hb dX4_readStep_92 rg_54 ?_
        refine lv_iload_n hx hb dX4_readStep_94 rfl (lv_at hl 1 rfl) ?_
        have kk41_ : (7 : Int32).toInt = 7 := rg_77
        refine zy_v (va_runV (As := [.int 7, .int (τ5_.1 5)]) (rest := []) ⟨hx, hb, hml, hown, hts⟩ (r_refuse l dC dI adK adV (ku (kp κ q7_) q7_ T35_) H.size τ36_ 7 (τ5_.1 5) ((fun t => PInv.push hk hq_) T35_) hτ36_ (by decide)) (cwV 2 hts gd_g_readStep_64_r_refuse rfl rfl rfl dd_r_refuse ⟨Nat.le_of_ble_eq_true rfl, Nat.le_of_ble_eq_true rfl⟩) (preVr hP hK hD hE hZ hR hS hA (ci := 4) (q0 := 0) rfl rfl) rfl rfl hl.1 rfl (lv_room (Nat.le_of_ble_eq_true rfl)) dX4_readStep_95 ⟨Nat.le_of_ble_eq_true rfl, Nat.le_of_ble_eq_true rfl⟩) hD hS hA (fun τ43_ H locs hq hP hD hS => ?_)
        obtain ⟨hτ43_, q44_⟩ := hq
        have q44_ : (τ43_.1 1).toInt ≠ 0 := q44_
        refine W.widen (k := 1) (n := 11) (Nat.le_of_ble_eq_true rfl) (Nat.le_of_ble_eq_true rfl) ?_
        refine lv_aload_n hx hb dX4_readStep_98 rfl (lv_at hl 3 rfl) ?_
        refine zy_v (va_runV (As := []) (rest := []) ⟨hx, hb, hml, hown, hts⟩ (r_needSemi l dC dI adK adV (ku (kp κ q7_) q7_ T35_) H.size τ43_  ((fun t => PInv.push hk hq_) T35_) hτ43_ ) (cwV 0 hts gd_g_readStep_114_r_needSemi rfl rfl rfl dd_r_needSemi ⟨Nat.le_of_ble_eq_true rfl, Nat.le_of_ble_eq_true rfl⟩) (preVr hP hK hD hE hZ hR hS hA (ci := 4) (q0 := 0) rfl rfl) rfl rfl hl.1 rfl (lv_room (Nat.le_of_ble_eq_true rfl)) dX4_readStep_99 ⟨Nat.le_of_ble_eq_true rfl, Nat.le_of_ble_eq_true rfl⟩) hD hS hA (fun τ46_ H locs hq hP hD hS => ?_)
        obtain ⟨hτ46_, q47_⟩ := hq
        have q47_ : ((τ43_.1 1).toInt = 0 ∨ (τ46_.1 1).toInt ≠ 0) := q47_
        refine W.widen (k := 1) (n := 11) (Nat.le_of_ble_eq_true rfl) (Nat.le_of_ble_eq_true rfl) ?_
        refine lv_aload_n hx hb dX4_readStep_102 rfl (lv_at hl 3 rfl) ?_
        refine va_get (D := (dC, dI)) (ci := 4) (v := .int (τ46_.1 1)) (C := RX4) (T := TX4) (N := 4) hx hb hts hin4 hown hK hP 0 rfl rfl 2 (Nat.le_of_ble_eq_true rfl) (ho (.fieldLink RX4 18 "NearEnough$Reader" "fault" "I") (List.mem_of_getElem? (i := 7) rfl)) (fun _ h9 => h9) rfl dX4_readStep_103 ?_
        refine lv_if_ne (tgt := 117) hx hb dX4_readStep_106 rfl (fun c48_ => ?_) (fun c48_ => ?_)
        · have tc48_ := (show (τ46_.1 1).toInt ≠ 0 from ti_ne rfl rg_11 c48_)
          refine W.widen (k := 1) (n := 11) (Nat.le_of_ble_eq_true rfl) (Nat.le_of_ble_eq_true rfl) ?_
          rw [hQ]
          exact W.vret hx hb hr (fun t ht hW => ⟨⟨((ku (kp κ q7_) q7_ T35_), τ46_), rfl, ⟨((fun t => PInv.push hk hq_) T35_), hτ46_, rfl, rfl, trivial⟩, wEn_of hP (hK.sub [] rfl) hD ht hW⟩, hS.F ht⟩) hS.2.2 dX4_readStep_117
        · have tc48_ := (show (τ46_.1 1).toInt = 0 from ti_eq rfl rg_11 c48_)
          refine lv_aload_n hx hb dX4_readStep_109 rfl (lv_at hl 3 rfl) ?_
          refine va_get (D := (dC, dI)) (ci := 4) (v := .ref (kA κ 3)) (C := RX4) (T := TX4) (N := 4) hx hb hts hin4 hown hK hP 0 rfl rfl 1 (Nat.le_of_ble_eq_true rfl) (ho (.fieldLink RX4 12 "NearEnough$Reader" "told" "LNearEnough$Program;") (List.mem_of_getElem? (i := 8) rfl)) (fun _ h9 => h9) rfl dX4_readStep_110 ?_
          refine lv_aload_n hx hb dX4_readStep_113 rfl (lv_at hl 0 rfl) ?_
          refine zy_v (va_runV (As := [.ref q7_]) (rest := []) ⟨hx, hb, hml, hown, hts⟩ (g_addStep l dC dI adK adV (ku (kp κ q7_) q7_ T35_) H.size τ46_ q7_ ((fun t => PInv.push hk hq_) T35_) hτ46_ T35_ ⟨(List.mem_append_right (kL κ) (List.mem_singleton_self q7_)), kf_self⟩ (by rcases PR37_.2 with h9 | h9; exact absurd o2 h9; exact h9.1) (fun r9 h9 => by obtain ⟨u9, n9, g9⟩ := PR37_.1 r9 h9; exact ⟨u9, IsRow.up g9 n9⟩)) (cwV 1 hts gd_g_readStep_174_g_addStep rfl rfl rfl dd_g_addStep ⟨Nat.le_of_ble_eq_true rfl, Nat.le_of_ble_eq_true rfl⟩) (preVr hP hK hD hE hZ hR hS hA (ci := 3) (q0 := 3) rfl rfl) rfl rfl hl.1 rfl (lv_room (Nat.le_of_ble_eq_true rfl)) dX4_readStep_114 ⟨Nat.le_of_ble_eq_true rfl, Nat.le_of_ble_eq_true rfl⟩) hD hS hA (fun τ50_ H locs hq hP hD hS => ?_)
          obtain ⟨κ52_, τ53_⟩ := τ50_
          obtain ⟨hkκ52_, hτ53_, haκ52_, hcκ52_, q51_⟩ := hq
          have hP : va_P (dC, dI) vwCl (rW κ52_ τ53_) H := hP
          have hD : va_D A (rW κ52_ τ53_) := hD
          have q51_ : (τ53_.1 1).toInt = (τ46_.1 1).toInt := q51_
          refine W.widen (k := 1) (n := 11) (Nat.le_of_ble_eq_true rfl) (Nat.le_of_ble_eq_true rfl) ?_
          refine W.widen (k := 1) (n := 11) (Nat.le_of_ble_eq_true rfl) (Nat.le_of_ble_eq_true rfl) ?_
          rw [hQ]
          exact W.vret hx hb hr (fun t ht hW => ⟨⟨(κ52_, τ53_), rfl, ⟨hkκ52_, hτ53_, haκ52_, hcκ52_, trivial⟩, wEn_of hP (hK.sub [] rfl) hD ht hW⟩, hS.F ht⟩) hS.2.2 dX4_readStep_117
      · have tc40_ := (show 0 ≤ z39_.toInt from ti_nlt rfl rg_11 c40_)
        have lc40_ : ¬ (T35_.2.1 1) < (-1000000000) := fun h => c40_ (by rw [ez39_]; exact (lg_cmp_lt (T35_.2.1 1) (-1000000000)).mpr h)
        refine lv_aload_n hx hb dX4_readStep_80 rfl (lv_at hl 0 rfl) ?_
        obtain ⟨kn54_, hkn54_⟩ := rpl (κ := (ku (kp κ q7_) q7_ T35_)) (σ := τ36_) (a := q7_) (List.mem_append_right (kL κ) (List.mem_singleton_self q7_)) kf_self
        refine va_get (D := (dC, dI)) (ci := 9) (v := .long (T35_.2.1 2)) (C := RX9) (T := TX9) (N := 11) hx hb hts hin9 hown hK hP kn54_ hkn54_ rfl 10 (Nat.le_of_ble_eq_true rfl) (ho (.fieldLink RX4 169 "NearEnough$Step" "high" "J") (List.mem_of_getElem? (i := 11) rfl)) (fun _ h9 => h9) rfl dX4_readStep_81 ?_
        refine lv_ldc2 (v := (1000000000)) hx hb hown (ho (.constantLong RX4 172 (1000000000)) (List.mem_of_getElem? (i := 12) rfl)) dX4_readStep_84 ?_
        refine W.lcmp hx hb dX4_readStep_87 ?_
        refine lv_topi (fun z55_ ez55_ => ?_)
        refine lv_if_le (tgt := 98) hx hb dX4_readStep_88 rfl (fun c56_ => ?_) (fun c56_ => ?_)
        · have tc56_ := (show z55_.toInt ≤ 0 from ti_le rfl rg_11 c56_)
          have lc56_ : (T35_.2.1 2) ≤ 1000000000 := (lg_cmp_le (T35_.2.1 2) 1000000000).mp (by rw [← ez55_]; exact c56_)
          refine lv_aload_n hx hb dX4_readStep_98 rfl (lv_at hl 3 rfl) ?_
          refine zy_v (va_runV (As := []) (rest := []) ⟨hx, hb, hml, hown, hts⟩ (r_needSemi l dC dI adK adV (ku (kp κ q7_) q7_ T35_) H.size τ36_  ((fun t => PInv.push hk hq_) T35_) hτ36_ ) (cwV 0 hts gd_g_readStep_114_r_needSemi rfl rfl rfl dd_r_needSemi ⟨Nat.le_of_ble_eq_true rfl, Nat.le_of_ble_eq_true rfl⟩) (preVr hP hK hD hE hZ hR hS hA (ci := 4) (q0 := 0) rfl rfl) rfl rfl hl.1 rfl (lv_room (Nat.le_of_ble_eq_true rfl)) dX4_readStep_99 ⟨Nat.le_of_ble_eq_true rfl, Nat.le_of_ble_eq_true rfl⟩) hD hS hA (fun τ58_ H locs hq hP hD hS => ?_)
          obtain ⟨hτ58_, q59_⟩ := hq
          have q59_ : ((τ36_.1 1).toInt = 0 ∨ (τ58_.1 1).toInt ≠ 0) := q59_
          refine W.widen (k := 1) (n := 11) (Nat.le_of_ble_eq_true rfl) (Nat.le_of_ble_eq_true rfl) ?_
          refine lv_aload_n hx hb dX4_readStep_102 rfl (lv_at hl 3 rfl) ?_
          refine va_get (D := (dC, dI)) (ci := 4) (v := .int (τ58_.1 1)) (C := RX4) (T := TX4) (N := 4) hx hb hts hin4 hown hK hP 0 rfl rfl 2 (Nat.le_of_ble_eq_true rfl) (ho (.fieldLink RX4 18 "NearEnough$Reader" "fault" "I") (List.mem_of_getElem? (i := 7) rfl)) (fun _ h9 => h9) rfl dX4_readStep_103 ?_
          refine lv_if_ne (tgt := 117) hx hb dX4_readStep_106 rfl (fun c60_ => ?_) (fun c60_ => ?_)
          · have tc60_ := (show (τ58_.1 1).toInt ≠ 0 from ti_ne rfl rg_11 c60_)
            refine W.widen (k := 1) (n := 11) (Nat.le_of_ble_eq_true rfl) (Nat.le_of_ble_eq_true rfl) ?_
            rw [hQ]
            exact W.vret hx hb hr (fun t ht hW => ⟨⟨((ku (kp κ q7_) q7_ T35_), τ58_), rfl, ⟨((fun t => PInv.push hk hq_) T35_), hτ58_, rfl, rfl, trivial⟩, wEn_of hP (hK.sub [] rfl) hD ht hW⟩, hS.F ht⟩) hS.2.2 dX4_readStep_117
          · have tc60_ := (show (τ58_.1 1).toInt = 0 from ti_eq rfl rg_11 c60_)
            refine lv_aload_n hx hb dX4_readStep_109 rfl (lv_at hl 3 rfl) ?_
            refine va_get (D := (dC, dI)) (ci := 4) (v := .ref (kA κ 3)) (C := RX4) (T := TX4) (N := 4) hx hb hts hin4 hown hK hP 0 rfl rfl 1 (Nat.le_of_ble_eq_true rfl) (ho (.fieldLink RX4 12 "NearEnough$Reader" "told" "LNearEnough$Program;") (List.mem_of_getElem? (i := 8) rfl)) (fun _ h9 => h9) rfl dX4_readStep_110 ?_
            refine lv_aload_n hx hb dX4_readStep_113 rfl (lv_at hl 0 rfl) ?_
            refine zy_v (va_runV (As := [.ref q7_]) (rest := []) ⟨hx, hb, hml, hown, hts⟩ (g_addStep l dC dI adK adV (ku (kp κ q7_) q7_ T35_) H.size τ58_ q7_ ((fun t => PInv.push hk hq_) T35_) hτ58_ T35_ ⟨(List.mem_append_right (kL κ) (List.mem_singleton_self q7_)), kf_self⟩ (by rcases PR37_.2 with h9 | h9; exact absurd o2 h9; exact h9.1) (fun r9 h9 => by obtain ⟨u9, n9, g9⟩ := PR37_.1 r9 h9; exact ⟨u9, IsRow.up g9 n9⟩)) (cwV 1 hts gd_g_readStep_174_g_addStep rfl rfl rfl dd_g_addStep ⟨Nat.le_of_ble_eq_true rfl, Nat.le_of_ble_eq_true rfl⟩) (preVr hP hK hD hE hZ hR hS hA (ci := 3) (q0 := 3) rfl rfl) rfl rfl hl.1 rfl (lv_room (Nat.le_of_ble_eq_true rfl)) dX4_readStep_114 ⟨Nat.le_of_ble_eq_true rfl, Nat.le_of_ble_eq_true rfl⟩) hD hS hA (fun τ62_ H locs hq hP hD hS => ?_)
            obtain ⟨κ64_, τ65_⟩ := τ62_
            obtain ⟨hkκ64_, hτ65_, haκ64_, hcκ64_, q63_⟩ := hq
            have hP : va_P (dC, dI) vwCl (rW κ64_ τ65_) H := hP
            have hD : va_D A (rW κ64_ τ65_) := hD
            have q63_ : (τ65_.1 1).toInt = (τ58_.1 1).toInt := q63_
            refine W.widen (k := 1) (n := 11) (Nat.le_of_ble_eq_true rfl) (Nat.le_of_ble_eq_true rfl) ?_
            refine W.widen (k := 1) (n := 11) (Nat.le_of_ble_eq_true rfl) (Nat.le_of_ble_eq_true rfl) ?_
            rw [hQ]
            exact W.vret hx hb hr (fun t ht hW => ⟨⟨(κ64_, τ65_), rfl, ⟨hkκ64_, hτ65_, haκ64_, hcκ64_, trivial⟩, wEn_of hP (hK.sub [] rfl) hD ht hW⟩, hS.F ht⟩) hS.2.2 dX4_readStep_117
        · have tc56_ := (show 0 < z55_.toInt from ti_nle rfl rg_11 c56_)
          have lc56_ : ¬ (T35_.2.1 2) ≤ 1000000000 := fun h => c56_ (by rw [ez55_]; exact (lg_cmp_le (T35_.2.1 2) 1000000000).mpr h)
          refine lv_aload_n hx hb dX4_readStep_91 rfl (lv_at hl 3 rfl) ?_
          refine lv_bipush (v := 7) hx hb dX4_readStep_92 rg_54 ?_
          refine lv_iload_n hx hb dX4_readStep_94 rfl (lv_at hl 1 rfl) ?_
          have kk66_ : (7 : Int32).toInt = 7 := rg_77
          refine zy_v (va_runV (As := [.int 7, .int (τ5_.1 5)]) (rest := []) ⟨hx, hb, hml, hown, hts⟩ (r_refuse l dC dI adK adV (ku (kp κ q7_) q7_ T35_) H.size τ36_ 7 (τ5_.1 5) ((fun t => PInv.push hk hq_) T35_) hτ36_ (by decide)) (cwV 2 hts gd_g_readStep_64_r_refuse rfl rfl rfl dd_r_refuse ⟨Nat.le_of_ble_eq_true rfl, Nat.le_of_ble_eq_true rfl⟩) (preVr hP hK hD hE hZ hR hS hA (ci := 4) (q0 := 0) rfl rfl) rfl rfl hl.1 rfl (lv_room (Nat.le_of_ble_eq_true rfl)) dX4_readStep_95 ⟨Nat.le_of_ble_eq_true rfl, Nat.le_of_ble_eq_true rfl⟩) hD hS hA (fun τ68_ H locs hq hP hD hS => ?_)
          obtain ⟨hτ68_, q69_⟩ := hq
          have q69_ : (τ68_.1 1).toInt ≠ 0 := q69_
          refine W.widen (k := 1) (n := 11) (Nat.le_of_ble_eq_true rfl) (Nat.le_of_ble_eq_true rfl) ?_
          refine lv_aload_n hx hb dX4_readStep_98 rfl (lv_at hl 3 rfl) ?_
          refine zy_v (va_runV (As := []) (rest := []) ⟨hx, hb, hml, hown, hts⟩ (r_needSemi l dC dI adK adV (ku (kp κ q7_) q7_ T35_) H.size τ68_  ((fun t => PInv.push hk hq_) T35_) hτ68_ ) (cwV 0 hts gd_g_readStep_114_r_needSemi rfl rfl rfl dd_r_needSemi ⟨Nat.le_of_ble_eq_true rfl, Nat.le_of_ble_eq_true rfl⟩) (preVr hP hK hD hE hZ hR hS hA (ci := 4) (q0 := 0) rfl rfl) rfl rfl hl.1 rfl (lv_room (Nat.le_of_ble_eq_true rfl)) dX4_readStep_99 ⟨Nat.le_of_ble_eq_true rfl, Nat.le_of_ble_eq_true rfl⟩) hD hS hA (fun τ71_ H locs hq hP hD hS => ?_)
          obtain ⟨hτ71_, q72_⟩ := hq
          have q72_ : ((τ68_.1 1).toInt = 0 ∨ (τ71_.1 1).toInt ≠ 0) := q72_
          refine W.widen (k := 1) (n := 11) (Nat.le_of_ble_eq_true rfl) (Nat.le_of_ble_eq_true rfl) ?_
          refine lv_aload_n hx hb dX4_readStep_102 rfl (lv_at hl 3 rfl) ?_
          refine va_get (D := (dC, dI)) (ci := 4) (v := .int (τ71_.1 1)) (C := RX4) (T := TX4) (N := 4) hx hb hts hin4 hown hK hP 0 rfl rfl 2 (Nat.le_of_ble_eq_true rfl) (ho (.fieldLink RX4 18 "NearEnough$Reader" "fault" "I") (List.mem_of_getElem? (i := 7) rfl)) (fun _ h9 => h9) rfl dX4_readStep_103 ?_
          refine lv_if_ne (tgt := 117) hx hb dX4_readStep_106 rfl (fun c73_ => ?_) (fun c73_ => ?_)
          · have tc73_ := (show (τ71_.1 1).toInt ≠ 0 from ti_ne rfl rg_11 c73_)
            refine W.widen (k := 1) (n := 11) (Nat.le_of_ble_eq_true rfl) (Nat.le_of_ble_eq_true rfl) ?_
            rw [hQ]
            exact W.vret hx hb hr (fun t ht hW => ⟨⟨((ku (kp κ q7_) q7_ T35_), τ71_), rfl, ⟨((fun t => PInv.push hk hq_) T35_), hτ71_, rfl, rfl, trivial⟩, wEn_of hP (hK.sub [] rfl) hD ht hW⟩, hS.F ht⟩) hS.2.2 dX4_readStep_117
          · have tc73_ := (show (τ71_.1 1).toInt = 0 from ti_eq rfl rg_11 c73_)
            refine lv_aload_n hx hb dX4_readStep_109 rfl (lv_at hl 3 rfl) ?_
            refine va_get (D := (dC, dI)) (ci := 4) (v := .ref (kA κ 3)) (C := RX4) (T := TX4) (N := 4) hx hb hts hin4 hown hK hP 0 rfl rfl 1 (Nat.le_of_ble_eq_true rfl) (ho (.fieldLink RX4 12 "NearEnough$Reader" "told" "LNearEnough$Program;") (List.mem_of_getElem? (i := 8) rfl)) (fun _ h9 => h9) rfl dX4_readStep_110 ?_
            refine lv_aload_n hx hb dX4_readStep_113 rfl (lv_at hl 0 rfl) ?_
            refine zy_v (va_runV (As := [.ref q7_]) (rest := []) ⟨hx, hb, hml, hown, hts⟩ (g_addStep l dC dI adK adV (ku (kp κ q7_) q7_ T35_) H.size τ71_ q7_ ((fun t => PInv.push hk hq_) T35_) hτ71_ T35_ ⟨(List.mem_append_right (kL κ) (List.mem_singleton_self q7_)), kf_self⟩ (by rcases PR37_.2 with h9 | h9; exact absurd o2 h9; exact h9.1) (fun r9 h9 => by obtain ⟨u9, n9, g9⟩ := PR37_.1 r9 h9; exact ⟨u9, IsRow.up g9 n9⟩)) (cwV 1 hts gd_g_readStep_174_g_addStep rfl rfl rfl dd_g_addStep ⟨Nat.le_of_ble_eq_true rfl, Nat.le_of_ble_eq_true rfl⟩) (preVr hP hK hD hE hZ hR hS hA (ci := 3) (q0 := 3) rfl rfl) rfl rfl hl.1 rfl (lv_room (Nat.le_of_ble_eq_true rfl)) dX4_readStep_114 ⟨Nat.le_of_ble_eq_true rfl, Nat.le_of_ble_eq_true rfl⟩) hD hS hA (fun τ75_ H locs hq hP hD hS => ?_)
            obtain ⟨κ77_, τ78_⟩ := τ75_
            obtain ⟨hkκ77_, hτ78_, haκ77_, hcκ77_, q76_⟩ := hq
            have hP : va_P (dC, dI) vwCl (rW κ77_ τ78_) H := hP
            have hD : va_D A (rW κ77_ τ78_) := hD
            have q76_ : (τ78_.1 1).toInt = (τ71_.1 1).toInt := q76_
            refine W.widen (k := 1) (n := 11) (Nat.le_of_ble_eq_true rfl) (Nat.le_of_ble_eq_true rfl) ?_
            refine W.widen (k := 1) (n := 11) (Nat.le_of_ble_eq_true rfl) (Nat.le_of_ble_eq_true rfl) ?_
            rw [hQ]
            exact W.vret hx hb hr (fun t ht hW => ⟨⟨(κ77_, τ78_), rfl, ⟨hkκ77_, hτ78_, haκ77_, hcκ77_, trivial⟩, wEn_of hP (hK.sub [] rfl) hD ht hW⟩, hS.F ht⟩) hS.2.2 dX4_readStep_117
  refine lv_iload_n hx hb dX4_readStep_6 rfl (lv_at hl 0 rfl) ?_
  refine lv_iconst (v := (-1)) hx hb dX4_readStep_7 rg_53 ?_
  refine lv_icmp_eq (tgt := 27) hx hb dX4_readStep_8 rfl (fun c79_ => ?_) (fun c79_ => ?_)
  · have tc79_ := (show z1_.toInt = (-1) from ti_eq rfl rg_489 c79_)
    refine lv_iconst (v := 0) hx hb dX4_readStep_27 rg_0 ?_
    have kk80_ : (0 : Int32).toInt = 0 := rg_11
    exact pt28_  0 _ _ _  hP hD hS (lv_sub hl [0, 1] rfl)
  · have tc79_ := (show z1_.toInt ≠ (-1) from ti_ne rfl rg_489 c79_)
    refine lv_aload_n hx hb dX4_readStep_11 rfl (lv_at hl 1 rfl) ?_
    refine va_get (D := (dC, dI)) (ci := 4) (v := .ref (kA κ 3)) (C := RX4) (T := TX4) (N := 4) hx hb hts hin4 hown hK hP 0 rfl rfl 1 (Nat.le_of_ble_eq_true rfl) (ho (.fieldLink RX4 12 "NearEnough$Reader" "told" "LNearEnough$Program;") (List.mem_of_getElem? (i := 8) rfl)) (fun _ h9 => h9) rfl dX4_readStep_12 ?_
    refine va_get (D := (dC, dI)) (ci := 3) (v := .int (pI κ 1)) (C := RX3) (T := TX3) (N := 8) hx hb hts hin3 hown hK hP 3 rfl rfl 6 (Nat.le_of_ble_eq_true rfl) (ho (.fieldLink RX4 149 "NearEnough$Program" "stepCount" "I") (List.mem_of_getElem? (i := 13) rfl)) (fun _ h9 => h9) rfl dX4_readStep_15 ?_
    refine lv_bipush (v := 12) hx hb dX4_readStep_18 rg_57 ?_
    refine lv_icmp_ge (tgt := 27) hx hb dX4_readStep_20 rfl (fun c81_ => ?_) (fun c81_ => ?_)
    · have tc81_ := (show 12 ≤ (pI κ 1).toInt from ti_le rg_58 rfl c81_)
      refine lv_iconst (v := 0) hx hb dX4_readStep_27 rg_0 ?_
      have kk82_ : (0 : Int32).toInt = 0 := rg_11
      exact pt28_  0 _ _ _  hP hD hS (lv_sub hl [0, 1] rfl)
    · have tc81_ := (show (pI κ 1).toInt < 12 from ti_nle rg_58 rfl c81_)
      refine lv_iconst (v := 1) hx hb dX4_readStep_23 rg_6 ?_
      refine lv_goto (tgt := 28) hx hb dX4_readStep_24 rfl ?_
      have kk83_ : (1 : Int32).toInt = 1 := rg_18
      exact pt28_  1 _ _ _  hP hD hS (lv_sub hl [0, 1] rfl)
