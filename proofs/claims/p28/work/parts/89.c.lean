theorem dX2_forget_0 : decode cX2_forget 0 = .ok (.aload_n 0, 1) := by decide +kernel
theorem dX2_forget_1 : decode cX2_forget 1 = .ok (.iconst (-1), 1) := by decide +kernel
theorem dX2_forget_2 : decode cX2_forget 2 = .ok (.putfield 9, 3) := by decide +kernel
theorem dX2_forget_5 : decode cX2_forget 5 = .ok (.return_, 1) := by decide +kernel
theorem dX2_bringChoice_0 : decode cX2_bringChoice 0 = .ok (.aload_n 0, 1) := by decide +kernel
theorem dX2_bringChoice_1 : decode cX2_bringChoice 1 = .ok (.getfield 30, 3) := by decide +kernel
theorem dX2_bringChoice_4 : decode cX2_bringChoice 4 = .ok (.aload_n 0, 1) := by decide +kernel
theorem dX2_bringChoice_5 : decode cX2_bringChoice 5 = .ok (.getfield 30, 3) := by decide +kernel
theorem dX2_bringChoice_8 : decode cX2_bringChoice 8 = .ok (.getfield 74, 3) := by decide +kernel
theorem dX2_bringChoice_11 : decode cX2_bringChoice 11 = .ok (.invokevirtual 79, 3) := by decide +kernel
theorem dX2_bringChoice_14 : decode cX2_bringChoice 14 = .ok (.bipush 12, 2) := by decide +kernel
theorem dX2_bringChoice_16 : decode cX2_bringChoice 16 = .ok (.ishl, 1) := by decide +kernel
theorem dX2_bringChoice_17 : decode cX2_bringChoice 17 = .ok (.sipush 4095, 3) := by decide +kernel
theorem dX2_bringChoice_20 : decode cX2_bringChoice 20 = .ok (.aload_n 0, 1) := by decide +kernel
theorem dX2_bringChoice_21 : decode cX2_bringChoice 21 = .ok (.getfield 30, 3) := by decide +kernel
theorem dX2_bringChoice_24 : decode cX2_bringChoice 24 = .ok (.getfield 74, 3) := by decide +kernel
theorem dX2_bringChoice_27 : decode cX2_bringChoice 27 = .ok (.isub, 1) := by decide +kernel
theorem dX2_bringChoice_28 : decode cX2_bringChoice 28 = .ok (.ior, 1) := by decide +kernel
theorem dX2_bringChoice_29 : decode cX2_bringChoice 29 = .ok (.istore_n 2, 1) := by decide +kernel
theorem dX2_bringChoice_30 : decode cX2_bringChoice 30 = .ok (.iconst 0, 1) := by decide +kernel
theorem dX2_bringChoice_31 : decode cX2_bringChoice 31 = .ok (.istore_n 3, 1) := by decide +kernel
theorem dX2_bringChoice_32 : decode cX2_bringChoice 32 = .ok (.iload_n 3, 1) := by decide +kernel
theorem dX2_bringChoice_33 : decode cX2_bringChoice 33 = .ok (.aload_n 0, 1) := by decide +kernel
theorem dX2_bringChoice_34 : decode cX2_bringChoice 34 = .ok (.getfield 26, 3) := by decide +kernel
theorem dX2_bringChoice_37 : decode cX2_bringChoice 37 = .ok (.getfield 66, 3) := by decide +kernel
theorem dX2_bringChoice_40 : decode cX2_bringChoice 40 = .ok (.if_icmp .ge 77, 3) := by decide +kernel
theorem dX2_bringChoice_117 : decode cX2_bringChoice 117 = .ok (.return_, 1) := by decide +kernel
theorem dX2_bringChoice_43 : decode cX2_bringChoice 43 = .ok (.aload_n 0, 1) := by decide +kernel
theorem dX2_bringChoice_44 : decode cX2_bringChoice 44 = .ok (.getfield 38, 3) := by decide +kernel
theorem dX2_bringChoice_47 : decode cX2_bringChoice 47 = .ok (.iload_n 3, 1) := by decide +kernel
theorem dX2_bringChoice_48 : decode cX2_bringChoice 48 = .ok (.aload_n 0, 1) := by decide +kernel
theorem dX2_bringChoice_49 : decode cX2_bringChoice 49 = .ok (.getfield 34, 3) := by decide +kernel
theorem dX2_bringChoice_52 : decode cX2_bringChoice 52 = .ok (.getfield 83, 3) := by decide +kernel
theorem dX2_bringChoice_55 : decode cX2_bringChoice 55 = .ok (.iload_n 1, 1) := by decide +kernel
theorem dX2_bringChoice_56 : decode cX2_bringChoice 56 = .ok (.invokevirtual 86, 3) := by decide +kernel
theorem dX2_bringChoice_59 : decode cX2_bringChoice 59 = .ok (.aload_n 0, 1) := by decide +kernel
theorem dX2_bringChoice_60 : decode cX2_bringChoice 60 = .ok (.getfield 38, 3) := by decide +kernel
theorem dX2_bringChoice_63 : decode cX2_bringChoice 63 = .ok (.iload_n 3, 1) := by decide +kernel
theorem dX2_bringChoice_64 : decode cX2_bringChoice 64 = .ok (.iload_n 1, 1) := by decide +kernel
theorem dX2_bringChoice_65 : decode cX2_bringChoice 65 = .ok (.invokevirtual 92, 3) := by decide +kernel
theorem dX2_bringChoice_68 : decode cX2_bringChoice 68 = .ok (.invokestatic 96, 3) := by decide +kernel
theorem dX2_bringChoice_71 : decode cX2_bringChoice 71 = .ok (.lstore 4, 2) := by decide +kernel
theorem dX2_bringChoice_73 : decode cX2_bringChoice 73 = .ok (.lload 4, 2) := by decide +kernel
theorem dX2_bringChoice_75 : decode cX2_bringChoice 75 = .ok (.ldc2_w 102, 3) := by decide +kernel
theorem dX2_bringChoice_78 : decode cX2_bringChoice 78 = .ok (.lcmp, 1) := by decide +kernel
theorem dX2_bringChoice_79 : decode cX2_bringChoice 79 = .ok (.ifCond .ge 32, 3) := by decide +kernel
theorem dX2_bringChoice_111 : decode cX2_bringChoice 111 = .ok (.iinc 3 1, 3) := by decide +kernel
theorem dX2_bringChoice_114 : decode cX2_bringChoice 114 = .ok (.goto (-82), 3) := by decide +kernel
theorem dX2_bringChoice_82 : decode cX2_bringChoice 82 = .ok (.iload_n 3, 1) := by decide +kernel
theorem dX2_bringChoice_83 : decode cX2_bringChoice 83 = .ok (.sipush 401, 3) := by decide +kernel
theorem dX2_bringChoice_86 : decode cX2_bringChoice 86 = .ok (.imul, 1) := by decide +kernel
theorem dX2_bringChoice_87 : decode cX2_bringChoice 87 = .ok (.lload 4, 2) := by decide +kernel
theorem dX2_bringChoice_89 : decode cX2_bringChoice 89 = .ok (.l2i, 1) := by decide +kernel
theorem dX2_bringChoice_90 : decode cX2_bringChoice 90 = .ok (.iadd, 1) := by decide +kernel
theorem dX2_bringChoice_91 : decode cX2_bringChoice 91 = .ok (.istore 6, 2) := by decide +kernel
theorem dX2_bringChoice_93 : decode cX2_bringChoice 93 = .ok (.aload_n 0, 1) := by decide +kernel
theorem dX2_bringChoice_94 : decode cX2_bringChoice 94 = .ok (.getfield 15, 3) := by decide +kernel
theorem dX2_bringChoice_97 : decode cX2_bringChoice 97 = .ok (.iload 6, 2) := by decide +kernel
theorem dX2_bringChoice_99 : decode cX2_bringChoice 99 = .ok (.aload_n 0, 1) := by decide +kernel
theorem dX2_bringChoice_100 : decode cX2_bringChoice 100 = .ok (.getfield 15, 3) := by decide +kernel
theorem dX2_bringChoice_103 : decode cX2_bringChoice 103 = .ok (.iload 6, 2) := by decide +kernel
theorem dX2_bringChoice_105 : decode cX2_bringChoice 105 = .ok (.iaload, 1) := by decide +kernel
theorem dX2_bringChoice_106 : decode cX2_bringChoice 106 = .ok (.iload_n 2, 1) := by decide +kernel
theorem dX2_bringChoice_107 : decode cX2_bringChoice 107 = .ok (.invokestatic 104, 3) := by decide +kernel
theorem dX2_bringChoice_110 : decode cX2_bringChoice 110 = .ok (.iastore, 1) := by decide +kernel
theorem dX2_addUp_0 : decode cX2_addUp 0 = .ok (.iload_n 1, 1) := by decide +kernel
theorem dX2_addUp_1 : decode cX2_addUp 1 = .ok (.sipush 401, 3) := by decide +kernel
theorem dX2_addUp_4 : decode cX2_addUp 4 = .ok (.imul, 1) := by decide +kernel
theorem dX2_addUp_5 : decode cX2_addUp 5 = .ok (.istore_n 2, 1) := by decide +kernel
theorem dX2_addUp_6 : decode cX2_addUp 6 = .ok (.iload_n 2, 1) := by decide +kernel
theorem dX2_addUp_7 : decode cX2_addUp 7 = .ok (.sipush 401, 3) := by decide +kernel
theorem dX2_addUp_10 : decode cX2_addUp 10 = .ok (.iadd, 1) := by decide +kernel
theorem dX2_addUp_11 : decode cX2_addUp 11 = .ok (.istore_n 3, 1) := by decide +kernel
theorem dX2_addUp_12 : decode cX2_addUp 12 = .ok (.iconst (-1), 1) := by decide +kernel
theorem dX2_addUp_13 : decode cX2_addUp 13 = .ok (.istore 4, 2) := by decide +kernel
theorem dX2_addUp_15 : decode cX2_addUp 15 = .ok (.iconst 0, 1) := by decide +kernel
theorem dX2_addUp_16 : decode cX2_addUp 16 = .ok (.istore 5, 2) := by decide +kernel
theorem dX2_addUp_18 : decode cX2_addUp 18 = .ok (.iload 5, 2) := by decide +kernel
theorem dX2_addUp_20 : decode cX2_addUp 20 = .ok (.sipush 401, 3) := by decide +kernel
theorem dX2_addUp_23 : decode cX2_addUp 23 = .ok (.if_icmp .ge 88, 3) := by decide +kernel
theorem dX2_addUp_111 : decode cX2_addUp 111 = .ok (.return_, 1) := by decide +kernel
theorem dX2_addUp_26 : decode cX2_addUp 26 = .ok (.aload_n 0, 1) := by decide +kernel
theorem dX2_addUp_27 : decode cX2_addUp 27 = .ok (.getfield 15, 3) := by decide +kernel
theorem dX2_addUp_30 : decode cX2_addUp 30 = .ok (.iload_n 2, 1) := by decide +kernel
theorem dX2_addUp_31 : decode cX2_addUp 31 = .ok (.iload 5, 2) := by decide +kernel
theorem dX2_addUp_33 : decode cX2_addUp 33 = .ok (.iadd, 1) := by decide +kernel
theorem dX2_addUp_34 : decode cX2_addUp 34 = .ok (.iaload, 1) := by decide +kernel
theorem dX2_addUp_35 : decode cX2_addUp 35 = .ok (.bipush 12, 2) := by decide +kernel
theorem dX2_addUp_37 : decode cX2_addUp 37 = .ok (.ishr, 1) := by decide +kernel
theorem dX2_addUp_38 : decode cX2_addUp 38 = .ok (.istore 6, 2) := by decide +kernel
theorem dX2_addUp_40 : decode cX2_addUp 40 = .ok (.iload 6, 2) := by decide +kernel
theorem dX2_addUp_42 : decode cX2_addUp 42 = .ok (.iload 4, 2) := by decide +kernel
theorem dX2_addUp_44 : decode cX2_addUp 44 = .ok (.if_icmp .le 61, 3) := by decide +kernel
theorem dX2_addUp_105 : decode cX2_addUp 105 = .ok (.iinc 5 1, 3) := by decide +kernel
theorem dX2_addUp_108 : decode cX2_addUp 108 = .ok (.goto (-90), 3) := by decide +kernel
theorem dX2_addUp_47 : decode cX2_addUp 47 = .ok (.iload 6, 2) := by decide +kernel
theorem dX2_addUp_49 : decode cX2_addUp 49 = .ok (.istore 4, 2) := by decide +kernel
theorem dX2_addUp_51 : decode cX2_addUp 51 = .ok (.iload 5, 2) := by decide +kernel
theorem dX2_addUp_53 : decode cX2_addUp 53 = .ok (.istore 7, 2) := by decide +kernel
theorem dX2_addUp_55 : decode cX2_addUp 55 = .ok (.iload 7, 2) := by decide +kernel
theorem dX2_addUp_57 : decode cX2_addUp 57 = .ok (.sipush 401, 3) := by decide +kernel
theorem dX2_addUp_60 : decode cX2_addUp 60 = .ok (.if_icmp .ge 45, 3) := by decide +kernel
theorem dX2_addUp_63 : decode cX2_addUp 63 = .ok (.aload_n 0, 1) := by decide +kernel
theorem dX2_addUp_64 : decode cX2_addUp 64 = .ok (.getfield 19, 3) := by decide +kernel
theorem dX2_addUp_67 : decode cX2_addUp 67 = .ok (.iload_n 2, 1) := by decide +kernel
theorem dX2_addUp_68 : decode cX2_addUp 68 = .ok (.iload 7, 2) := by decide +kernel
theorem dX2_addUp_70 : decode cX2_addUp 70 = .ok (.iadd, 1) := by decide +kernel
theorem dX2_addUp_71 : decode cX2_addUp 71 = .ok (.aload_n 0, 1) := by decide +kernel
theorem dX2_addUp_72 : decode cX2_addUp 72 = .ok (.getfield 19, 3) := by decide +kernel
theorem dX2_addUp_75 : decode cX2_addUp 75 = .ok (.iload_n 2, 1) := by decide +kernel
theorem dX2_addUp_76 : decode cX2_addUp 76 = .ok (.iload 7, 2) := by decide +kernel
theorem dX2_addUp_78 : decode cX2_addUp 78 = .ok (.iadd, 1) := by decide +kernel
theorem dX2_addUp_79 : decode cX2_addUp 79 = .ok (.iaload, 1) := by decide +kernel
theorem dX2_addUp_80 : decode cX2_addUp 80 = .ok (.iload 6, 2) := by decide +kernel
theorem dX2_addUp_82 : decode cX2_addUp 82 = .ok (.aload_n 0, 1) := by decide +kernel
theorem dX2_addUp_83 : decode cX2_addUp 83 = .ok (.getfield 19, 3) := by decide +kernel
theorem dX2_addUp_86 : decode cX2_addUp 86 = .ok (.iload_n 3, 1) := by decide +kernel
theorem dX2_addUp_87 : decode cX2_addUp 87 = .ok (.iload 7, 2) := by decide +kernel
theorem dX2_addUp_89 : decode cX2_addUp 89 = .ok (.iadd, 1) := by decide +kernel
theorem dX2_addUp_90 : decode cX2_addUp 90 = .ok (.iload 5, 2) := by decide +kernel
theorem dX2_addUp_92 : decode cX2_addUp 92 = .ok (.isub, 1) := by decide +kernel
theorem dX2_addUp_93 : decode cX2_addUp 93 = .ok (.iaload, 1) := by decide +kernel
theorem dX2_addUp_94 : decode cX2_addUp 94 = .ok (.iadd, 1) := by decide +kernel
theorem dX2_addUp_95 : decode cX2_addUp 95 = .ok (.invokestatic 104, 3) := by decide +kernel
theorem dX2_addUp_98 : decode cX2_addUp 98 = .ok (.iastore, 1) := by decide +kernel
theorem dX2_addUp_99 : decode cX2_addUp 99 = .ok (.iinc 7 1, 3) := by decide +kernel
theorem dX2_addUp_102 : decode cX2_addUp 102 = .ok (.goto (-47), 3) := by decide +kernel
theorem dX2_savesFor_0 : decode cX2_savesFor 0 = .ok (.aload_n 0, 1) := by decide +kernel
theorem dX2_savesFor_1 : decode cX2_savesFor 1 = .ok (.getfield 19, 3) := by decide +kernel
theorem dX2_savesFor_4 : decode cX2_savesFor 4 = .ok (.iload_n 1, 1) := by decide +kernel
theorem dX2_savesFor_5 : decode cX2_savesFor 5 = .ok (.iaload, 1) := by decide +kernel
theorem dX2_savesFor_6 : decode cX2_savesFor 6 = .ok (.ireturn, 1) := by decide +kernel
theorem dX2_wrongOfLeast_0 : decode cX2_wrongOfLeast 0 = .ok (.iload_n 1, 1) := by decide +kernel
theorem dX2_wrongOfLeast_1 : decode cX2_wrongOfLeast 1 = .ok (.sipush 401, 3) := by decide +kernel
theorem dX2_wrongOfLeast_4 : decode cX2_wrongOfLeast 4 = .ok (.imul, 1) := by decide +kernel
theorem dX2_wrongOfLeast_5 : decode cX2_wrongOfLeast 5 = .ok (.istore_n 3, 1) := by decide +kernel
theorem dX2_wrongOfLeast_6 : decode cX2_wrongOfLeast 6 = .ok (.iload_n 3, 1) := by decide +kernel
theorem dX2_wrongOfLeast_7 : decode cX2_wrongOfLeast 7 = .ok (.sipush 401, 3) := by decide +kernel
theorem dX2_wrongOfLeast_10 : decode cX2_wrongOfLeast 10 = .ok (.iadd, 1) := by decide +kernel
theorem dX2_wrongOfLeast_11 : decode cX2_wrongOfLeast 11 = .ok (.istore 4, 2) := by decide +kernel
theorem dX2_wrongOfLeast_13 : decode cX2_wrongOfLeast 13 = .ok (.iconst 0, 1) := by decide +kernel
theorem dX2_wrongOfLeast_14 : decode cX2_wrongOfLeast 14 = .ok (.istore 5, 2) := by decide +kernel
theorem dX2_wrongOfLeast_16 : decode cX2_wrongOfLeast 16 = .ok (.sipush 4096, 3) := by decide +kernel
theorem dX2_wrongOfLeast_19 : decode cX2_wrongOfLeast 19 = .ok (.istore 6, 2) := by decide +kernel
theorem dX2_wrongOfLeast_21 : decode cX2_wrongOfLeast 21 = .ok (.iconst 0, 1) := by decide +kernel
theorem dX2_wrongOfLeast_22 : decode cX2_wrongOfLeast 22 = .ok (.istore 7, 2) := by decide +kernel
theorem dX2_wrongOfLeast_24 : decode cX2_wrongOfLeast 24 = .ok (.iload 7, 2) := by decide +kernel
theorem dX2_wrongOfLeast_26 : decode cX2_wrongOfLeast 26 = .ok (.iload_n 2, 1) := by decide +kernel
theorem dX2_wrongOfLeast_27 : decode cX2_wrongOfLeast 27 = .ok (.if_icmp .gt 88, 3) := by decide +kernel
theorem dX2_wrongOfLeast_115 : decode cX2_wrongOfLeast 115 = .ok (.iload 5, 2) := by decide +kernel
theorem dX2_wrongOfLeast_117 : decode cX2_wrongOfLeast 117 = .ok (.ireturn, 1) := by decide +kernel
theorem dX2_wrongOfLeast_30 : decode cX2_wrongOfLeast 30 = .ok (.aload_n 0, 1) := by decide +kernel
theorem dX2_wrongOfLeast_31 : decode cX2_wrongOfLeast 31 = .ok (.getfield 15, 3) := by decide +kernel
theorem dX2_wrongOfLeast_34 : decode cX2_wrongOfLeast 34 = .ok (.iload_n 3, 1) := by decide +kernel
theorem dX2_wrongOfLeast_35 : decode cX2_wrongOfLeast 35 = .ok (.iload 7, 2) := by decide +kernel
theorem dX2_wrongOfLeast_37 : decode cX2_wrongOfLeast 37 = .ok (.iadd, 1) := by decide +kernel
theorem dX2_wrongOfLeast_38 : decode cX2_wrongOfLeast 38 = .ok (.iaload, 1) := by decide +kernel
theorem dX2_wrongOfLeast_39 : decode cX2_wrongOfLeast 39 = .ok (.istore 8, 2) := by decide +kernel
theorem dX2_wrongOfLeast_81 : decode cX2_wrongOfLeast 81 = .ok (.istore 9, 2) := by decide +kernel
theorem dX2_wrongOfLeast_83 : decode cX2_wrongOfLeast 83 = .ok (.iload 9, 2) := by decide +kernel
theorem dX2_wrongOfLeast_85 : decode cX2_wrongOfLeast 85 = .ok (.ifCond .eq 24, 3) := by decide +kernel
theorem dX2_wrongOfLeast_109 : decode cX2_wrongOfLeast 109 = .ok (.iinc 7 1, 3) := by decide +kernel
theorem dX2_wrongOfLeast_112 : decode cX2_wrongOfLeast 112 = .ok (.goto (-88), 3) := by decide +kernel
theorem dX2_wrongOfLeast_88 : decode cX2_wrongOfLeast 88 = .ok (.iload 8, 2) := by decide +kernel
theorem dX2_wrongOfLeast_90 : decode cX2_wrongOfLeast 90 = .ok (.invokestatic 111, 3) := by decide +kernel
theorem dX2_wrongOfLeast_93 : decode cX2_wrongOfLeast 93 = .ok (.iload 6, 2) := by decide +kernel
theorem dX2_wrongOfLeast_95 : decode cX2_wrongOfLeast 95 = .ok (.if_icmp .ge 14, 3) := by decide +kernel
theorem dX2_wrongOfLeast_98 : decode cX2_wrongOfLeast 98 = .ok (.iload 7, 2) := by decide +kernel
theorem dX2_wrongOfLeast_100 : decode cX2_wrongOfLeast 100 = .ok (.istore 5, 2) := by decide +kernel
theorem dX2_wrongOfLeast_102 : decode cX2_wrongOfLeast 102 = .ok (.iload 8, 2) := by decide +kernel
theorem dX2_wrongOfLeast_104 : decode cX2_wrongOfLeast 104 = .ok (.invokestatic 111, 3) := by decide +kernel
theorem dX2_wrongOfLeast_107 : decode cX2_wrongOfLeast 107 = .ok (.istore 6, 2) := by decide +kernel
theorem dX2_wrongOfLeast_41 : decode cX2_wrongOfLeast 41 = .ok (.iload 8, 2) := by decide +kernel
theorem dX2_wrongOfLeast_43 : decode cX2_wrongOfLeast 43 = .ok (.iconst (-1), 1) := by decide +kernel
theorem dX2_wrongOfLeast_44 : decode cX2_wrongOfLeast 44 = .ok (.if_icmp .eq 36, 3) := by decide +kernel
theorem dX2_wrongOfLeast_80 : decode cX2_wrongOfLeast 80 = .ok (.iconst 0, 1) := by decide +kernel
theorem dX2_wrongOfLeast_47 : decode cX2_wrongOfLeast 47 = .ok (.iload 8, 2) := by decide +kernel
theorem dX2_wrongOfLeast_49 : decode cX2_wrongOfLeast 49 = .ok (.bipush 12, 2) := by decide +kernel
theorem dX2_wrongOfLeast_51 : decode cX2_wrongOfLeast 51 = .ok (.ishr, 1) := by decide +kernel
theorem dX2_wrongOfLeast_52 : decode cX2_wrongOfLeast 52 = .ok (.aload_n 0, 1) := by decide +kernel
theorem dX2_wrongOfLeast_53 : decode cX2_wrongOfLeast 53 = .ok (.getfield 19, 3) := by decide +kernel
theorem dX2_wrongOfLeast_56 : decode cX2_wrongOfLeast 56 = .ok (.iload 4, 2) := by decide +kernel
theorem dX2_wrongOfLeast_58 : decode cX2_wrongOfLeast 58 = .ok (.iload_n 2, 1) := by decide +kernel
theorem dX2_wrongOfLeast_59 : decode cX2_wrongOfLeast 59 = .ok (.iadd, 1) := by decide +kernel
theorem dX2_wrongOfLeast_60 : decode cX2_wrongOfLeast 60 = .ok (.iload 7, 2) := by decide +kernel
theorem dX2_wrongOfLeast_62 : decode cX2_wrongOfLeast 62 = .ok (.isub, 1) := by decide +kernel
theorem dX2_wrongOfLeast_63 : decode cX2_wrongOfLeast 63 = .ok (.iaload, 1) := by decide +kernel
theorem dX2_wrongOfLeast_64 : decode cX2_wrongOfLeast 64 = .ok (.iadd, 1) := by decide +kernel
theorem dX2_wrongOfLeast_65 : decode cX2_wrongOfLeast 65 = .ok (.aload_n 0, 1) := by decide +kernel
theorem dX2_wrongOfLeast_66 : decode cX2_wrongOfLeast 66 = .ok (.getfield 19, 3) := by decide +kernel
theorem dX2_wrongOfLeast_69 : decode cX2_wrongOfLeast 69 = .ok (.iload_n 3, 1) := by decide +kernel
theorem dX2_wrongOfLeast_70 : decode cX2_wrongOfLeast 70 = .ok (.iload_n 2, 1) := by decide +kernel
theorem dX2_wrongOfLeast_71 : decode cX2_wrongOfLeast 71 = .ok (.iadd, 1) := by decide +kernel
theorem dX2_wrongOfLeast_72 : decode cX2_wrongOfLeast 72 = .ok (.iaload, 1) := by decide +kernel
theorem dX2_wrongOfLeast_73 : decode cX2_wrongOfLeast 73 = .ok (.if_icmp .ne 7, 3) := by decide +kernel
theorem dX2_wrongOfLeast_76 : decode cX2_wrongOfLeast 76 = .ok (.iconst 1, 1) := by decide +kernel
theorem dX2_wrongOfLeast_77 : decode cX2_wrongOfLeast 77 = .ok (.goto 4, 3) := by decide +kernel
theorem dX2_choiceFor_0 : decode cX2_choiceFor 0 = .ok (.iload_n 1, 1) := by decide +kernel
theorem dX2_choiceFor_1 : decode cX2_choiceFor 1 = .ok (.istore_n 3, 1) := by decide +kernel
theorem dX2_choiceFor_2 : decode cX2_choiceFor 2 = .ok (.iconst 0, 1) := by decide +kernel
theorem dX2_choiceFor_3 : decode cX2_choiceFor 3 = .ok (.istore 4, 2) := by decide +kernel
theorem dX2_choiceFor_5 : decode cX2_choiceFor 5 = .ok (.iconst 0, 1) := by decide +kernel
theorem dX2_choiceFor_6 : decode cX2_choiceFor 6 = .ok (.istore 5, 2) := by decide +kernel
theorem dX2_choiceFor_8 : decode cX2_choiceFor 8 = .ok (.iload 5, 2) := by decide +kernel
theorem dX2_choiceFor_10 : decode cX2_choiceFor 10 = .ok (.iload_n 2, 1) := by decide +kernel
theorem dX2_choiceFor_11 : decode cX2_choiceFor 11 = .ok (.if_icmp .gt 42, 3) := by decide +kernel
theorem dX2_choiceFor_53 : decode cX2_choiceFor 53 = .ok (.iload 4, 2) := by decide +kernel
theorem dX2_choiceFor_55 : decode cX2_choiceFor 55 = .ok (.ireturn, 1) := by decide +kernel
theorem dX2_choiceFor_14 : decode cX2_choiceFor 14 = .ok (.aload_n 0, 1) := by decide +kernel
theorem dX2_choiceFor_15 : decode cX2_choiceFor 15 = .ok (.iload 5, 2) := by decide +kernel
theorem dX2_choiceFor_17 : decode cX2_choiceFor 17 = .ok (.iload_n 3, 1) := by decide +kernel
theorem dX2_choiceFor_18 : decode cX2_choiceFor 18 = .ok (.invokevirtual 108, 3) := by decide +kernel
theorem dX2_choiceFor_21 : decode cX2_choiceFor 21 = .ok (.istore 6, 2) := by decide +kernel
theorem dX2_choiceFor_23 : decode cX2_choiceFor 23 = .ok (.aload_n 0, 1) := by decide +kernel
theorem dX2_choiceFor_24 : decode cX2_choiceFor 24 = .ok (.getfield 15, 3) := by decide +kernel
theorem dX2_choiceFor_27 : decode cX2_choiceFor 27 = .ok (.iload 5, 2) := by decide +kernel
theorem dX2_choiceFor_29 : decode cX2_choiceFor 29 = .ok (.sipush 401, 3) := by decide +kernel
theorem dX2_choiceFor_32 : decode cX2_choiceFor 32 = .ok (.imul, 1) := by decide +kernel
theorem dX2_choiceFor_33 : decode cX2_choiceFor 33 = .ok (.iload 6, 2) := by decide +kernel
theorem dX2_choiceFor_35 : decode cX2_choiceFor 35 = .ok (.iadd, 1) := by decide +kernel
theorem dX2_choiceFor_36 : decode cX2_choiceFor 36 = .ok (.iaload, 1) := by decide +kernel
theorem dX2_choiceFor_37 : decode cX2_choiceFor 37 = .ok (.invokestatic 111, 3) := by decide +kernel
theorem dX2_choiceFor_40 : decode cX2_choiceFor 40 = .ok (.istore 4, 2) := by decide +kernel
theorem dX2_choiceFor_42 : decode cX2_choiceFor 42 = .ok (.iload_n 3, 1) := by decide +kernel
theorem dX2_choiceFor_43 : decode cX2_choiceFor 43 = .ok (.iload 6, 2) := by decide +kernel
theorem dX2_choiceFor_45 : decode cX2_choiceFor 45 = .ok (.isub, 1) := by decide +kernel
theorem dX2_choiceFor_46 : decode cX2_choiceFor 46 = .ok (.istore_n 3, 1) := by decide +kernel
theorem dX2_choiceFor_47 : decode cX2_choiceFor 47 = .ok (.iinc 5 1, 3) := by decide +kernel
theorem dX2_choiceFor_50 : decode cX2_choiceFor 50 = .ok (.goto (-42), 3) := by decide +kernel
theorem dX2_prepare_0 : decode cX2_prepare 0 = .ok (.aload_n 0, 1) := by decide +kernel
theorem dX2_prepare_1 : decode cX2_prepare 1 = .ok (.getfield 9, 3) := by decide +kernel
theorem dX2_prepare_4 : decode cX2_prepare 4 = .ok (.iload_n 1, 1) := by decide +kernel
theorem dX2_prepare_5 : decode cX2_prepare 5 = .ok (.if_icmp .ne 4, 3) := by decide +kernel
theorem dX2_prepare_9 : decode cX2_prepare 9 = .ok (.aload_n 0, 1) := by decide +kernel
theorem dX2_prepare_10 : decode cX2_prepare 10 = .ok (.iload_n 1, 1) := by decide +kernel
theorem dX2_prepare_11 : decode cX2_prepare 11 = .ok (.putfield 9, 3) := by decide +kernel
theorem dX2_prepare_14 : decode cX2_prepare 14 = .ok (.aload_n 0, 1) := by decide +kernel
theorem dX2_prepare_15 : decode cX2_prepare 15 = .ok (.getfield 15, 3) := by decide +kernel
theorem dX2_prepare_18 : decode cX2_prepare 18 = .ok (.iconst (-1), 1) := by decide +kernel
theorem dX2_prepare_19 : decode cX2_prepare 19 = .ok (.invokestatic 42, 3) := by decide +kernel
theorem dX2_prepare_22 : decode cX2_prepare 22 = .ok (.aload_n 0, 1) := by decide +kernel
theorem dX2_prepare_23 : decode cX2_prepare 23 = .ok (.getfield 19, 3) := by decide +kernel
theorem dX2_prepare_26 : decode cX2_prepare 26 = .ok (.iconst 0, 1) := by decide +kernel
theorem dX2_prepare_27 : decode cX2_prepare 27 = .ok (.invokestatic 42, 3) := by decide +kernel
theorem dX2_prepare_30 : decode cX2_prepare 30 = .ok (.aload_n 0, 1) := by decide +kernel
theorem dX2_prepare_31 : decode cX2_prepare 31 = .ok (.getfield 34, 3) := by decide +kernel
theorem dX2_prepare_34 : decode cX2_prepare 34 = .ok (.invokevirtual 48, 3) := by decide +kernel
theorem dX2_prepare_37 : decode cX2_prepare 37 = .ok (.iconst 0, 1) := by decide +kernel
theorem dX2_prepare_38 : decode cX2_prepare 38 = .ok (.istore_n 2, 1) := by decide +kernel
theorem dX2_prepare_39 : decode cX2_prepare 39 = .ok (.iload_n 2, 1) := by decide +kernel
theorem dX2_prepare_40 : decode cX2_prepare 40 = .ok (.sipush 4096, 3) := by decide +kernel
theorem dX2_prepare_43 : decode cX2_prepare 43 = .ok (.if_icmp .ge 32, 3) := by decide +kernel
theorem dX2_prepare_75 : decode cX2_prepare 75 = .ok (.aload_n 0, 1) := by decide +kernel
theorem dX2_prepare_76 : decode cX2_prepare 76 = .ok (.getfield 26, 3) := by decide +kernel
theorem dX2_prepare_79 : decode cX2_prepare 79 = .ok (.getfield 66, 3) := by decide +kernel
theorem dX2_prepare_82 : decode cX2_prepare 82 = .ok (.iconst 1, 1) := by decide +kernel
theorem dX2_prepare_83 : decode cX2_prepare 83 = .ok (.isub, 1) := by decide +kernel
theorem dX2_prepare_84 : decode cX2_prepare 84 = .ok (.istore_n 2, 1) := by decide +kernel
theorem dX2_prepare_85 : decode cX2_prepare 85 = .ok (.iload_n 2, 1) := by decide +kernel
theorem dX2_prepare_86 : decode cX2_prepare 86 = .ok (.ifCond .lt 14, 3) := by decide +kernel
theorem dX2_prepare_100 : decode cX2_prepare 100 = .ok (.return_, 1) := by decide +kernel
theorem dX2_prepare_89 : decode cX2_prepare 89 = .ok (.aload_n 0, 1) := by decide +kernel
theorem dX2_prepare_90 : decode cX2_prepare 90 = .ok (.iload_n 2, 1) := by decide +kernel
theorem dX2_prepare_91 : decode cX2_prepare 91 = .ok (.invokevirtual 71, 3) := by decide +kernel
theorem dX2_prepare_94 : decode cX2_prepare 94 = .ok (.iinc 2 (-1), 3) := by decide +kernel
theorem dX2_prepare_97 : decode cX2_prepare 97 = .ok (.goto (-12), 3) := by decide +kernel
theorem dX2_prepare_46 : decode cX2_prepare 46 = .ok (.aload_n 0, 1) := by decide +kernel
theorem dX2_prepare_47 : decode cX2_prepare 47 = .ok (.getfield 34, 3) := by decide +kernel
theorem dX2_prepare_50 : decode cX2_prepare 50 = .ok (.invokevirtual 53, 3) := by decide +kernel
theorem dX2_prepare_53 : decode cX2_prepare 53 = .ok (.ifCond .eq 22, 3) := by decide +kernel
theorem dX2_prepare_56 : decode cX2_prepare 56 = .ok (.aload_n 0, 1) := by decide +kernel
theorem dX2_prepare_57 : decode cX2_prepare 57 = .ok (.aload_n 0, 1) := by decide +kernel
theorem dX2_prepare_58 : decode cX2_prepare 58 = .ok (.getfield 22, 3) := by decide +kernel
theorem dX2_prepare_61 : decode cX2_prepare 61 = .ok (.getfield 57, 3) := by decide +kernel
theorem dX2_prepare_64 : decode cX2_prepare 64 = .ok (.iload_n 1, 1) := by decide +kernel
theorem dX2_prepare_65 : decode cX2_prepare 65 = .ok (.iaload, 1) := by decide +kernel
theorem dX2_prepare_66 : decode cX2_prepare 66 = .ok (.invokevirtual 62, 3) := by decide +kernel
theorem dX2_prepare_69 : decode cX2_prepare 69 = .ok (.iinc 2 1, 3) := by decide +kernel
theorem dX2_prepare_72 : decode cX2_prepare 72 = .ok (.goto (-33), 3) := by decide +kernel
theorem dX2_prepare_8 : decode cX2_prepare 8 = .ok (.return_, 1) := by decide +kernel
theorem rx_997173c2d3 : (16040 : Int32).toInt = 16040 := by decide
theorem rx_c3b011b86a : (16441 : Int32).toInt = 16441 := by decide
def ow_p_forget : List Cond := [.fieldLink RX2 9 "NearEnough$Plan" "itsEnd" "I"]
def vs_p_forget : List Cond := .code yX2_forget cX2_forget 1 none :: (ow_p_forget ++ (wsX20))
theorem vg_p_forget : vs_p_forget.all goodWord = true := by decide +kernel
theorem dd_p_forget : yX2_forget.cls = RX2 ∧ yX2_forget.cls ≠ "java/lang/invoke/MethodHandle" ∧ yX2_forget.cls ≠ "java/lang/invoke/VarHandle" ∧ (parseMethodDescriptor yX2_forget.desc).map (fun d => d.parameters.length) = some 0 := by decide +kernel
def rm_p_forget : Room := { frames := 0, cells := 0, slots := 0, locals := 0 }
set_option maxHeartbeats 4000000 in
set_option maxRecDepth 100000 in
theorem p_forget (l : Launch) (dC : Nat → ClassId) (dI : Nat → Nat → Nat) (κ : CE) (a : Nat) (Y : va_W) (sz : Nat) (φ σ : MS) (hk : PInv κ) (hI : CInv σ) (hF : GInv φ)  : Met l yX2_forget vs_p_forget rm_p_forget (va_Pc [.ref a] (wSy dC dI (xW κ (PL κ a φ ++ Y) σ) (tT κ) sz)) (va_Qv (fun (u : MS × MS) => CInv u.2 ∧ GInv u.1 ∧ (u.2 = σ)) (fun (u : MS × MS) => wEn dC dI (va_A (xW κ (PL κ a φ ++ Y) σ) sz) (xW κ (PL κ a u.1 ++ Y) u.2) []) (va_A (xW κ (PL κ a φ ++ Y) σ) sz)) 0 0 (va_A (xW κ (PL κ a φ ++ Y) σ) sz) := by
  refine Met.ofW (cc := cX2_forget) (maxL := 1) (ret := none) (by decide +kernel) rfl ?_
  intro p e s m args below meth c s₁ B hml hv
  obtain ⟨rfl, hsz, hP, hK, hD0, hE⟩ := hv
  have hx := B.exec
  have hb := B.bytes
  have hr := B.returns
  have hts := atoms_spec (ws := vs_p_forget) B.pre
  have hown : s.vm.findClass RX2 = some m.cls := findClass_of_methodNamed B.named
  have hlocks := B.notSynchronized
  subst hsz
  have hD := hD0.self (sz := s.heap.size)
  generalize hAe : va_A (xW κ (PL κ a φ ++ Y) σ) s.heap.size = A at hD ⊢
  have hA : ∀ q : Nat, s.heap.size ≤ q → A q := fun q h => by rw [← hAe]; exact Or.inr h
  have hl := lv_entry ([.ref a]) (n := 1) (Nat.le_of_ble_eq_true rfl)
  rw [lg_entry_eq]
  generalize (lg_sl ([.ref a]) ++ List.replicate (1 - (lg_sl ([.ref a])).length) Slot.unset).toArray = ls at hl ⊢
  have hl : lv_has ls 1 [(0, .ref a)] := hl
  have ho := fun w (h : w ∈ ow_p_forget) => hts w (List.mem_cons_of_mem _ (List.mem_append_left _ h))
  have hin2 : ∀ w ∈ u_ws RX2 TX2 8, w ∈ vs_p_forget := fun w h => (List.mem_cons_of_mem _ (List.mem_append_right _ h))
  refine zQ (fun Q hQ => ?_)
  refine zH (A := A) (ws := (xW κ (PL κ a φ ++ Y) σ)) (fun H hP hS => ?_) hP
  have hk0 := hk.1
  have hk1 := hk.2.1
  have hk2 := hk.2.2.1
  have hKc : va_K (dC, dI) vwCl (cT κ) s := hK.sub [0, 1, 2, 3, 4, 5, 6, 7, 8, 9, 10, 11, 12, 13, 14, 15, 16, 17, 18, 19, 20] rfl
  refine lv_aload_n hx hb dX2_forget_0 rfl (lv_at hl 0 rfl) ?_
  refine lv_iconst (v := (-1)) hx hb dX2_forget_1 rg_53 ?_
  refine va_put (D := (dC, dI)) (ci := 2) (v := .int (-1)) (ty := tyX2 5) (C := RX2) (T := TX2) (N := 8) hx hb hts hin2 tyX2 tyX2_ok nmX2 hown hK hP hD hS 27 rfl rfl 5 (Nat.le_of_ble_eq_true rfl) (ho (.fieldLink RX2 9 "NearEnough$Plan" "itsEnd" "I") (List.mem_of_getElem? (i := 0) rfl)) (fun _ h9 => h9) rfl (tyX2_ok 5 (Nat.le_of_ble_eq_true rfl)) rfl rfl (Nat.le_of_ble_eq_true rfl) dX2_forget_2 (fun H locs hP hD hS => ?_)
  have hP : va_P (dC, dI) vwCl (xW κ (PL κ a (sI φ 1 (-1)) ++ Y) σ) H := hP
  have hD : va_D A (xW κ (PL κ a (sI φ 1 (-1)) ++ Y) σ) := hD
  rw [hQ]
  exact W.vret hx hb hr (fun t ht hW => ⟨⟨((sI φ 1 (-1)), σ), rfl, ⟨hI, trivial, rfl⟩, wEn_of hP (hK.sub [] rfl) hD ht hW⟩, hS.F ht⟩) hS.2.2 dX2_forget_5
def ow_p_fillc : List Cond := []
def vs_p_fillc : List Cond := .code yJ7_fill_53178 cJ7_fill_53178 4 none :: (ow_p_fillc)
theorem vg_p_fillc : vs_p_fillc.all goodWord = true := by decide +kernel
theorem dd_p_fillc : yJ7_fill_53178.cls ≠ "java/lang/invoke/MethodHandle" ∧ yJ7_fill_53178.cls ≠ "java/lang/invoke/VarHandle" ∧ (parseMethodDescriptor yJ7_fill_53178.desc).map (fun d => d.parameters.length) = some 2 := by decide +kernel
def rm_p_fillc : Room := { frames := 0, cells := 0, slots := 0, locals := 0 }
set_option maxHeartbeats 4000000 in
set_option maxRecDepth 100000 in
theorem p_fillc (l : Launch) (dC : Nat → ClassId) (dI : Nat → Nat → Nat) (κ : CE) (a : Nat) (Y : va_W) (sz : Nat) (φ σ : MS) (hk : PInv κ) (hI : CInv σ) (hF : GInv φ)  : Met l yJ7_fill_53178 vs_p_fillc rm_p_fillc (va_Pc [.ref (kA κ 29), .int (-1)] (wSy dC dI (xW κ (PL κ a φ ++ Y) σ) (tT κ) sz)) (va_Qv (fun (u : MS × MS) => CInv u.2 ∧ GInv u.1 ∧ True) (fun (u : MS × MS) => wEn dC dI (va_A (xW κ (PL κ a φ ++ Y) σ) sz) (xW κ (PL κ a u.1 ++ Y) u.2) []) (va_A (xW κ (PL κ a φ ++ Y) σ) sz)) 0 0 (va_A (xW κ (PL κ a φ ++ Y) σ) sz) := by
  refine Met.ofW (cc := cJ7_fill_53178) (maxL := 4) (ret := none) (by decide +kernel) rfl ?_
  intro p e s m args below meth c s₁ B hml hv
  obtain ⟨rfl, hsz, hP, hK, hD0, hE⟩ := hv
  have hx := B.exec
  have hb := B.bytes
  have hr := B.returns
  have hts := atoms_spec (ws := vs_p_fillc) B.pre
  have hown : s.vm.findClass RJ7 = some m.cls := findClass_of_methodNamed B.named
  have hlocks := B.notSynchronized
  subst hsz
  have hD := hD0.self (sz := s.heap.size)
  generalize hAe : va_A (xW κ (PL κ a φ ++ Y) σ) s.heap.size = A at hD ⊢
  have hA : ∀ q : Nat, s.heap.size ≤ q → A q := fun q h => by rw [← hAe]; exact Or.inr h
  have hl := lv_entry ([.ref (kA κ 29), .int (-1)]) (n := 4) (Nat.le_of_ble_eq_true rfl)
  rw [lg_entry_eq]
  generalize (lg_sl ([.ref (kA κ 29), .int (-1)]) ++ List.replicate (4 - (lg_sl ([.ref (kA κ 29), .int (-1)])).length) Slot.unset).toArray = ls at hl ⊢
  have hl : lv_has ls 4 [(0, .ref (kA κ 29)), (1, .int (-1))] := hl
  have ho := fun w (h : w ∈ ow_p_fillc) => hts w (List.mem_cons_of_mem _ h)
  refine zQ (fun Q hQ => ?_)
  refine zH (A := A) (ws := (xW κ (PL κ a φ ++ Y) σ)) (fun H hP hS => ?_) hP
  have hk0 := hk.1
  have hk1 := hk.2.1
  have hk2 := hk.2.2.1
  have hKc : va_K (dC, dI) vwCl (cT κ) s := hK.sub [0, 1, 2, 3, 4, 5, 6, 7, 8, 9, 10, 11, 12, 13, 14, 15, 16, 17, 18, 19, 20] rfl
  refine lv_iconst (v := 0) hx hb dJ7_fill_53178_0 rg_0 ?_
  refine lv_istore_n (lv' := [(2, .int 0), (0, .ref (kA κ 29)), (1, .int (-1))]) hx hb dJ7_fill_53178_1 rfl hl (Nat.le_of_ble_eq_true rfl) rfl (fun ls hl => ?_)
  refine lv_aload_n hx hb dJ7_fill_53178_2 rfl (lv_at hl 1 rfl) ?_
  refine va_alen (v := 16040) hx hb hK hP 28 23 rfl rfl rfl dJ7_fill_53178_3 ?_
  refine lv_istore_n (lv' := [(3, .int 16040), (2, .int 0), (0, .ref (kA κ 29)), (1, .int (-1))]) hx hb dJ7_fill_53178_4 rfl hl (Nat.le_of_ble_eq_true rfl) rfl (fun ls hl => ?_)
  have pt5_ : ∀ (n5_ : Nat) (φ5_ : MS) (σ5_ : MS) (v2_ : Int32) (H : Heap) (locs : List Loc) (ls : Array Slot), (16040 - v2_.toInt).toNat < n5_ → CInv σ5_ → GInv φ5_ → (0 ≤ v2_.toInt) → va_P (dC, dI) vwCl (xW κ (PL κ a φ5_ ++ Y) σ5_) H → va_D A (xW κ (PL κ a φ5_ ++ Y) σ5_) → va_S A s.heap H locs → lv_has ls 4 [(2, .int v2_), (3, .int 16040), (0, .ref (kA κ 29)), (1, .int (-1))] → W p l e (headSpec vs_p_fillc rm_p_fillc).room s m #[Value.ref (kA κ 29), Value.int (-1)] below meth c H locs 0 0 Q (F0 m 5 ls []) := by
    intro n5_
    induction n5_ with
    | zero => intro φ5_ σ5_ v2_ H locs ls hn5_ hIσ5_ hFφ5_ hf5_0_ hP hD hS hl; exact absurd hn5_ (Nat.not_lt_zero _)
    | succ n5_ ih5_ =>
      intro φ5_ σ5_ v2_ H locs ls hn5_ hIσ5_ hFφ5_ hf5_0_ hP hD hS hl
      refine lv_iload_n hx hb dJ7_fill_53178_5 rfl (lv_at hl 0 rfl) ?_
      refine lv_iload_n hx hb dJ7_fill_53178_6 rfl (lv_at hl 1 rfl) ?_
      refine lv_icmp_ge (tgt := 20) hx hb dJ7_fill_53178_7 rfl (fun c1_ => ?_) (fun c1_ => ?_)
      · have tc1_ := (show 16040 ≤ v2_.toInt from ti_le rx_997173c2d3 rfl c1_)
        rw [hQ]
        exact W.vret hx hb hr (fun t ht hW => ⟨⟨(φ5_, σ5_), rfl, ⟨hIσ5_, trivial, trivial⟩, wEn_of hP (hK.sub [] rfl) hD ht hW⟩, hS.F ht⟩) hS.2.2 dJ7_fill_53178_20
      · have tc1_ := (show v2_.toInt < 16040 from ti_nle rx_997173c2d3 rfl c1_)
        refine lv_aload_n hx hb dJ7_fill_53178_10 rfl (lv_at hl 2 rfl) ?_
        refine lv_iload_n hx hb dJ7_fill_53178_11 rfl (lv_at hl 0 rfl) ?_
        refine lv_iload_n hx hb dJ7_fill_53178_12 rfl (lv_at hl 3 rfl) ?_
        have o1 : 0 ≤ v2_.toInt := by omega
        have o2 : v2_.toInt < ((16040 : Nat) : Int) := by omega
        refine va_iast hx hb hK hP hD hS 28 23 rfl rfl (ti_inx o1 o2) dJ7_fill_53178_13 (fun H locs hP hD hS => ?_)
        obtain ⟨f2_, ef2_⟩ : ∃ f9 : Nat → Int32, f9 = upd (φ5_.2.1 3) (Int32.toNatClampNeg v2_) (-1) := ⟨_, rfl⟩
        have hP : va_P (dC, dI) vwCl (xW κ (PL κ a (sA φ5_ 3 f2_) ++ Y) σ5_) H := by rw [ef2_]; exact hP
        have hD : va_D A (xW κ (PL κ a (sA φ5_ 3 f2_) ++ Y) σ5_) := by rw [ef2_]; exact hD
        obtain ⟨z3_, ez3_⟩ : ∃ y : Int32, y = v2_ + 1 := ⟨_, rfl⟩
        have o3 : -2147483648 ≤ v2_.toInt + 1 := by omega
        have o4 : v2_.toInt + 1 ≤ 2147483647 := by omega
        have tz3_ := ti_add ez3_ rfl rg_18 o3 o4
        refine lv_iinc (v := z3_) (lv' := [(2, .int z3_), (3, .int 16040), (0, .ref (kA κ 29)), (1, .int (-1))]) hx hb dJ7_fill_53178_14 hl (k := 0) rfl (iincp ez3_ rg_6) (Nat.le_of_ble_eq_true rfl) rfl (fun ls hl => ?_)
        refine lv_goto (tgt := 5) hx hb dJ7_fill_53178_17 rfl ?_
        have o5 : (16040 - z3_.toInt).toNat < n5_ := by omega
        have o6 : 0 ≤ z3_.toInt := by omega
        exact ih5_ (sA φ5_ 3 f2_) σ5_ z3_ _ _ _ o5 hIσ5_ trivial o6 hP hD hS (lv_sub hl [0, 1, 2, 3] rfl)
  have kk4_ : (0 : Int32).toInt = 0 := rg_11
  have o7 : 0 ≤ (0 : Int32).toInt := by omega
  exact pt5_ _ φ σ 0 _ _ _ (Nat.lt_succ_self _) hI trivial o7 hP hD hS (lv_sub hl [1, 0, 2, 3] rfl)
def ow_p_fills : List Cond := []
def vs_p_fills : List Cond := .code yJ7_fill_53178 cJ7_fill_53178 4 none :: (ow_p_fills)
theorem vg_p_fills : vs_p_fills.all goodWord = true := by decide +kernel
theorem dd_p_fills : yJ7_fill_53178.cls ≠ "java/lang/invoke/MethodHandle" ∧ yJ7_fill_53178.cls ≠ "java/lang/invoke/VarHandle" ∧ (parseMethodDescriptor yJ7_fill_53178.desc).map (fun d => d.parameters.length) = some 2 := by decide +kernel
def rm_p_fills : Room := { frames := 0, cells := 0, slots := 0, locals := 0 }
set_option maxHeartbeats 4000000 in
set_option maxRecDepth 100000 in
theorem p_fills (l : Launch) (dC : Nat → ClassId) (dI : Nat → Nat → Nat) (κ : CE) (a : Nat) (Y : va_W) (sz : Nat) (φ σ : MS) (hk : PInv κ) (hI : CInv σ) (hF : GInv φ)  : Met l yJ7_fill_53178 vs_p_fills rm_p_fills (va_Pc [.ref (kA κ 30), .int 0] (wSy dC dI (xW κ (PL κ a φ ++ Y) σ) (tT κ) sz)) (va_Qv (fun (u : MS × MS) => CInv u.2 ∧ GInv u.1 ∧ True) (fun (u : MS × MS) => wEn dC dI (va_A (xW κ (PL κ a φ ++ Y) σ) sz) (xW κ (PL κ a u.1 ++ Y) u.2) []) (va_A (xW κ (PL κ a φ ++ Y) σ) sz)) 0 0 (va_A (xW κ (PL κ a φ ++ Y) σ) sz) := by
  refine Met.ofW (cc := cJ7_fill_53178) (maxL := 4) (ret := none) (by decide +kernel) rfl ?_
  intro p e s m args below meth c s₁ B hml hv
  obtain ⟨rfl, hsz, hP, hK, hD0, hE⟩ := hv
  have hx := B.exec
  have hb := B.bytes
  have hr := B.returns
  have hts := atoms_spec (ws := vs_p_fills) B.pre
  have hown : s.vm.findClass RJ7 = some m.cls := findClass_of_methodNamed B.named
  have hlocks := B.notSynchronized
  subst hsz
  have hD := hD0.self (sz := s.heap.size)
  generalize hAe : va_A (xW κ (PL κ a φ ++ Y) σ) s.heap.size = A at hD ⊢
  have hA : ∀ q : Nat, s.heap.size ≤ q → A q := fun q h => by rw [← hAe]; exact Or.inr h
  have hl := lv_entry ([.ref (kA κ 30), .int 0]) (n := 4) (Nat.le_of_ble_eq_true rfl)
  rw [lg_entry_eq]
  generalize (lg_sl ([.ref (kA κ 30), .int 0]) ++ List.replicate (4 - (lg_sl ([.ref (kA κ 30), .int 0])).length) Slot.unset).toArray = ls at hl ⊢
  have hl : lv_has ls 4 [(0, .ref (kA κ 30)), (1, .int 0)] := hl
  have ho := fun w (h : w ∈ ow_p_fills) => hts w (List.mem_cons_of_mem _ h)
  refine zQ (fun Q hQ => ?_)
  refine zH (A := A) (ws := (xW κ (PL κ a φ ++ Y) σ)) (fun H hP hS => ?_) hP
  have hk0 := hk.1
  have hk1 := hk.2.1
  have hk2 := hk.2.2.1
  have hKc : va_K (dC, dI) vwCl (cT κ) s := hK.sub [0, 1, 2, 3, 4, 5, 6, 7, 8, 9, 10, 11, 12, 13, 14, 15, 16, 17, 18, 19, 20] rfl
  refine lv_iconst (v := 0) hx hb dJ7_fill_53178_0 rg_0 ?_
  refine lv_istore_n (lv' := [(2, .int 0), (0, .ref (kA κ 30)), (1, .int 0)]) hx hb dJ7_fill_53178_1 rfl hl (Nat.le_of_ble_eq_true rfl) rfl (fun ls hl => ?_)
  refine lv_aload_n hx hb dJ7_fill_53178_2 rfl (lv_at hl 1 rfl) ?_
  refine va_alen (v := 16441) hx hb hK hP 29 24 rfl rfl rfl dJ7_fill_53178_3 ?_
  refine lv_istore_n (lv' := [(3, .int 16441), (2, .int 0), (0, .ref (kA κ 30)), (1, .int 0)]) hx hb dJ7_fill_53178_4 rfl hl (Nat.le_of_ble_eq_true rfl) rfl (fun ls hl => ?_)
  have pt5_ : ∀ (n5_ : Nat) (φ5_ : MS) (σ5_ : MS) (v2_ : Int32) (H : Heap) (locs : List Loc) (ls : Array Slot), (16441 - v2_.toInt).toNat < n5_ → CInv σ5_ → GInv φ5_ → (0 ≤ v2_.toInt) → va_P (dC, dI) vwCl (xW κ (PL κ a φ5_ ++ Y) σ5_) H → va_D A (xW κ (PL κ a φ5_ ++ Y) σ5_) → va_S A s.heap H locs → lv_has ls 4 [(2, .int v2_), (3, .int 16441), (0, .ref (kA κ 30)), (1, .int 0)] → W p l e (headSpec vs_p_fills rm_p_fills).room s m #[Value.ref (kA κ 30), Value.int 0] below meth c H locs 0 0 Q (F0 m 5 ls []) := by
    intro n5_
    induction n5_ with
    | zero => intro φ5_ σ5_ v2_ H locs ls hn5_ hIσ5_ hFφ5_ hf5_0_ hP hD hS hl; exact absurd hn5_ (Nat.not_lt_zero _)
    | succ n5_ ih5_ =>
      intro φ5_ σ5_ v2_ H locs ls hn5_ hIσ5_ hFφ5_ hf5_0_ hP hD hS hl
      refine lv_iload_n hx hb dJ7_fill_53178_5 rfl (lv_at hl 0 rfl) ?_
      refine lv_iload_n hx hb dJ7_fill_53178_6 rfl (lv_at hl 1 rfl) ?_
      refine lv_icmp_ge (tgt := 20) hx hb dJ7_fill_53178_7 rfl (fun c1_ => ?_) (fun c1_ => ?_)
      · have tc1_ := (show 16441 ≤ v2_.toInt from ti_le rx_c3b011b86a rfl c1_)
        rw [hQ]
        exact W.vret hx hb hr (fun t ht hW => ⟨⟨(φ5_, σ5_), rfl, ⟨hIσ5_, trivial, trivial⟩, wEn_of hP (hK.sub [] rfl) hD ht hW⟩, hS.F ht⟩) hS.2.2 dJ7_fill_53178_20
      · have tc1_ := (show v2_.toInt < 16441 from ti_nle rx_c3b011b86a rfl c1_)
        refine lv_aload_n hx hb dJ7_fill_53178_10 rfl (lv_at hl 2 rfl) ?_
        refine lv_iload_n hx hb dJ7_fill_53178_11 rfl (lv_at hl 0 rfl) ?_
        refine lv_iload_n hx hb dJ7_fill_53178_12 rfl (lv_at hl 3 rfl) ?_
        have o1 : 0 ≤ v2_.toInt := by omega
        have o2 : v2_.toInt < ((16441 : Nat) : Int) := by omega
        refine va_iast hx hb hK hP hD hS 29 24 rfl rfl (ti_inx o1 o2) dJ7_fill_53178_13 (fun H locs hP hD hS => ?_)
        obtain ⟨f2_, ef2_⟩ : ∃ f9 : Nat → Int32, f9 = upd (φ5_.2.1 4) (Int32.toNatClampNeg v2_) 0 := ⟨_, rfl⟩
        have hP : va_P (dC, dI) vwCl (xW κ (PL κ a (sA φ5_ 4 f2_) ++ Y) σ5_) H := by rw [ef2_]; exact hP
        have hD : va_D A (xW κ (PL κ a (sA φ5_ 4 f2_) ++ Y) σ5_) := by rw [ef2_]; exact hD
        obtain ⟨z3_, ez3_⟩ : ∃ y : Int32, y = v2_ + 1 := ⟨_, rfl⟩
        have o3 : -2147483648 ≤ v2_.toInt + 1 := by omega
        have o4 : v2_.toInt + 1 ≤ 2147483647 := by omega
        have tz3_ := ti_add ez3_ rfl rg_18 o3 o4
        refine lv_iinc (v := z3_) (lv' := [(2, .int z3_), (3, .int 16441), (0, .ref (kA κ 30)), (1, .int 0)]) hx hb dJ7_fill_53178_14 hl (k := 0) rfl (iincp ez3_ rg_6) (Nat.le_of_ble_eq_true rfl) rfl (fun ls hl => ?_)
        refine lv_goto (tgt := 5) hx hb dJ7_fill_53178_17 rfl ?_
        have o5 : (16441 - z3_.toInt).toNat < n5_ := by omega
        have o6 : 0 ≤ z3_.toInt := by omega
        exact ih5_ (sA φ5_ 4 f2_) σ5_ z3_ _ _ _ o5 hIσ5_ trivial o6 hP hD hS (lv_sub hl [0, 1, 2, 3] rfl)
  have kk4_ : (0 : Int32).toInt = 0 := rg_11
  have o7 : 0 ≤ (0 : Int32).toInt := by omega
  exact pt5_ _ φ σ 0 _ _ _ (Nat.lt_succ_self _) hI trivial o7 hP hD hS (lv_sub hl [1, 0, 2, 3] rfl)
def ow_p_bring : List Cond := [.fieldLink RX2 30 "NearEnough$Plan" "changes" "LNearEnough$Changes;", .fieldLink RX2 74 "NearEnough$Changes" "bits" "I", .fieldLink RX2 26 "NearEnough$Plan" "sheets" "LNearEnough$Sheets;", .fieldLink RX2 66 "NearEnough$Sheets" "count" "I", .fieldLink RX2 38 "NearEnough$Plan" "worker" "LNearEnough$Worker;", .fieldLink RX2 34 "NearEnough$Plan" "shown" "LNearEnough$Shown;", .fieldLink RX2 83 "NearEnough$Shown" "stale" "I", .methodLink RX2 96 Lib.MathLoose.abs_long.x, .static Lib.MathLoose.abs_long.x, .initialized "java/lang/Math", .code Lib.MathLoose.abs_long.x Lib.MathLoose.abs_long.code 2 (some .long), .constantLong RX2 102 (401), .fieldLink RX2 15 "NearEnough$Plan" "choices" "[I", .methodLink RX2 104 Lib.Math.max.name, .static Lib.Math.max.name, .code Lib.Math.max.name Lib.Math.max.code 2 (some .int)]
def vs_p_bring : List Cond := .code yX2_bringChoice cX2_bringChoice 7 none :: (ow_p_bring ++ (([.methodLink RX2 79 yX0_savedBy, .instanceMethod yX0_savedBy, .selects RX0 yX0_savedBy yX0_savedBy, .initialized RX0] : List Cond) ++ (vs_k_savedBy ++ (([.methodLink RX2 86 yX10_workChanged, .instanceMethod yX10_workChanged, .selects RX10 yX10_workChanged yX10_workChanged, .initialized RX10] : List Cond) ++ (vs_k_workChanged ++ (([.methodLink RX2 92 yX10_errorAt, .instanceMethod yX10_errorAt, .selects RX10 yX10_errorAt yX10_errorAt, .initialized RX10] : List Cond) ++ (vs_k_errorAt ++ (wsX00 ++ (wsX20 ++ (wsX70 ++ (wsX80)))))))))))
theorem vg_p_bring : vs_p_bring.all goodWord = true := by decide +kernel
theorem dd_p_bring : yX2_bringChoice.cls = RX2 ∧ yX2_bringChoice.cls ≠ "java/lang/invoke/MethodHandle" ∧ yX2_bringChoice.cls ≠ "java/lang/invoke/VarHandle" ∧ (parseMethodDescriptor yX2_bringChoice.desc).map (fun d => d.parameters.length) = some 1 := by decide +kernel
def rm_p_bring : Room := { frames := 5, cells := 0, slots := 0, locals := 137 }
theorem gd_p_bring_79_k_savedBy : GoodIn vs_p_bring (wsV RX2 79 RX0 yX0_savedBy vs_k_savedBy) := goodIn_app (goodIn_sub (fun w h => (List.mem_cons_of_mem _ (List.mem_append_right _ (List.mem_append_left _ h)))) (by decide +kernel)) (goodIn_sub (fun w h => (List.mem_cons_of_mem _ (List.mem_append_right _ (List.mem_append_right _ (List.mem_append_left _ h))))) vg_k_savedBy)
theorem gd_p_bring_86_k_workChanged : GoodIn vs_p_bring (wsV RX2 86 RX10 yX10_workChanged vs_k_workChanged) := goodIn_app (goodIn_sub (fun w h => (List.mem_cons_of_mem _ (List.mem_append_right _ (List.mem_append_right _ (List.mem_append_right _ (List.mem_append_left _ h)))))) (by decide +kernel)) (goodIn_sub (fun w h => (List.mem_cons_of_mem _ (List.mem_append_right _ (List.mem_append_right _ (List.mem_append_right _ (List.mem_append_right _ (List.mem_append_left _ h))))))) vg_k_workChanged)
theorem gd_p_bring_92_k_errorAt : GoodIn vs_p_bring (wsV RX2 92 RX10 yX10_errorAt vs_k_errorAt) := goodIn_app (goodIn_sub (fun w h => (List.mem_cons_of_mem _ (List.mem_append_right _ (List.mem_append_right _ (List.mem_append_right _ (List.mem_append_right _ (List.mem_append_right _ (List.mem_append_left _ h)))))))) (by decide +kernel)) (goodIn_sub (fun w h => (List.mem_cons_of_mem _ (List.mem_append_right _ (List.mem_append_right _ (List.mem_append_right _ (List.mem_append_right _ (List.mem_append_right _ (List.mem_append_right _ (List.mem_append_left _ h))))))))) vg_k_errorAt)
set_option maxHeartbeats 4000000 in
set_option maxRecDepth 100000 in
theorem p_bring (l : Launch) (dC : Nat → ClassId) (dI : Nat → Nat → Nat) (κ : CE) (a : Nat) (Y : va_W) (sz : Nat) (φ σ : MS) (x : Int32) (hk : PInv κ) (hI : CInv σ) (hF : GInv φ) (hx0 : 0 ≤ x.toInt ∧ x.toInt < (pI κ 1).toInt) : Met l yX2_bringChoice vs_p_bring rm_p_bring (va_Pc [.ref a, .int x] (wSy dC dI (xW κ (PL κ a φ ++ Y) σ) (tT κ) sz)) (va_Qv (fun (u : MS × MS) => CInv u.2 ∧ GInv u.1 ∧ True) (fun (u : MS × MS) => wEn dC dI (va_A (xW κ (PL κ a φ ++ Y) σ) sz) (xW κ (PL κ a u.1 ++ Y) u.2) []) (va_A (xW κ (PL κ a φ ++ Y) σ) sz)) 0 0 (va_A (xW κ (PL κ a φ ++ Y) σ) sz) := by
  refine Met.ofW (cc := cX2_bringChoice) (maxL := 7) (ret := none) (by decide +kernel) rfl ?_
  intro p e s m args below meth c s₁ B hml hv
  obtain ⟨rfl, hsz, hP, hK, hD0, hE⟩ := hv
  have hx := B.exec
  have hb := B.bytes
  have hr := B.returns
  have hts := atoms_spec (ws := vs_p_bring) B.pre
  have hown : s.vm.findClass RX2 = some m.cls := findClass_of_methodNamed B.named
  have hlocks := B.notSynchronized
  subst hsz
  have hD := hD0.self (sz := s.heap.size)
  generalize hAe : va_A (xW κ (PL κ a φ ++ Y) σ) s.heap.size = A at hD ⊢
  have hA : ∀ q : Nat, s.heap.size ≤ q → A q := fun q h => by rw [← hAe]; exact Or.inr h
  have hl := lv_entry ([.ref a, .int x]) (n := 7) (Nat.le_of_ble_eq_true rfl)
  rw [lg_entry_eq]
  generalize (lg_sl ([.ref a, .int x]) ++ List.replicate (7 - (lg_sl ([.ref a, .int x])).length) Slot.unset).toArray = ls at hl ⊢
  have hl : lv_has ls 7 [(0, .ref a), (1, .int x)] := hl
  have ho := fun w (h : w ∈ ow_p_bring) => hts w (List.mem_cons_of_mem _ (List.mem_append_left _ h))
  have hin0 : ∀ w ∈ u_ws RX0 TX0 7, w ∈ vs_p_bring := fun w h => (List.mem_cons_of_mem _ (List.mem_append_right _ (List.mem_append_right _ (List.mem_append_right _ (List.mem_append_right _ (List.mem_append_right _ (List.mem_append_right _ (List.mem_append_right _ (List.mem_append_left _ h)))))))))
  have hin2 : ∀ w ∈ u_ws RX2 TX2 8, w ∈ vs_p_bring := fun w h => (List.mem_cons_of_mem _ (List.mem_append_right _ (List.mem_append_right _ (List.mem_append_right _ (List.mem_append_right _ (List.mem_append_right _ (List.mem_append_right _ (List.mem_append_right _ (List.mem_append_right _ (List.mem_append_left _ h))))))))))
  have hin7 : ∀ w ∈ u_ws RX7 TX7 3, w ∈ vs_p_bring := fun w h => (List.mem_cons_of_mem _ (List.mem_append_right _ (List.mem_append_right _ (List.mem_append_right _ (List.mem_append_right _ (List.mem_append_right _ (List.mem_append_right _ (List.mem_append_right _ (List.mem_append_right _ (List.mem_append_right _ (List.mem_append_left _ h)))))))))))
  have hin8 : ∀ w ∈ u_ws RX8 TX8 9, w ∈ vs_p_bring := fun w h => (List.mem_cons_of_mem _ (List.mem_append_right _ (List.mem_append_right _ (List.mem_append_right _ (List.mem_append_right _ (List.mem_append_right _ (List.mem_append_right _ (List.mem_append_right _ (List.mem_append_right _ (List.mem_append_right _ (List.mem_append_right _ h)))))))))))
  refine zQ (fun Q hQ => ?_)
  refine zH (A := A) (ws := (xW κ (PL κ a φ ++ Y) σ)) (fun H hP hS => ?_) hP
  have hk0 := hk.1
  have hk1 := hk.2.1
  have hk2 := hk.2.2.1
  have hKc : va_K (dC, dI) vwCl (cT κ) s := hK.sub [0, 1, 2, 3, 4, 5, 6, 7, 8, 9, 10, 11, 12, 13, 14, 15, 16, 17, 18, 19, 20] rfl
  have bσ_12 : 0 ≤ (σ.1 12).toInt ∧ (σ.1 12).toInt ≤ 40 := hI.1 12
  refine lv_aload_n hx hb dX2_bringChoice_0 rfl (lv_at hl 0 rfl) ?_
  refine va_get (D := (dC, dI)) (ci := 2) (v := .ref (kA κ 15)) (C := RX2) (T := TX2) (N := 8) hx hb hts hin2 hown hK hP 27 rfl rfl 2 (Nat.le_of_ble_eq_true rfl) (ho (.fieldLink RX2 30 "NearEnough$Plan" "changes" "LNearEnough$Changes;") (List.mem_of_getElem? (i := 0) rfl)) (fun _ h9 => h9) rfl dX2_bringChoice_1 ?_
  refine lv_aload_n hx hb dX2_bringChoice_4 rfl (lv_at hl 0 rfl) ?_
  refine va_get (D := (dC, dI)) (ci := 2) (v := .ref (kA κ 15)) (C := RX2) (T := TX2) (N := 8) hx hb hts hin2 hown hK hP 27 rfl rfl 2 (Nat.le_of_ble_eq_true rfl) (ho (.fieldLink RX2 30 "NearEnough$Plan" "changes" "LNearEnough$Changes;") (List.mem_of_getElem? (i := 0) rfl)) (fun _ h9 => h9) rfl dX2_bringChoice_5 ?_
  refine va_get (D := (dC, dI)) (ci := 0) (v := .int (σ.1 19)) (C := RX0) (T := TX0) (N := 7) hx hb hts hin0 hown hK hP 15 rfl rfl 6 (Nat.le_of_ble_eq_true rfl) (ho (.fieldLink RX2 74 "NearEnough$Changes" "bits" "I") (List.mem_of_getElem? (i := 1) rfl)) (fun _ h9 => h9) rfl dX2_bringChoice_8 ?_
  refine zy_i (va_runV (As := [.int (σ.1 19)]) (rest := []) ⟨hx, hb, hml, hown, hts⟩ (k_savedBy l dC dI (ky κ (PL κ a φ ++ Y)) H.size σ (σ.1 19) hk hI ) (cwV 1 hts gd_p_bring_79_k_savedBy rfl rfl rfl dd_k_savedBy ⟨Nat.le_of_ble_eq_true rfl, Nat.le_of_ble_eq_true rfl⟩) (preVy (xcP hP) hKc (xcD hD) hE (ci := 0) (q0 := 15) rfl rfl) rfl rfl hl.1 rfl (lv_room (Nat.le_of_ble_eq_true rfl)) dX2_bringChoice_11 ⟨Nat.le_of_ble_eq_true rfl, Nat.le_of_ble_eq_true rfl⟩) (xcD hD) hS hA (fun z1_ τ2_ H locs hq hP hD hS => ?_)
  obtain ⟨hτ2_, q3_⟩ := hq
  rw [hτ2_] at hP hD
  have hP : va_P (dC, dI) vwCl (xW κ (PL κ a φ ++ Y) σ) H := cxP hP
  have hD : va_D A (xW κ (PL κ a φ ++ Y) σ) := cxD hD
  refine W.widen (k := 0) (n := 0) (Nat.le_of_ble_eq_true rfl) (Nat.le_of_ble_eq_true rfl) ?_
  refine lv_bipush (v := 12) hx hb dX2_bringChoice_14 rg_57 ?_
  refine lv_ishl hx hb dX2_bringChoice_16 ?_
  refine lv_topi (fun z4_ ez4_ => ?_)
  refine lv_sipush (v := 4095) hx hb dX2_bringChoice_17 rx_4723659b9f ?_
  refine lv_aload_n hx hb dX2_bringChoice_20 rfl (lv_at hl 0 rfl) ?_
  refine va_get (D := (dC, dI)) (ci := 2) (v := .ref (kA κ 15)) (C := RX2) (T := TX2) (N := 8) hx hb hts hin2 hown hK hP 27 rfl rfl 2 (Nat.le_of_ble_eq_true rfl) (ho (.fieldLink RX2 30 "NearEnough$Plan" "changes" "LNearEnough$Changes;") (List.mem_of_getElem? (i := 0) rfl)) (fun _ h9 => h9) rfl dX2_bringChoice_21 ?_
  refine va_get (D := (dC, dI)) (ci := 0) (v := .int (σ.1 19)) (C := RX0) (T := TX0) (N := 7) hx hb hts hin0 hown hK hP 15 rfl rfl 6 (Nat.le_of_ble_eq_true rfl) (ho (.fieldLink RX2 74 "NearEnough$Changes" "bits" "I") (List.mem_of_getElem? (i := 1) rfl)) (fun _ h9 => h9) rfl dX2_bringChoice_24 ?_
  refine lv_isub hx hb dX2_bringChoice_27 ?_
  refine lv_topi (fun z5_ ez5_ => ?_)
  refine lv_ior hx hb dX2_bringChoice_28 ?_
  refine lv_topi (fun z6_ ez6_ => ?_)
  refine lv_istore_n (lv' := [(2, .int z6_), (0, .ref a), (1, .int x)]) hx hb dX2_bringChoice_29 rfl hl (Nat.le_of_ble_eq_true rfl) rfl (fun ls hl => ?_)
  refine lv_iconst (v := 0) hx hb dX2_bringChoice_30 rg_0 ?_
  refine lv_istore_n (lv' := [(3, .int 0), (2, .int z6_), (0, .ref a), (1, .int x)]) hx hb dX2_bringChoice_31 rfl hl (Nat.le_of_ble_eq_true rfl) rfl (fun ls hl => ?_)
  have pt32_ : ∀ (n32_ : Nat) (φ32_ : MS) (σ32_ : MS) (v3_ : Int32) (H : Heap) (locs : List Loc) (ls : Array Slot), (40 - v3_.toInt).toNat < n32_ → CInv σ32_ → GInv φ32_ → (0 ≤ v3_.toInt) → va_P (dC, dI) vwCl (xW κ (PL κ a φ32_ ++ Y) σ32_) H → va_D A (xW κ (PL κ a φ32_ ++ Y) σ32_) → va_S A s.heap H locs → lv_has ls 7 [(3, .int v3_), (2, .int z6_), (0, .ref a), (1, .int x)] → W p l e (headSpec vs_p_bring rm_p_bring).room s m #[Value.ref a, Value.int x] below meth c H locs 0 0 Q (F0 m 32 ls []) := by
    intro n32_
    induction n32_ with
    | zero => intro φ32_ σ32_ v3_ H locs ls hn32_ hIσ32_ hFφ32_ hf32_0_ hP hD hS hl; exact absurd hn32_ (Nat.not_lt_zero _)
    | succ n32_ ih32_ =>
      intro φ32_ σ32_ v3_ H locs ls hn32_ hIσ32_ hFφ32_ hf32_0_ hP hD hS hl
      have bσ32__12 : 0 ≤ (σ32_.1 12).toInt ∧ (σ32_.1 12).toInt ≤ 40 := hIσ32_.1 12
      refine lv_iload_n hx hb dX2_bringChoice_32 rfl (lv_at hl 0 rfl) ?_
      refine lv_aload_n hx hb dX2_bringChoice_33 rfl (lv_at hl 2 rfl) ?_
      refine va_get (D := (dC, dI)) (ci := 2) (v := .ref (kA κ 12)) (C := RX2) (T := TX2) (N := 8) hx hb hts hin2 hown hK hP 27 rfl rfl 1 (Nat.le_of_ble_eq_true rfl) (ho (.fieldLink RX2 26 "NearEnough$Plan" "sheets" "LNearEnough$Sheets;") (List.mem_of_getElem? (i := 2) rfl)) (fun _ h9 => h9) rfl dX2_bringChoice_34 ?_
      have bσ32__12 : 0 ≤ (σ32_.1 12).toInt ∧ (σ32_.1 12).toInt ≤ 40 := hIσ32_.1 12
      refine va_get (D := (dC, dI)) (ci := 7) (v := .int (σ32_.1 12)) (C := RX7) (T := TX7) (N := 3) hx hb hts hin7 hown hK hP 12 rfl rfl 2 (Nat.le_of_ble_eq_true rfl) (ho (.fieldLink RX2 66 "NearEnough$Sheets" "count" "I") (List.mem_of_getElem? (i := 3) rfl)) (fun _ h9 => h9) rfl dX2_bringChoice_37 ?_
      refine lv_icmp_ge (tgt := 117) hx hb dX2_bringChoice_40 rfl (fun c7_ => ?_) (fun c7_ => ?_)
      · have tc7_ := (show (σ32_.1 12).toInt ≤ v3_.toInt from ti_le rfl rfl c7_)
        rw [hQ]
        exact W.vret hx hb hr (fun t ht hW => ⟨⟨(φ32_, σ32_), rfl, ⟨hIσ32_, trivial, trivial⟩, wEn_of hP (hK.sub [] rfl) hD ht hW⟩, hS.F ht⟩) hS.2.2 dX2_bringChoice_117
      · have tc7_ := (show v3_.toInt < (σ32_.1 12).toInt from ti_nle rfl rfl c7_)
        refine lv_aload_n hx hb dX2_bringChoice_43 rfl (lv_at hl 2 rfl) ?_
        refine va_get (D := (dC, dI)) (ci := 2) (v := .ref (kA κ 24)) (C := RX2) (T := TX2) (N := 8) hx hb hts hin2 hown hK hP 27 rfl rfl 4 (Nat.le_of_ble_eq_true rfl) (ho (.fieldLink RX2 38 "NearEnough$Plan" "worker" "LNearEnough$Worker;") (List.mem_of_getElem? (i := 4) rfl)) (fun _ h9 => h9) rfl dX2_bringChoice_44 ?_
        refine lv_iload_n hx hb dX2_bringChoice_47 rfl (lv_at hl 0 rfl) ?_
        refine lv_aload_n hx hb dX2_bringChoice_48 rfl (lv_at hl 2 rfl) ?_
        refine va_get (D := (dC, dI)) (ci := 2) (v := .ref (kA κ 21)) (C := RX2) (T := TX2) (N := 8) hx hb hts hin2 hown hK hP 27 rfl rfl 3 (Nat.le_of_ble_eq_true rfl) (ho (.fieldLink RX2 34 "NearEnough$Plan" "shown" "LNearEnough$Shown;") (List.mem_of_getElem? (i := 5) rfl)) (fun _ h9 => h9) rfl dX2_bringChoice_49 ?_
        have bσ32__26 : 0 ≤ (σ32_.1 26).toInt ∧ (σ32_.1 26).toInt ≤ 12 := hIσ32_.1 26
        refine va_get (D := (dC, dI)) (ci := 8) (v := .int (σ32_.1 26)) (C := RX8) (T := TX8) (N := 9) hx hb hts hin8 hown hK hP 21 rfl rfl 8 (Nat.le_of_ble_eq_true rfl) (ho (.fieldLink RX2 83 "NearEnough$Shown" "stale" "I") (List.mem_of_getElem? (i := 6) rfl)) (fun _ h9 => h9) rfl dX2_bringChoice_52 ?_
        refine lv_iload_n hx hb dX2_bringChoice_55 rfl (lv_at hl 3 rfl) ?_
        have o1 : 0 ≤ v3_.toInt := by omega
        have o2 : v3_.toInt ≤ 40 := by omega
        have o3 : 0 ≤ ((σ32_.1 26)).toInt := by omega
        have o4 : ((σ32_.1 26)).toInt ≤ 12 := by omega
        have o5 : -1 ≤ x.toInt := by omega
        have o6 : x.toInt < (pI κ 1).toInt := by omega
        refine zy_v (va_runV (As := [.int v3_, .int (σ32_.1 26), .int x]) (rest := []) ⟨hx, hb, hml, hown, hts⟩ (k_workChanged l dC dI (ky κ (PL κ a φ32_ ++ Y)) H.size σ32_ v3_ (σ32_.1 26) x hk hIσ32_ ⟨o1, o2⟩ ⟨o3, o4⟩ ⟨o5, o6⟩) (cwV 3 hts gd_p_bring_86_k_workChanged rfl rfl rfl dd_k_workChanged ⟨Nat.le_of_ble_eq_true rfl, Nat.le_of_ble_eq_true rfl⟩) (preVy (xcP hP) hKc (xcD hD) hE (ci := 10) (q0 := 24) rfl rfl) rfl rfl hl.1 rfl (lv_room (Nat.le_of_ble_eq_true rfl)) dX2_bringChoice_56 ⟨Nat.le_of_ble_eq_true rfl, Nat.le_of_ble_eq_true rfl⟩) (xcD hD) hS hA (fun τ9_ H locs hq hP hD hS => ?_)
        obtain ⟨hτ9_, q10_⟩ := hq
        have bτ9__12 : 0 ≤ (τ9_.1 12).toInt ∧ (τ9_.1 12).toInt ≤ 40 := hτ9_.1 12
        have hP : va_P (dC, dI) vwCl (xW κ (PL κ a φ32_ ++ Y) τ9_) H := cxP hP
        have hD : va_D A (xW κ (PL κ a φ32_ ++ Y) τ9_) := cxD hD
        refine W.widen (k := 0) (n := 0) (Nat.le_of_ble_eq_true rfl) (Nat.le_of_ble_eq_true rfl) ?_
        refine lv_aload_n hx hb dX2_bringChoice_59 rfl (lv_at hl 2 rfl) ?_
        refine va_get (D := (dC, dI)) (ci := 2) (v := .ref (kA κ 24)) (C := RX2) (T := TX2) (N := 8) hx hb hts hin2 hown hK hP 27 rfl rfl 4 (Nat.le_of_ble_eq_true rfl) (ho (.fieldLink RX2 38 "NearEnough$Plan" "worker" "LNearEnough$Worker;") (List.mem_of_getElem? (i := 4) rfl)) (fun _ h9 => h9) rfl dX2_bringChoice_60 ?_
        refine lv_iload_n hx hb dX2_bringChoice_63 rfl (lv_at hl 0 rfl) ?_
        refine lv_iload_n hx hb dX2_bringChoice_64 rfl (lv_at hl 3 rfl) ?_
        have o7 : 0 ≤ x.toInt := by omega
        have o8 : x.toInt ≤ 11 := by omega
        refine zy_l (va_runV (As := [.int v3_, .int x]) (rest := []) ⟨hx, hb, hml, hown, hts⟩ (k_errorAt l dC dI (ky κ (PL κ a φ32_ ++ Y)) H.size τ9_ v3_ x hk hτ9_ ⟨o1, o2⟩ ⟨o7, o8⟩) (cwV 2 hts gd_p_bring_92_k_errorAt rfl rfl rfl dd_k_errorAt ⟨Nat.le_of_ble_eq_true rfl, Nat.le_of_ble_eq_true rfl⟩) (preVy (xcP hP) hKc (xcD hD) hE (ci := 10) (q0 := 24) rfl rfl) rfl rfl hl.1 rfl (lv_room (Nat.le_of_ble_eq_true rfl)) dX2_bringChoice_65 ⟨Nat.le_of_ble_eq_true rfl, Nat.le_of_ble_eq_true rfl⟩) (xcD hD) hS hA (fun y11_ τ12_ H locs hq hP hD hS => ?_)
        obtain ⟨hτ12_, q13_⟩ := hq
        rw [hτ12_] at hP hD
        have hP : va_P (dC, dI) vwCl (xW κ (PL κ a φ32_ ++ Y) τ9_) H := cxP hP
        have hD : va_D A (xW κ (PL κ a φ32_ ++ Y) τ9_) := cxD hD
        refine W.widen (k := 0) (n := 0) (Nat.le_of_ble_eq_true rfl) (Nat.le_of_ble_eq_true rfl) ?_
        refine va_mabs_long hx hb (hml.trans hl.1.symm) hown (ho (.methodLink RX2 96 Lib.MathLoose.abs_long.x) (List.mem_of_getElem? (i := 7) rfl)) (ho (.static Lib.MathLoose.abs_long.x) (List.mem_of_getElem? (i := 8) rfl)) (ho (.initialized "java/lang/Math") (List.mem_of_getElem? (i := 9) rfl)) (ho (.code Lib.MathLoose.abs_long.x Lib.MathLoose.abs_long.code 2 (some .long)) (List.mem_of_getElem? (i := 10) rfl)) (Nat.le_of_ble_eq_true rfl) (Nat.le_of_ble_eq_true rfl) (Nat.le_of_ble_eq_true rfl) (Nat.le_of_ble_eq_true rfl) dX2_bringChoice_68 ?_
        refine lv_topl (fun y14_ ey14_ => ?_)
        refine lv_lstore (lv' := [(4, .long y14_), (3, .int v3_), (2, .int z6_), (0, .ref a), (1, .int x)]) hx hb dX2_bringChoice_71 hl (Nat.le_of_ble_eq_true rfl) rfl (fun ls hl => ?_)
        refine lv_lload hx hb dX2_bringChoice_73 (lv_at hl 0 rfl) ?_
        refine lv_ldc2 (v := (401)) hx hb hown (ho (.constantLong RX2 102 (401)) (List.mem_of_getElem? (i := 11) rfl)) dX2_bringChoice_75 ?_
        refine W.lcmp hx hb dX2_bringChoice_78 ?_
        refine lv_topi (fun z15_ ez15_ => ?_)
        refine lv_if_ge (tgt := 111) hx hb dX2_bringChoice_79 rfl (fun c16_ => ?_) (fun c16_ => ?_)
        · have tc16_ := (show 0 ≤ z15_.toInt from ti_le rg_11 rfl c16_)
          have lc16_ : (401 : Int64) ≤ y14_ := (lg_cmp_ge y14_ 401).mp (by rw [← ez15_]; exact c16_)
          obtain ⟨z17_, ez17_⟩ : ∃ y : Int32, y = v3_ + 1 := ⟨_, rfl⟩
          have o9 : -2147483648 ≤ v3_.toInt + 1 := by omega
          have o10 : v3_.toInt + 1 ≤ 2147483647 := by omega
          have tz17_ := ti_add ez17_ rfl rg_18 o9 o10
          refine lv_iinc (v := z17_) (lv' := [(3, .int z17_), (4, .long y14_), (2, .int z6_), (0, .ref a), (1, .int x)]) hx hb dX2_bringChoice_111 hl (k := 1) rfl (iincp ez17_ rg_6) (Nat.le_of_ble_eq_true rfl) rfl (fun ls hl => ?_)
          refine lv_goto (tgt := 32) hx hb dX2_bringChoice_114 rfl ?_
          have o11 : (40 - z17_.toInt).toNat < n32_ := by omega
          have o12 : 0 ≤ z17_.toInt := by omega
          exact ih32_ φ32_ τ9_ z17_ _ _ _ o11 hτ9_ trivial o12 hP hD hS (lv_sub hl [0, 2, 3, 4] rfl)
        · have tc16_ := (show z15_.toInt < 0 from ti_nle rg_11 rfl c16_)
          have lc16_ : ¬ (401 : Int64) ≤ y14_ := fun h => c16_ (by rw [ez15_]; exact (lg_cmp_ge y14_ 401).mpr h)
          refine lv_iload_n hx hb dX2_bringChoice_82 rfl (lv_at hl 1 rfl) ?_
          refine lv_sipush (v := 401) hx hb dX2_bringChoice_83 rx_a0035c103e ?_
          refine lv_imul hx hb dX2_bringChoice_86 ?_
          refine lv_topi (fun z18_ ez18_ => ?_)
          have o13 : -2147483648 ≤ v3_.toInt * 401 := by omega
          have o14 : v3_.toInt * 401 ≤ 2147483647 := by omega
          have tz18_ : z18_.toInt = v3_.toInt * 401 := ti_mul ez18_ rfl rx_50eca79386 o13 o14
          refine lv_lload hx hb dX2_bringChoice_87 (lv_at hl 0 rfl) ?_
          refine lv_l2i hx hb dX2_bringChoice_89 rfl ?_
          refine lv_topi (fun z19_ ez19_ => ?_)
          have tz19_ := l2i_in ez19_ (labs_ok ey14_) lc16_
          refine lv_iadd hx hb dX2_bringChoice_90 ?_
          refine lv_topi (fun z20_ ez20_ => ?_)
          have o15 : -2147483648 ≤ z18_.toInt + z19_.toInt := by omega
          have o16 : z18_.toInt + z19_.toInt ≤ 2147483647 := by omega
          have tz20_ : z20_.toInt = z18_.toInt + z19_.toInt := ti_add ez20_ rfl rfl o15 o16
          refine lv_istore (lv' := [(6, .int z20_), (4, .long y14_), (3, .int v3_), (2, .int z6_), (0, .ref a), (1, .int x)]) hx hb dX2_bringChoice_91 hl (Nat.le_of_ble_eq_true rfl) rfl (fun ls hl => ?_)
          refine lv_aload_n hx hb dX2_bringChoice_93 rfl (lv_at hl 4 rfl) ?_
          refine va_get (D := (dC, dI)) (ci := 2) (v := .ref (kA κ 29)) (C := RX2) (T := TX2) (N := 8) hx hb hts hin2 hown hK hP 27 rfl rfl 6 (Nat.le_of_ble_eq_true rfl) (ho (.fieldLink RX2 15 "NearEnough$Plan" "choices" "[I") (List.mem_of_getElem? (i := 12) rfl)) (fun _ h9 => h9) rfl dX2_bringChoice_94 ?_
          refine lv_iload hx hb dX2_bringChoice_97 (lv_at hl 0 rfl) ?_
          refine lv_aload_n hx hb dX2_bringChoice_99 rfl (lv_at hl 4 rfl) ?_
          refine va_get (D := (dC, dI)) (ci := 2) (v := .ref (kA κ 29)) (C := RX2) (T := TX2) (N := 8) hx hb hts hin2 hown hK hP 27 rfl rfl 6 (Nat.le_of_ble_eq_true rfl) (ho (.fieldLink RX2 15 "NearEnough$Plan" "choices" "[I") (List.mem_of_getElem? (i := 12) rfl)) (fun _ h9 => h9) rfl dX2_bringChoice_100 ?_
          refine lv_iload hx hb dX2_bringChoice_103 (lv_at hl 0 rfl) ?_
          have o17 : 0 ≤ z20_.toInt := by omega
          have o18 : z20_.toInt < ((16040 : Nat) : Int) := by omega
          refine va_iald hx hb hK hP 28 23 rfl rfl (ti_inx o17 o18) dX2_bringChoice_105 ?_
          refine lv_topi (fun z21_ ez21_ => ?_)
          refine lv_iload_n hx hb dX2_bringChoice_106 rfl (lv_at hl 3 rfl) ?_
          refine va_mmax hx hb (hml.trans hl.1.symm) hown (ho (.methodLink RX2 104 Lib.Math.max.name) (List.mem_of_getElem? (i := 13) rfl)) (ho (.static Lib.Math.max.name) (List.mem_of_getElem? (i := 14) rfl)) (ho (.initialized "java/lang/Math") (List.mem_of_getElem? (i := 9) rfl)) (ho (.code Lib.Math.max.name Lib.Math.max.code 2 (some .int)) (List.mem_of_getElem? (i := 15) rfl)) (Nat.le_of_ble_eq_true rfl) (Nat.le_of_ble_eq_true rfl) (Nat.le_of_ble_eq_true rfl) (Nat.le_of_ble_eq_true rfl) dX2_bringChoice_107 ?_
          refine lv_topi (fun z22_ ez22_ => ?_)
          have mz22_ := imax_ok ez22_
          refine va_iast hx hb hK hP hD hS 28 23 rfl rfl (ti_inx o17 o18) dX2_bringChoice_110 (fun H locs hP hD hS => ?_)
          obtain ⟨f23_, ef23_⟩ : ∃ f9 : Nat → Int32, f9 = upd (φ32_.2.1 3) (Int32.toNatClampNeg z20_) z22_ := ⟨_, rfl⟩
          have hP : va_P (dC, dI) vwCl (xW κ (PL κ a (sA φ32_ 3 f23_) ++ Y) τ9_) H := by rw [ef23_]; exact hP
          have hD : va_D A (xW κ (PL κ a (sA φ32_ 3 f23_) ++ Y) τ9_) := by rw [ef23_]; exact hD
          obtain ⟨z24_, ez24_⟩ : ∃ y : Int32, y = v3_ + 1 := ⟨_, rfl⟩
          have o19 : -2147483648 ≤ v3_.toInt + 1 := by omega
          have o20 : v3_.toInt + 1 ≤ 2147483647 := by omega
          have tz24_ := ti_add ez24_ rfl rg_18 o19 o20
          refine lv_iinc (v := z24_) (lv' := [(3, .int z24_), (6, .int z20_), (4, .long y14_), (2, .int z6_), (0, .ref a), (1, .int x)]) hx hb dX2_bringChoice_111 hl (k := 2) rfl (iincp ez24_ rg_6) (Nat.le_of_ble_eq_true rfl) rfl (fun ls hl => ?_)
          refine lv_goto (tgt := 32) hx hb dX2_bringChoice_114 rfl ?_
          have o21 : (40 - z24_.toInt).toNat < n32_ := by omega
          have o22 : 0 ≤ z24_.toInt := by omega
          exact ih32_ (sA φ32_ 3 f23_) τ9_ z24_ _ _ _ o21 hτ9_ trivial o22 hP hD hS (lv_sub hl [0, 3, 4, 5] rfl)
  have kk25_ : (0 : Int32).toInt = 0 := rg_11
  have o23 : 0 ≤ (0 : Int32).toInt := by omega
  exact pt32_ _ φ σ 0 _ _ _ (Nat.lt_succ_self _) hI trivial o23 hP hD hS (lv_sub hl [0, 1, 2, 3] rfl)
def ow_p_addUp : List Cond := [.fieldLink RX2 15 "NearEnough$Plan" "choices" "[I", .fieldLink RX2 19 "NearEnough$Plan" "saves" "[I", .methodLink RX2 104 Lib.Math.max.name, .static Lib.Math.max.name, .initialized "java/lang/Math", .code Lib.Math.max.name Lib.Math.max.code 2 (some .int)]
def vs_p_addUp : List Cond := .code yX2_addUp cX2_addUp 8 none :: (ow_p_addUp ++ (wsX20))
theorem vg_p_addUp : vs_p_addUp.all goodWord = true := by decide +kernel
theorem dd_p_addUp : yX2_addUp.cls = RX2 ∧ yX2_addUp.cls ≠ "java/lang/invoke/MethodHandle" ∧ yX2_addUp.cls ≠ "java/lang/invoke/VarHandle" ∧ (parseMethodDescriptor yX2_addUp.desc).map (fun d => d.parameters.length) = some 1 := by decide +kernel
def rm_p_addUp : Room := { frames := 1, cells := 0, slots := 0, locals := 24 }
set_option maxHeartbeats 4000000 in
set_option maxRecDepth 100000 in
theorem p_addUp (l : Launch) (dC : Nat → ClassId) (dI : Nat → Nat → Nat) (κ : CE) (a : Nat) (Y : va_W) (sz : Nat) (φ σ : MS) (x : Int32) (hk : PInv κ) (hI : CInv σ) (hF : GInv φ) (hx0 : 0 ≤ x.toInt ∧ x.toInt ≤ 39) : Met l yX2_addUp vs_p_addUp rm_p_addUp (va_Pc [.ref a, .int x] (wSy dC dI (xW κ (PL κ a φ ++ Y) σ) (tT κ) sz)) (va_Qv (fun (u : MS × MS) => CInv u.2 ∧ GInv u.1 ∧ True) (fun (u : MS × MS) => wEn dC dI (va_A (xW κ (PL κ a φ ++ Y) σ) sz) (xW κ (PL κ a u.1 ++ Y) u.2) []) (va_A (xW κ (PL κ a φ ++ Y) σ) sz)) 0 0 (va_A (xW κ (PL κ a φ ++ Y) σ) sz) := by
  refine Met.ofW (cc := cX2_addUp) (maxL := 8) (ret := none) (by decide +kernel) rfl ?_
  intro p e s m args below meth c s₁ B hml hv
  obtain ⟨rfl, hsz, hP, hK, hD0, hE⟩ := hv
  have hx := B.exec
  have hb := B.bytes
  have hr := B.returns
  have hts := atoms_spec (ws := vs_p_addUp) B.pre
  have hown : s.vm.findClass RX2 = some m.cls := findClass_of_methodNamed B.named
  have hlocks := B.notSynchronized
  subst hsz
  have hD := hD0.self (sz := s.heap.size)
  generalize hAe : va_A (xW κ (PL κ a φ ++ Y) σ) s.heap.size = A at hD ⊢
  have hA : ∀ q : Nat, s.heap.size ≤ q → A q := fun q h => by rw [← hAe]; exact Or.inr h
  have hl := lv_entry ([.ref a, .int x]) (n := 8) (Nat.le_of_ble_eq_true rfl)
  rw [lg_entry_eq]
  generalize (lg_sl ([.ref a, .int x]) ++ List.replicate (8 - (lg_sl ([.ref a, .int x])).length) Slot.unset).toArray = ls at hl ⊢
  have hl : lv_has ls 8 [(0, .ref a), (1, .int x)] := hl
  have ho := fun w (h : w ∈ ow_p_addUp) => hts w (List.mem_cons_of_mem _ (List.mem_append_left _ h))
  have hin2 : ∀ w ∈ u_ws RX2 TX2 8, w ∈ vs_p_addUp := fun w h => (List.mem_cons_of_mem _ (List.mem_append_right _ h))
  refine zQ (fun Q hQ => ?_)
  refine zH (A := A) (ws := (xW κ (PL κ a φ ++ Y) σ)) (fun H hP hS => ?_) hP
  have hk0 := hk.1
  have hk1 := hk.2.1
  have hk2 := hk.2.2.1
  have hKc : va_K (dC, dI) vwCl (cT κ) s := hK.sub [0, 1, 2, 3, 4, 5, 6, 7, 8, 9, 10, 11, 12, 13, 14, 15, 16, 17, 18, 19, 20] rfl
  refine lv_iload_n hx hb dX2_addUp_0 rfl (lv_at hl 1 rfl) ?_
  refine lv_sipush (v := 401) hx hb dX2_addUp_1 rx_a0035c103e ?_
  refine lv_imul hx hb dX2_addUp_4 ?_
  refine lv_topi (fun z1_ ez1_ => ?_)
  have o1 : -2147483648 ≤ x.toInt * 401 := by omega
  have o2 : x.toInt * 401 ≤ 2147483647 := by omega
  have tz1_ : z1_.toInt = x.toInt * 401 := ti_mul ez1_ rfl rx_50eca79386 o1 o2
  refine lv_istore_n (lv' := [(2, .int z1_), (0, .ref a), (1, .int x)]) hx hb dX2_addUp_5 rfl hl (Nat.le_of_ble_eq_true rfl) rfl (fun ls hl => ?_)
  refine lv_iload_n hx hb dX2_addUp_6 rfl (lv_at hl 0 rfl) ?_
  refine lv_sipush (v := 401) hx hb dX2_addUp_7 rx_a0035c103e ?_
  refine lv_iadd hx hb dX2_addUp_10 ?_
  refine lv_topi (fun z2_ ez2_ => ?_)
  have o3 : -2147483648 ≤ z1_.toInt + 401 := by omega
  have o4 : z1_.toInt + 401 ≤ 2147483647 := by omega
  have tz2_ : z2_.toInt = z1_.toInt + 401 := ti_add ez2_ rfl rx_50eca79386 o3 o4
  refine lv_istore_n (lv' := [(3, .int z2_), (2, .int z1_), (0, .ref a), (1, .int x)]) hx hb dX2_addUp_11 rfl hl (Nat.le_of_ble_eq_true rfl) rfl (fun ls hl => ?_)
  refine lv_iconst (v := (-1)) hx hb dX2_addUp_12 rg_53 ?_
  refine lv_istore (lv' := [(4, .int (-1)), (3, .int z2_), (2, .int z1_), (0, .ref a), (1, .int x)]) hx hb dX2_addUp_13 hl (Nat.le_of_ble_eq_true rfl) rfl (fun ls hl => ?_)
  refine lv_iconst (v := 0) hx hb dX2_addUp_15 rg_0 ?_
  refine lv_istore (lv' := [(5, .int 0), (4, .int (-1)), (3, .int z2_), (2, .int z1_), (0, .ref a), (1, .int x)]) hx hb dX2_addUp_16 hl (Nat.le_of_ble_eq_true rfl) rfl (fun ls hl => ?_)
  have pt18_ : ∀ (n18_ : Nat) (φ18_ : MS) (σ18_ : MS) (v4_ : Int32) (v5_ : Int32) (H : Heap) (locs : List Loc) (ls : Array Slot), (401 - v5_.toInt).toNat < n18_ → CInv σ18_ → GInv φ18_ → (0 ≤ v5_.toInt) → va_P (dC, dI) vwCl (xW κ (PL κ a φ18_ ++ Y) σ18_) H → va_D A (xW κ (PL κ a φ18_ ++ Y) σ18_) → va_S A s.heap H locs → lv_has ls 8 [(4, .int v4_), (5, .int v5_), (3, .int z2_), (2, .int z1_), (0, .ref a)] → W p l e (headSpec vs_p_addUp rm_p_addUp).room s m #[Value.ref a, Value.int x] below meth c H locs 0 0 Q (F0 m 18 ls []) := by
    intro n18_
    induction n18_ with
    | zero => intro φ18_ σ18_ v4_ v5_ H locs ls hn18_ hIσ18_ hFφ18_ hf18_0_ hP hD hS hl; exact absurd hn18_ (Nat.not_lt_zero _)
    | succ n18_ ih18_ =>
      intro φ18_ σ18_ v4_ v5_ H locs ls hn18_ hIσ18_ hFφ18_ hf18_0_ hP hD hS hl
      refine lv_iload hx hb dX2_addUp_18 (lv_at hl 1 rfl) ?_
      refine lv_sipush (v := 401) hx hb dX2_addUp_20 rx_a0035c103e ?_
      refine lv_icmp_ge (tgt := 111) hx hb dX2_addUp_23 rfl (fun c3_ => ?_) (fun c3_ => ?_)
      · have tc3_ := (show 401 ≤ v5_.toInt from ti_le rx_50eca79386 rfl c3_)
        rw [hQ]
        exact W.vret hx hb hr (fun t ht hW => ⟨⟨(φ18_, σ18_), rfl, ⟨hIσ18_, trivial, trivial⟩, wEn_of hP (hK.sub [] rfl) hD ht hW⟩, hS.F ht⟩) hS.2.2 dX2_addUp_111
      · have tc3_ := (show v5_.toInt < 401 from ti_nle rx_50eca79386 rfl c3_)
        refine lv_aload_n hx hb dX2_addUp_26 rfl (lv_at hl 4 rfl) ?_
        refine va_get (D := (dC, dI)) (ci := 2) (v := .ref (kA κ 29)) (C := RX2) (T := TX2) (N := 8) hx hb hts hin2 hown hK hP 27 rfl rfl 6 (Nat.le_of_ble_eq_true rfl) (ho (.fieldLink RX2 15 "NearEnough$Plan" "choices" "[I") (List.mem_of_getElem? (i := 0) rfl)) (fun _ h9 => h9) rfl dX2_addUp_27 ?_
        refine lv_iload_n hx hb dX2_addUp_30 rfl (lv_at hl 3 rfl) ?_
        refine lv_iload hx hb dX2_addUp_31 (lv_at hl 1 rfl) ?_
        refine lv_iadd hx hb dX2_addUp_33 ?_
        refine lv_topi (fun z4_ ez4_ => ?_)
        have o5 : -2147483648 ≤ z1_.toInt + v5_.toInt := by omega
        have o6 : z1_.toInt + v5_.toInt ≤ 2147483647 := by omega
        have tz4_ : z4_.toInt = z1_.toInt + v5_.toInt := ti_add ez4_ rfl rfl o5 o6
        have o7 : 0 ≤ z4_.toInt := by omega
        have o8 : z4_.toInt < ((16040 : Nat) : Int) := by omega
        refine va_iald hx hb hK hP 28 23 rfl rfl (ti_inx o7 o8) dX2_addUp_34 ?_
        refine lv_topi (fun z5_ ez5_ => ?_)
        refine lv_bipush (v := 12) hx hb dX2_addUp_35 rg_57 ?_
        refine lv_ishr hx hb dX2_addUp_37 ?_
        refine lv_topi (fun z6_ ez6_ => ?_)
        refine lv_istore (lv' := [(6, .int z6_), (4, .int v4_), (5, .int v5_), (3, .int z2_), (2, .int z1_), (0, .ref a)]) hx hb dX2_addUp_38 hl (Nat.le_of_ble_eq_true rfl) rfl (fun ls hl => ?_)
        refine lv_iload hx hb dX2_addUp_40 (lv_at hl 0 rfl) ?_
        refine lv_iload hx hb dX2_addUp_42 (lv_at hl 1 rfl) ?_
        refine lv_icmp_le (tgt := 105) hx hb dX2_addUp_44 rfl (fun c7_ => ?_) (fun c7_ => ?_)
        · have tc7_ := (show z6_.toInt ≤ v4_.toInt from ti_le rfl rfl c7_)
          obtain ⟨z8_, ez8_⟩ : ∃ y : Int32, y = v5_ + 1 := ⟨_, rfl⟩
          have o9 : -2147483648 ≤ v5_.toInt + 1 := by omega
          have o10 : v5_.toInt + 1 ≤ 2147483647 := by omega
          have tz8_ := ti_add ez8_ rfl rg_18 o9 o10
          refine lv_iinc (v := z8_) (lv' := [(5, .int z8_), (6, .int z6_), (4, .int v4_), (3, .int z2_), (2, .int z1_), (0, .ref a)]) hx hb dX2_addUp_105 hl (k := 2) rfl (iincp ez8_ rg_6) (Nat.le_of_ble_eq_true rfl) rfl (fun ls hl => ?_)
          refine lv_goto (tgt := 18) hx hb dX2_addUp_108 rfl ?_
          have o11 : (401 - z8_.toInt).toNat < n18_ := by omega
          have o12 : 0 ≤ z8_.toInt := by omega
          exact ih18_ φ18_ σ18_ v4_ z8_ _ _ _ o11 hIσ18_ trivial o12 hP hD hS (lv_sub hl [2, 0, 3, 4, 5] rfl)
        · have tc7_ := (show v4_.toInt < z6_.toInt from ti_nle rfl rfl c7_)
          refine lv_iload hx hb dX2_addUp_47 (lv_at hl 0 rfl) ?_
          refine lv_istore (lv' := [(4, .int z6_), (6, .int z6_), (5, .int v5_), (3, .int z2_), (2, .int z1_), (0, .ref a)]) hx hb dX2_addUp_49 hl (Nat.le_of_ble_eq_true rfl) rfl (fun ls hl => ?_)
          refine lv_iload hx hb dX2_addUp_51 (lv_at hl 2 rfl) ?_
          refine lv_istore (lv' := [(7, .int v5_), (4, .int z6_), (6, .int z6_), (5, .int v5_), (3, .int z2_), (2, .int z1_), (0, .ref a)]) hx hb dX2_addUp_53 hl (Nat.le_of_ble_eq_true rfl) rfl (fun ls hl => ?_)
          have pt55_ : ∀ (n55_ : Nat) (φ55_ : MS) (σ55_ : MS) (v7_ : Int32) (H : Heap) (locs : List Loc) (ls : Array Slot), (401 - v7_.toInt).toNat < n55_ → CInv σ55_ → GInv φ55_ → (v5_.toInt ≤ v7_.toInt) → va_P (dC, dI) vwCl (xW κ (PL κ a φ55_ ++ Y) σ55_) H → va_D A (xW κ (PL κ a φ55_ ++ Y) σ55_) → va_S A s.heap H locs → lv_has ls 8 [(7, .int v7_), (4, .int z6_), (6, .int z6_), (5, .int v5_), (3, .int z2_), (2, .int z1_), (0, .ref a)] → W p l e (headSpec vs_p_addUp rm_p_addUp).room s m #[Value.ref a, Value.int x] below meth c H locs 0 0 Q (F0 m 55 ls []) := by
            intro n55_
            induction n55_ with
            | zero => intro φ55_ σ55_ v7_ H locs ls hn55_ hIσ55_ hFφ55_ hf55_0_ hP hD hS hl; exact absurd hn55_ (Nat.not_lt_zero _)
            | succ n55_ ih55_ =>
              intro φ55_ σ55_ v7_ H locs ls hn55_ hIσ55_ hFφ55_ hf55_0_ hP hD hS hl
              refine lv_iload hx hb dX2_addUp_55 (lv_at hl 0 rfl) ?_
              refine lv_sipush (v := 401) hx hb dX2_addUp_57 rx_a0035c103e ?_
              refine lv_icmp_ge (tgt := 105) hx hb dX2_addUp_60 rfl (fun c9_ => ?_) (fun c9_ => ?_)
              · have tc9_ := (show 401 ≤ v7_.toInt from ti_le rx_50eca79386 rfl c9_)
                obtain ⟨z10_, ez10_⟩ : ∃ y : Int32, y = v5_ + 1 := ⟨_, rfl⟩
                have o13 : -2147483648 ≤ v5_.toInt + 1 := by omega
                have o14 : v5_.toInt + 1 ≤ 2147483647 := by omega
                have tz10_ := ti_add ez10_ rfl rg_18 o13 o14
                refine lv_iinc (v := z10_) (lv' := [(5, .int z10_), (7, .int v7_), (4, .int z6_), (6, .int z6_), (3, .int z2_), (2, .int z1_), (0, .ref a)]) hx hb dX2_addUp_105 hl (k := 3) rfl (iincp ez10_ rg_6) (Nat.le_of_ble_eq_true rfl) rfl (fun ls hl => ?_)
                refine lv_goto (tgt := 18) hx hb dX2_addUp_108 rfl ?_
                have o15 : (401 - z10_.toInt).toNat < n18_ := by omega
                have o16 : 0 ≤ z10_.toInt := by omega
                exact ih18_ φ55_ σ55_ z6_ z10_ _ _ _ o15 hIσ55_ trivial o16 hP hD hS (lv_sub hl [2, 0, 4, 5, 6] rfl)
              · have tc9_ := (show v7_.toInt < 401 from ti_nle rx_50eca79386 rfl c9_)
                refine lv_aload_n hx hb dX2_addUp_63 rfl (lv_at hl 6 rfl) ?_
                refine va_get (D := (dC, dI)) (ci := 2) (v := .ref (kA κ 30)) (C := RX2) (T := TX2) (N := 8) hx hb hts hin2 hown hK hP 27 rfl rfl 7 (Nat.le_of_ble_eq_true rfl) (ho (.fieldLink RX2 19 "NearEnough$Plan" "saves" "[I") (List.mem_of_getElem? (i := 1) rfl)) (fun _ h9 => h9) rfl dX2_addUp_64 ?_
                refine lv_iload_n hx hb dX2_addUp_67 rfl (lv_at hl 5 rfl) ?_
                refine lv_iload hx hb dX2_addUp_68 (lv_at hl 0 rfl) ?_
                refine lv_iadd hx hb dX2_addUp_70 ?_
                refine lv_topi (fun z11_ ez11_ => ?_)
                have o17 : -2147483648 ≤ z1_.toInt + v7_.toInt := by omega
                have o18 : z1_.toInt + v7_.toInt ≤ 2147483647 := by omega
                have tz11_ : z11_.toInt = z1_.toInt + v7_.toInt := ti_add ez11_ rfl rfl o17 o18
                refine lv_aload_n hx hb dX2_addUp_71 rfl (lv_at hl 6 rfl) ?_
                refine va_get (D := (dC, dI)) (ci := 2) (v := .ref (kA κ 30)) (C := RX2) (T := TX2) (N := 8) hx hb hts hin2 hown hK hP 27 rfl rfl 7 (Nat.le_of_ble_eq_true rfl) (ho (.fieldLink RX2 19 "NearEnough$Plan" "saves" "[I") (List.mem_of_getElem? (i := 1) rfl)) (fun _ h9 => h9) rfl dX2_addUp_72 ?_
                refine lv_iload_n hx hb dX2_addUp_75 rfl (lv_at hl 5 rfl) ?_
                refine lv_iload hx hb dX2_addUp_76 (lv_at hl 0 rfl) ?_
                refine lv_iadd hx hb dX2_addUp_78 ?_
                refine lv_topi (fun z12_ ez12_ => ?_)
                have tz12_ : z12_.toInt = z1_.toInt + v7_.toInt := ti_add ez12_ rfl rfl o17 o18
                have o19 : 0 ≤ z12_.toInt := by omega
                have o20 : z12_.toInt < ((16441 : Nat) : Int) := by omega
                refine va_iald hx hb hK hP 29 24 rfl rfl (ti_inx o19 o20) dX2_addUp_79 ?_
                refine lv_topi (fun z13_ ez13_ => ?_)
                refine lv_iload hx hb dX2_addUp_80 (lv_at hl 2 rfl) ?_
                refine lv_aload_n hx hb dX2_addUp_82 rfl (lv_at hl 6 rfl) ?_
                refine va_get (D := (dC, dI)) (ci := 2) (v := .ref (kA κ 30)) (C := RX2) (T := TX2) (N := 8) hx hb hts hin2 hown hK hP 27 rfl rfl 7 (Nat.le_of_ble_eq_true rfl) (ho (.fieldLink RX2 19 "NearEnough$Plan" "saves" "[I") (List.mem_of_getElem? (i := 1) rfl)) (fun _ h9 => h9) rfl dX2_addUp_83 ?_
                refine lv_iload_n hx hb dX2_addUp_86 rfl (lv_at hl 4 rfl) ?_
                refine lv_iload hx hb dX2_addUp_87 (lv_at hl 0 rfl) ?_
                refine lv_iadd hx hb dX2_addUp_89 ?_
                refine lv_topi (fun z14_ ez14_ => ?_)
                have o21 : -2147483648 ≤ z2_.toInt + v7_.toInt := by omega
                have o22 : z2_.toInt + v7_.toInt ≤ 2147483647 := by omega
                have tz14_ : z14_.toInt = z2_.toInt + v7_.toInt := ti_add ez14_ rfl rfl o21 o22
                refine lv_iload hx hb dX2_addUp_90 (lv_at hl 3 rfl) ?_
                refine lv_isub hx hb dX2_addUp_92 ?_
                refine lv_topi (fun z15_ ez15_ => ?_)
                have o23 : -2147483648 ≤ z14_.toInt - v5_.toInt := by omega
                have o24 : z14_.toInt - v5_.toInt ≤ 2147483647 := by omega
                have tz15_ : z15_.toInt = z14_.toInt - v5_.toInt := ti_sub ez15_ rfl rfl o23 o24
                have o25 : 0 ≤ z15_.toInt := by omega
                have o26 : z15_.toInt < ((16441 : Nat) : Int) := by omega
                refine va_iald hx hb hK hP 29 24 rfl rfl (ti_inx o25 o26) dX2_addUp_93 ?_
                refine lv_topi (fun z16_ ez16_ => ?_)
                refine lv_iadd hx hb dX2_addUp_94 ?_
                refine lv_topi (fun z17_ ez17_ => ?_)
                refine va_mmax hx hb (hml.trans hl.1.symm) hown (ho (.methodLink RX2 104 Lib.Math.max.name) (List.mem_of_getElem? (i := 2) rfl)) (ho (.static Lib.Math.max.name) (List.mem_of_getElem? (i := 3) rfl)) (ho (.initialized "java/lang/Math") (List.mem_of_getElem? (i := 4) rfl)) (ho (.code Lib.Math.max.name Lib.Math.max.code 2 (some .int)) (List.mem_of_getElem? (i := 5) rfl)) (Nat.le_of_ble_eq_true rfl) (Nat.le_of_ble_eq_true rfl) (Nat.le_of_ble_eq_true rfl) (Nat.le_of_ble_eq_true rfl) dX2_addUp_95 ?_
                refine lv_topi (fun z18_ ez18_ => ?_)
                have mz18_ := imax_ok ez18_
                have o27 : 0 ≤ z11_.toInt := by omega
                have o28 : z11_.toInt < ((16441 : Nat) : Int) := by omega
                refine va_iast hx hb hK hP hD hS 29 24 rfl rfl (ti_inx o27 o28) dX2_addUp_98 (fun H locs hP hD hS => ?_)
                obtain ⟨f19_, ef19_⟩ : ∃ f9 : Nat → Int32, f9 = upd (φ55_.2.1 4) (Int32.toNatClampNeg z11_) z18_ := ⟨_, rfl⟩
                have hP : va_P (dC, dI) vwCl (xW κ (PL κ a (sA φ55_ 4 f19_) ++ Y) σ55_) H := by rw [ef19_]; exact hP
                have hD : va_D A (xW κ (PL κ a (sA φ55_ 4 f19_) ++ Y) σ55_) := by rw [ef19_]; exact hD
                obtain ⟨z20_, ez20_⟩ : ∃ y : Int32, y = v7_ + 1 := ⟨_, rfl⟩
                have o29 : -2147483648 ≤ v7_.toInt + 1 := by omega
                have o30 : v7_.toInt + 1 ≤ 2147483647 := by omega
                have tz20_ := ti_add ez20_ rfl rg_18 o29 o30
                refine lv_iinc (v := z20_) (lv' := [(7, .int z20_), (4, .int z6_), (6, .int z6_), (5, .int v5_), (3, .int z2_), (2, .int z1_), (0, .ref a)]) hx hb dX2_addUp_99 hl (k := 0) rfl (iincp ez20_ rg_6) (Nat.le_of_ble_eq_true rfl) rfl (fun ls hl => ?_)
                refine lv_goto (tgt := 55) hx hb dX2_addUp_102 rfl ?_
                have o31 : (401 - z20_.toInt).toNat < n55_ := by omega
                have o32 : v5_.toInt ≤ z20_.toInt := by omega
                exact ih55_ (sA φ55_ 4 f19_) σ55_ z20_ _ _ _ o31 hIσ55_ trivial o32 hP hD hS (lv_sub hl [0, 1, 2, 3, 4, 5, 6] rfl)
          have o33 : v5_.toInt ≤ v5_.toInt := by omega
          exact pt55_ _ φ18_ σ18_ v5_ _ _ _ (Nat.lt_succ_self _) hIσ18_ trivial o33 hP hD hS (lv_sub hl [0, 1, 2, 3, 4, 5, 6] rfl)
  have kk21_ : ((-1) : Int32).toInt = (-1) := rg_489
  have kk22_ : (0 : Int32).toInt = 0 := rg_11
  have o34 : 0 ≤ (0 : Int32).toInt := by omega
  exact pt18_ _ φ σ (-1) 0 _ _ _ (Nat.lt_succ_self _) hI trivial o34 hP hD hS (lv_sub hl [1, 0, 2, 3, 4] rfl)
def ow_p_savesFor : List Cond := [.fieldLink RX2 19 "NearEnough$Plan" "saves" "[I"]
def vs_p_savesFor : List Cond := .code yX2_savesFor cX2_savesFor 2 (some .int) :: (ow_p_savesFor ++ (wsX20))
theorem vg_p_savesFor : vs_p_savesFor.all goodWord = true := by decide +kernel
theorem dd_p_savesFor : yX2_savesFor.cls = RX2 ∧ yX2_savesFor.cls ≠ "java/lang/invoke/MethodHandle" ∧ yX2_savesFor.cls ≠ "java/lang/invoke/VarHandle" ∧ (parseMethodDescriptor yX2_savesFor.desc).map (fun d => d.parameters.length) = some 1 := by decide +kernel
def rm_p_savesFor : Room := { frames := 0, cells := 0, slots := 0, locals := 0 }
set_option maxHeartbeats 4000000 in
set_option maxRecDepth 100000 in
theorem p_savesFor (l : Launch) (dC : Nat → ClassId) (dI : Nat → Nat → Nat) (κ : CE) (a : Nat) (Y : va_W) (sz : Nat) (φ σ : MS) (x : Int32) (hk : PInv κ) (hI : CInv σ) (hF : GInv φ) (hx0 : 0 ≤ x.toInt ∧ x.toInt ≤ 400) : Met l yX2_savesFor vs_p_savesFor rm_p_savesFor (va_Pc [.ref a, .int x] (wSy dC dI (xW κ (PL κ a φ ++ Y) σ) (tT κ) sz)) (va_Qi (fun (r : Int32) (u : MS × MS) => u = (φ, σ) ∧ True) (fun (u : MS × MS) => wEn dC dI (va_A (xW κ (PL κ a φ ++ Y) σ) sz) (xW κ (PL κ a u.1 ++ Y) u.2) []) (va_A (xW κ (PL κ a φ ++ Y) σ) sz)) 0 0 (va_A (xW κ (PL κ a φ ++ Y) σ) sz) := by
  refine Met.ofW (cc := cX2_savesFor) (maxL := 2) (ret := (some .int)) (by decide +kernel) rfl ?_
  intro p e s m args below meth c s₁ B hml hv
  obtain ⟨rfl, hsz, hP, hK, hD0, hE⟩ := hv
  have hx := B.exec
  have hb := B.bytes
  have hr := B.returns
  have hts := atoms_spec (ws := vs_p_savesFor) B.pre
  have hown : s.vm.findClass RX2 = some m.cls := findClass_of_methodNamed B.named
  have hlocks := B.notSynchronized
  subst hsz
  have hD := hD0.self (sz := s.heap.size)
  generalize hAe : va_A (xW κ (PL κ a φ ++ Y) σ) s.heap.size = A at hD ⊢
  have hA : ∀ q : Nat, s.heap.size ≤ q → A q := fun q h => by rw [← hAe]; exact Or.inr h
  have hl := lv_entry ([.ref a, .int x]) (n := 2) (Nat.le_of_ble_eq_true rfl)
  rw [lg_entry_eq]
  generalize (lg_sl ([.ref a, .int x]) ++ List.replicate (2 - (lg_sl ([.ref a, .int x])).length) Slot.unset).toArray = ls at hl ⊢
  have hl : lv_has ls 2 [(0, .ref a), (1, .int x)] := hl
  have ho := fun w (h : w ∈ ow_p_savesFor) => hts w (List.mem_cons_of_mem _ (List.mem_append_left _ h))
  have hin2 : ∀ w ∈ u_ws RX2 TX2 8, w ∈ vs_p_savesFor := fun w h => (List.mem_cons_of_mem _ (List.mem_append_right _ h))
  refine zQ (fun Q hQ => ?_)
  refine zH (A := A) (ws := (xW κ (PL κ a φ ++ Y) σ)) (fun H hP hS => ?_) hP
  have hk0 := hk.1
  have hk1 := hk.2.1
  have hk2 := hk.2.2.1
  have hKc : va_K (dC, dI) vwCl (cT κ) s := hK.sub [0, 1, 2, 3, 4, 5, 6, 7, 8, 9, 10, 11, 12, 13, 14, 15, 16, 17, 18, 19, 20] rfl
  refine lv_aload_n hx hb dX2_savesFor_0 rfl (lv_at hl 0 rfl) ?_
  refine va_get (D := (dC, dI)) (ci := 2) (v := .ref (kA κ 30)) (C := RX2) (T := TX2) (N := 8) hx hb hts hin2 hown hK hP 27 rfl rfl 7 (Nat.le_of_ble_eq_true rfl) (ho (.fieldLink RX2 19 "NearEnough$Plan" "saves" "[I") (List.mem_of_getElem? (i := 0) rfl)) (fun _ h9 => h9) rfl dX2_savesFor_1 ?_
  refine lv_iload_n hx hb dX2_savesFor_4 rfl (lv_at hl 1 rfl) ?_
  have o1 : 0 ≤ x.toInt := by omega
  have o2 : x.toInt < ((16441 : Nat) : Int) := by omega
  refine va_iald hx hb hK hP 29 24 rfl rfl (ti_inx o1 o2) dX2_savesFor_5 ?_
  refine lv_topi (fun z1_ ez1_ => ?_)
  rw [hQ]
  exact W.iret (v := z1_) hx hb hr (fun t ht hW => ⟨⟨z1_, (φ, σ), rfl, ⟨rfl, trivial⟩, wEn_of hP (hK.sub [] rfl) hD ht hW⟩, hS.F ht⟩) hS.2.2 dX2_savesFor_6
def ow_p_wrong : List Cond := [.fieldLink RX2 15 "NearEnough$Plan" "choices" "[I", .fieldLink RX2 19 "NearEnough$Plan" "saves" "[I"]
def vs_p_wrong : List Cond := .code yX2_wrongOfLeast cX2_wrongOfLeast 10 (some .int) :: (ow_p_wrong ++ (([.methodLink RX2 111 yX2_choiceIn, .static yX2_choiceIn, .initialized yX2_choiceIn.cls] : List Cond) ++ (vs_k_choiceIn ++ (wsX20))))
theorem vg_p_wrong : vs_p_wrong.all goodWord = true := by decide +kernel
theorem dd_p_wrong : yX2_wrongOfLeast.cls = RX2 ∧ yX2_wrongOfLeast.cls ≠ "java/lang/invoke/MethodHandle" ∧ yX2_wrongOfLeast.cls ≠ "java/lang/invoke/VarHandle" ∧ (parseMethodDescriptor yX2_wrongOfLeast.desc).map (fun d => d.parameters.length) = some 2 := by decide +kernel
def rm_p_wrong : Room := { frames := 1, cells := 0, slots := 0, locals := 20 }
theorem gd_p_wrong_111_k_choiceIn : GoodIn vs_p_wrong (va_wsS RX2 111 yX2_choiceIn vs_k_choiceIn) := goodIn_app (goodIn_sub (fun w h => (List.mem_cons_of_mem _ (List.mem_append_right _ (List.mem_append_left _ h)))) (by decide +kernel)) (goodIn_sub (fun w h => (List.mem_cons_of_mem _ (List.mem_append_right _ (List.mem_append_right _ (List.mem_append_left _ h))))) vg_k_choiceIn)
set_option maxHeartbeats 4000000 in
set_option maxRecDepth 100000 in
theorem p_wrong (l : Launch) (dC : Nat → ClassId) (dI : Nat → Nat → Nat) (κ : CE) (a : Nat) (Y : va_W) (sz : Nat) (φ σ : MS) (x : Int32) (y : Int32) (hk : PInv κ) (hI : CInv σ) (hF : GInv φ) (hx0 : 0 ≤ x.toInt ∧ x.toInt ≤ 39) (hy0 : 0 ≤ y.toInt ∧ y.toInt ≤ 400) : Met l yX2_wrongOfLeast vs_p_wrong rm_p_wrong (va_Pc [.ref a, .int x, .int y] (wSy dC dI (xW κ (PL κ a φ ++ Y) σ) (tT κ) sz)) (va_Qi (fun (r : Int32) (u : MS × MS) => u = (φ, σ) ∧ (0 ≤ r.toInt ∧ r.toInt ≤ y.toInt)) (fun (u : MS × MS) => wEn dC dI (va_A (xW κ (PL κ a φ ++ Y) σ) sz) (xW κ (PL κ a u.1 ++ Y) u.2) []) (va_A (xW κ (PL κ a φ ++ Y) σ) sz)) 0 0 (va_A (xW κ (PL κ a φ ++ Y) σ) sz) := by
  refine Met.ofW (cc := cX2_wrongOfLeast) (maxL := 10) (ret := (some .int)) (by decide +kernel) rfl ?_
  intro p e s m args below meth c s₁ B hml hv
  obtain ⟨rfl, hsz, hP, hK, hD0, hE⟩ := hv
  have hx := B.exec
  have hb := B.bytes
  have hr := B.returns
  have hts := atoms_spec (ws := vs_p_wrong) B.pre
  have hown : s.vm.findClass RX2 = some m.cls := findClass_of_methodNamed B.named
  have hlocks := B.notSynchronized
  subst hsz
  have hD := hD0.self (sz := s.heap.size)
  generalize hAe : va_A (xW κ (PL κ a φ ++ Y) σ) s.heap.size = A at hD ⊢
  have hA : ∀ q : Nat, s.heap.size ≤ q → A q := fun q h => by rw [← hAe]; exact Or.inr h
  have hl := lv_entry ([.ref a, .int x, .int y]) (n := 10) (Nat.le_of_ble_eq_true rfl)
  rw [lg_entry_eq]
  generalize (lg_sl ([.ref a, .int x, .int y]) ++ List.replicate (10 - (lg_sl ([.ref a, .int x, .int y])).length) Slot.unset).toArray = ls at hl ⊢
  have hl : lv_has ls 10 [(0, .ref a), (1, .int x), (2, .int y)] := hl
  have ho := fun w (h : w ∈ ow_p_wrong) => hts w (List.mem_cons_of_mem _ (List.mem_append_left _ h))
  have hin2 : ∀ w ∈ u_ws RX2 TX2 8, w ∈ vs_p_wrong := fun w h => (List.mem_cons_of_mem _ (List.mem_append_right _ (List.mem_append_right _ (List.mem_append_right _ h))))
  refine zQ (fun Q hQ => ?_)
  refine zH (A := A) (ws := (xW κ (PL κ a φ ++ Y) σ)) (fun H hP hS => ?_) hP
  have hk0 := hk.1
  have hk1 := hk.2.1
  have hk2 := hk.2.2.1
  have hKc : va_K (dC, dI) vwCl (cT κ) s := hK.sub [0, 1, 2, 3, 4, 5, 6, 7, 8, 9, 10, 11, 12, 13, 14, 15, 16, 17, 18, 19, 20] rfl
  refine lv_iload_n hx hb dX2_wrongOfLeast_0 rfl (lv_at hl 1 rfl) ?_
  refine lv_sipush (v := 401) hx hb dX2_wrongOfLeast_1 rx_a0035c103e ?_
  refine lv_imul hx hb dX2_wrongOfLeast_4 ?_
  refine lv_topi (fun z1_ ez1_ => ?_)
  have o1 : -2147483648 ≤ x.toInt * 401 := by omega
  have o2 : x.toInt * 401 ≤ 2147483647 := by omega
  have tz1_ : z1_.toInt = x.toInt * 401 := ti_mul ez1_ rfl rx_50eca79386 o1 o2
  refine lv_istore_n (lv' := [(3, .int z1_), (0, .ref a), (1, .int x), (2, .int y)]) hx hb dX2_wrongOfLeast_5 rfl hl (Nat.le_of_ble_eq_true rfl) rfl (fun ls hl => ?_)
  refine lv_iload_n hx hb dX2_wrongOfLeast_6 rfl (lv_at hl 0 rfl) ?_
  refine lv_sipush (v := 401) hx hb dX2_wrongOfLeast_7 rx_a0035c103e ?_
  refine lv_iadd hx hb dX2_wrongOfLeast_10 ?_
  refine lv_topi (fun z2_ ez2_ => ?_)
  have o3 : -2147483648 ≤ z1_.toInt + 401 := by omega
  have o4 : z1_.toInt + 401 ≤ 2147483647 := by omega
  have tz2_ : z2_.toInt = z1_.toInt + 401 := ti_add ez2_ rfl rx_50eca79386 o3 o4
  refine lv_istore (lv' := [(4, .int z2_), (3, .int z1_), (0, .ref a), (1, .int x), (2, .int y)]) hx hb dX2_wrongOfLeast_11 hl (Nat.le_of_ble_eq_true rfl) rfl (fun ls hl => ?_)
  refine lv_iconst (v := 0) hx hb dX2_wrongOfLeast_13 rg_0 ?_
  refine lv_istore (lv' := [(5, .int 0), (4, .int z2_), (3, .int z1_), (0, .ref a), (1, .int x), (2, .int y)]) hx hb dX2_wrongOfLeast_14 hl (Nat.le_of_ble_eq_true rfl) rfl (fun ls hl => ?_)
  refine lv_sipush (v := 4096) hx hb dX2_wrongOfLeast_16 rx_5b0cde361b ?_
  refine lv_istore (lv' := [(6, .int 4096), (5, .int 0), (4, .int z2_), (3, .int z1_), (0, .ref a), (1, .int x), (2, .int y)]) hx hb dX2_wrongOfLeast_19 hl (Nat.le_of_ble_eq_true rfl) rfl (fun ls hl => ?_)
  refine lv_iconst (v := 0) hx hb dX2_wrongOfLeast_21 rg_0 ?_
  refine lv_istore (lv' := [(7, .int 0), (6, .int 4096), (5, .int 0), (4, .int z2_), (3, .int z1_), (0, .ref a), (1, .int x), (2, .int y)]) hx hb dX2_wrongOfLeast_22 hl (Nat.le_of_ble_eq_true rfl) rfl (fun ls hl => ?_)
  have pt24_ : ∀ (n24_ : Nat) (v5_ : Int32) (v6_ : Int32) (v7_ : Int32) (H : Heap) (locs : List Loc) (ls : Array Slot), (401 - v7_.toInt).toNat < n24_ → (0 ≤ v7_.toInt ∧ 0 ≤ v5_.toInt ∧ v5_.toInt ≤ y.toInt) → va_P (dC, dI) vwCl (xW κ (PL κ a φ ++ Y) σ) H → va_D A (xW κ (PL κ a φ ++ Y) σ) → va_S A s.heap H locs → lv_has ls 10 [(5, .int v5_), (6, .int v6_), (7, .int v7_), (4, .int z2_), (3, .int z1_), (0, .ref a), (2, .int y)] → W p l e (headSpec vs_p_wrong rm_p_wrong).room s m #[Value.ref a, Value.int x, Value.int y] below meth c H locs 0 0 Q (F0 m 24 ls []) := by
    intro n24_
    induction n24_ with
    | zero => intro v5_ v6_ v7_ H locs ls hn24_ hf24_0_ hP hD hS hl; exact absurd hn24_ (Nat.not_lt_zero _)
    | succ n24_ ih24_ =>
      intro v5_ v6_ v7_ H locs ls hn24_ hf24_0_ hP hD hS hl
      refine lv_iload hx hb dX2_wrongOfLeast_24 (lv_at hl 2 rfl) ?_
      refine lv_iload_n hx hb dX2_wrongOfLeast_26 rfl (lv_at hl 6 rfl) ?_
      refine lv_icmp_gt (tgt := 115) hx hb dX2_wrongOfLeast_27 rfl (fun c3_ => ?_) (fun c3_ => ?_)
      · have tc3_ := (show y.toInt < v7_.toInt from ti_lt rfl rfl c3_)
        refine lv_iload hx hb dX2_wrongOfLeast_115 (lv_at hl 0 rfl) ?_
        have o5 : 0 ≤ v5_.toInt := by omega
        have o6 : v5_.toInt ≤ y.toInt := by omega
        rw [hQ]
        exact W.iret (v := v5_) hx hb hr (fun t ht hW => ⟨⟨v5_, (φ, σ), rfl, ⟨rfl, ⟨o5, o6⟩⟩, wEn_of hP (hK.sub [] rfl) hD ht hW⟩, hS.F ht⟩) hS.2.2 dX2_wrongOfLeast_117
      · have tc3_ := (show v7_.toInt ≤ y.toInt from ti_nlt rfl rfl c3_)
        refine lv_aload_n hx hb dX2_wrongOfLeast_30 rfl (lv_at hl 5 rfl) ?_
        refine va_get (D := (dC, dI)) (ci := 2) (v := .ref (kA κ 29)) (C := RX2) (T := TX2) (N := 8) hx hb hts hin2 hown hK hP 27 rfl rfl 6 (Nat.le_of_ble_eq_true rfl) (ho (.fieldLink RX2 15 "NearEnough$Plan" "choices" "[I") (List.mem_of_getElem? (i := 0) rfl)) (fun _ h9 => h9) rfl dX2_wrongOfLeast_31 ?_
        refine lv_iload_n hx hb dX2_wrongOfLeast_34 rfl (lv_at hl 4 rfl) ?_
        refine lv_iload hx hb dX2_wrongOfLeast_35 (lv_at hl 2 rfl) ?_
        refine lv_iadd hx hb dX2_wrongOfLeast_37 ?_
        refine lv_topi (fun z4_ ez4_ => ?_)
        have o7 : -2147483648 ≤ z1_.toInt + v7_.toInt := by omega
        have o8 : z1_.toInt + v7_.toInt ≤ 2147483647 := by omega
        have tz4_ : z4_.toInt = z1_.toInt + v7_.toInt := ti_add ez4_ rfl rfl o7 o8
        have o9 : 0 ≤ z4_.toInt := by omega
        have o10 : z4_.toInt < ((16040 : Nat) : Int) := by omega
        refine va_iald hx hb hK hP 28 23 rfl rfl (ti_inx o9 o10) dX2_wrongOfLeast_38 ?_
        refine lv_topi (fun z5_ ez5_ => ?_)
        refine lv_istore (lv' := [(8, .int z5_), (5, .int v5_), (6, .int v6_), (7, .int v7_), (4, .int z2_), (3, .int z1_), (0, .ref a), (2, .int y)]) hx hb dX2_wrongOfLeast_39 hl (Nat.le_of_ble_eq_true rfl) rfl (fun ls hl => ?_)
        have pt81_ : ∀ (s81_ : Int32) (H : Heap) (locs : List Loc) (ls : Array Slot), va_P (dC, dI) vwCl (xW κ (PL κ a φ ++ Y) σ) H → va_D A (xW κ (PL κ a φ ++ Y) σ) → va_S A s.heap H locs → lv_has ls 10 [(8, .int z5_), (5, .int v5_), (6, .int v6_), (7, .int v7_), (4, .int z2_), (3, .int z1_), (0, .ref a), (2, .int y)] → W p l e (headSpec vs_p_wrong rm_p_wrong).room s m #[Value.ref a, Value.int x, Value.int y] below meth c H locs 0 0 Q (F0 m 81 ls [.int s81_]) := by
          intro s81_ H locs ls hP hD hS hl
          refine lv_istore (lv' := [(9, .int s81_), (8, .int z5_), (5, .int v5_), (6, .int v6_), (7, .int v7_), (4, .int z2_), (3, .int z1_), (0, .ref a), (2, .int y)]) hx hb dX2_wrongOfLeast_81 hl (Nat.le_of_ble_eq_true rfl) rfl (fun ls hl => ?_)
          refine lv_iload hx hb dX2_wrongOfLeast_83 (lv_at hl 0 rfl) ?_
          refine lv_if_eq (tgt := 109) hx hb dX2_wrongOfLeast_85 rfl (fun c6_ => ?_) (fun c6_ => ?_)
          · have tc6_ := (show s81_.toInt = 0 from ti_eq rfl rg_11 c6_)
            obtain ⟨z7_, ez7_⟩ : ∃ y : Int32, y = v7_ + 1 := ⟨_, rfl⟩
            have o11 : -2147483648 ≤ v7_.toInt + 1 := by omega
            have o12 : v7_.toInt + 1 ≤ 2147483647 := by omega
            have tz7_ := ti_add ez7_ rfl rg_18 o11 o12
            refine lv_iinc (v := z7_) (lv' := [(7, .int z7_), (9, .int s81_), (8, .int z5_), (5, .int v5_), (6, .int v6_), (4, .int z2_), (3, .int z1_), (0, .ref a), (2, .int y)]) hx hb dX2_wrongOfLeast_109 hl (k := 4) rfl (iincp ez7_ rg_6) (Nat.le_of_ble_eq_true rfl) rfl (fun ls hl => ?_)
            refine lv_goto (tgt := 24) hx hb dX2_wrongOfLeast_112 rfl ?_
            have o13 : (401 - z7_.toInt).toNat < n24_ := by omega
            have o14 : 0 ≤ z7_.toInt := by omega
            have o15 : 0 ≤ v5_.toInt := by omega
            have o16 : v5_.toInt ≤ y.toInt := by omega
            exact ih24_  v5_ v6_ z7_ _ _ _ o13 ⟨o14, o15, o16⟩ hP hD hS (lv_sub hl [3, 4, 0, 5, 6, 7, 8] rfl)
          · have tc6_ := (show s81_.toInt ≠ 0 from ti_ne rfl rg_11 c6_)
            refine lv_iload hx hb dX2_wrongOfLeast_88 (lv_at hl 1 rfl) ?_
            refine zs_i (va_runS (As := [.int z5_]) (rest := []) ⟨hx, hb, hml, hown, hts⟩ (k_choiceIn l dC dI z5_  H.size) (va_cwS 1 hts gd_p_wrong_111_k_choiceIn rfl rfl rfl dd_k_choiceIn ⟨Nat.le_of_ble_eq_true rfl, Nat.le_of_ble_eq_true rfl⟩) (preS (A := A) empP (hK.sub (tys' := []) [] rfl) empD hE.x) rfl rfl hl.1 rfl (lv_room (Nat.le_of_ble_eq_true rfl)) dX2_wrongOfLeast_90 ⟨Nat.le_of_ble_eq_true rfl, Nat.le_of_ble_eq_true rfl⟩) hP hD hS hA (fun z8_ H locs hq hP hD hS => ?_)
            have q9_ : True := hq
            refine W.widen (k := 0) (n := 0) (Nat.le_of_ble_eq_true rfl) (Nat.le_of_ble_eq_true rfl) ?_
            refine lv_iload hx hb dX2_wrongOfLeast_93 (lv_at hl 3 rfl) ?_
            refine lv_icmp_ge (tgt := 109) hx hb dX2_wrongOfLeast_95 rfl (fun c10_ => ?_) (fun c10_ => ?_)
            · have tc10_ := (show v6_.toInt ≤ z8_.toInt from ti_le rfl rfl c10_)
              obtain ⟨z11_, ez11_⟩ : ∃ y : Int32, y = v7_ + 1 := ⟨_, rfl⟩
              have o17 : -2147483648 ≤ v7_.toInt + 1 := by omega
              have o18 : v7_.toInt + 1 ≤ 2147483647 := by omega
              have tz11_ := ti_add ez11_ rfl rg_18 o17 o18
              refine lv_iinc (v := z11_) (lv' := [(7, .int z11_), (9, .int s81_), (8, .int z5_), (5, .int v5_), (6, .int v6_), (4, .int z2_), (3, .int z1_), (0, .ref a), (2, .int y)]) hx hb dX2_wrongOfLeast_109 hl (k := 4) rfl (iincp ez11_ rg_6) (Nat.le_of_ble_eq_true rfl) rfl (fun ls hl => ?_)
              refine lv_goto (tgt := 24) hx hb dX2_wrongOfLeast_112 rfl ?_
              have o19 : (401 - z11_.toInt).toNat < n24_ := by omega
              have o20 : 0 ≤ z11_.toInt := by omega
              have o21 : 0 ≤ v5_.toInt := by omega
              have o22 : v5_.toInt ≤ y.toInt := by omega
              exact ih24_  v5_ v6_ z11_ _ _ _ o19 ⟨o20, o21, o22⟩ hP hD hS (lv_sub hl [3, 4, 0, 5, 6, 7, 8] rfl)
            · have tc10_ := (show z8_.toInt < v6_.toInt from ti_nle rfl rfl c10_)
              refine lv_iload hx hb dX2_wrongOfLeast_98 (lv_at hl 4 rfl) ?_
              refine lv_istore (lv' := [(5, .int v7_), (9, .int s81_), (8, .int z5_), (6, .int v6_), (7, .int v7_), (4, .int z2_), (3, .int z1_), (0, .ref a), (2, .int y)]) hx hb dX2_wrongOfLeast_100 hl (Nat.le_of_ble_eq_true rfl) rfl (fun ls hl => ?_)
              refine lv_iload hx hb dX2_wrongOfLeast_102 (lv_at hl 2 rfl) ?_
              refine zs_i (va_runS (As := [.int z5_]) (rest := []) ⟨hx, hb, hml, hown, hts⟩ (k_choiceIn l dC dI z5_  H.size) (va_cwS 1 hts gd_p_wrong_111_k_choiceIn rfl rfl rfl dd_k_choiceIn ⟨Nat.le_of_ble_eq_true rfl, Nat.le_of_ble_eq_true rfl⟩) (preS (A := A) empP (hK.sub (tys' := []) [] rfl) empD hE.x) rfl rfl hl.1 rfl (lv_room (Nat.le_of_ble_eq_true rfl)) dX2_wrongOfLeast_104 ⟨Nat.le_of_ble_eq_true rfl, Nat.le_of_ble_eq_true rfl⟩) hP hD hS hA (fun z12_ H locs hq hP hD hS => ?_)
              have q13_ : True := hq
              refine W.widen (k := 0) (n := 0) (Nat.le_of_ble_eq_true rfl) (Nat.le_of_ble_eq_true rfl) ?_
              refine lv_istore (lv' := [(6, .int z12_), (5, .int v7_), (9, .int s81_), (8, .int z5_), (7, .int v7_), (4, .int z2_), (3, .int z1_), (0, .ref a), (2, .int y)]) hx hb dX2_wrongOfLeast_107 hl (Nat.le_of_ble_eq_true rfl) rfl (fun ls hl => ?_)
              obtain ⟨z14_, ez14_⟩ : ∃ y : Int32, y = v7_ + 1 := ⟨_, rfl⟩
              have o23 : -2147483648 ≤ v7_.toInt + 1 := by omega
              have o24 : v7_.toInt + 1 ≤ 2147483647 := by omega
              have tz14_ := ti_add ez14_ rfl rg_18 o23 o24
              refine lv_iinc (v := z14_) (lv' := [(7, .int z14_), (6, .int z12_), (5, .int v7_), (9, .int s81_), (8, .int z5_), (4, .int z2_), (3, .int z1_), (0, .ref a), (2, .int y)]) hx hb dX2_wrongOfLeast_109 hl (k := 4) rfl (iincp ez14_ rg_6) (Nat.le_of_ble_eq_true rfl) rfl (fun ls hl => ?_)
              refine lv_goto (tgt := 24) hx hb dX2_wrongOfLeast_112 rfl ?_
              have o25 : (401 - z14_.toInt).toNat < n24_ := by omega
              have o26 : 0 ≤ z14_.toInt := by omega
              have o27 : 0 ≤ v7_.toInt := by omega
              have o28 : v7_.toInt ≤ y.toInt := by omega
              exact ih24_  v7_ z12_ z14_ _ _ _ o25 ⟨o26, o27, o28⟩ hP hD hS (lv_sub hl [2, 1, 0, 5, 6, 7, 8] rfl)
        refine lv_iload hx hb dX2_wrongOfLeast_41 (lv_at hl 0 rfl) ?_
        refine lv_iconst (v := (-1)) hx hb dX2_wrongOfLeast_43 rg_53 ?_
        refine lv_icmp_eq (tgt := 80) hx hb dX2_wrongOfLeast_44 rfl (fun c15_ => ?_) (fun c15_ => ?_)
        · have tc15_ := (show z5_.toInt = (-1) from ti_eq rfl rg_489 c15_)
          refine lv_iconst (v := 0) hx hb dX2_wrongOfLeast_80 rg_0 ?_
          have kk16_ : (0 : Int32).toInt = 0 := rg_11
          exact pt81_  0 _ _ _  hP hD hS (lv_sub hl [0, 1, 2, 3, 4, 5, 6, 7] rfl)
        · have tc15_ := (show z5_.toInt ≠ (-1) from ti_ne rfl rg_489 c15_)
          refine lv_iload hx hb dX2_wrongOfLeast_47 (lv_at hl 0 rfl) ?_
          refine lv_bipush (v := 12) hx hb dX2_wrongOfLeast_49 rg_57 ?_
          refine lv_ishr hx hb dX2_wrongOfLeast_51 ?_
          refine lv_topi (fun z17_ ez17_ => ?_)
          refine lv_aload_n hx hb dX2_wrongOfLeast_52 rfl (lv_at hl 6 rfl) ?_
          refine va_get (D := (dC, dI)) (ci := 2) (v := .ref (kA κ 30)) (C := RX2) (T := TX2) (N := 8) hx hb hts hin2 hown hK hP 27 rfl rfl 7 (Nat.le_of_ble_eq_true rfl) (ho (.fieldLink RX2 19 "NearEnough$Plan" "saves" "[I") (List.mem_of_getElem? (i := 1) rfl)) (fun _ h9 => h9) rfl dX2_wrongOfLeast_53 ?_
          refine lv_iload hx hb dX2_wrongOfLeast_56 (lv_at hl 4 rfl) ?_
          refine lv_iload_n hx hb dX2_wrongOfLeast_58 rfl (lv_at hl 7 rfl) ?_
          refine lv_iadd hx hb dX2_wrongOfLeast_59 ?_
          refine lv_topi (fun z18_ ez18_ => ?_)
          have o29 : -2147483648 ≤ z2_.toInt + y.toInt := by omega
          have o30 : z2_.toInt + y.toInt ≤ 2147483647 := by omega
          have tz18_ : z18_.toInt = z2_.toInt + y.toInt := ti_add ez18_ rfl rfl o29 o30
          refine lv_iload hx hb dX2_wrongOfLeast_60 (lv_at hl 3 rfl) ?_
          refine lv_isub hx hb dX2_wrongOfLeast_62 ?_
          refine lv_topi (fun z19_ ez19_ => ?_)
          have o31 : -2147483648 ≤ z18_.toInt - v7_.toInt := by omega
          have o32 : z18_.toInt - v7_.toInt ≤ 2147483647 := by omega
          have tz19_ : z19_.toInt = z18_.toInt - v7_.toInt := ti_sub ez19_ rfl rfl o31 o32
          have o33 : 0 ≤ z19_.toInt := by omega
          have o34 : z19_.toInt < ((16441 : Nat) : Int) := by omega
          refine va_iald hx hb hK hP 29 24 rfl rfl (ti_inx o33 o34) dX2_wrongOfLeast_63 ?_
          refine lv_topi (fun z20_ ez20_ => ?_)
          refine lv_iadd hx hb dX2_wrongOfLeast_64 ?_
          refine lv_topi (fun z21_ ez21_ => ?_)
          refine lv_aload_n hx hb dX2_wrongOfLeast_65 rfl (lv_at hl 6 rfl) ?_
          refine va_get (D := (dC, dI)) (ci := 2) (v := .ref (kA κ 30)) (C := RX2) (T := TX2) (N := 8) hx hb hts hin2 hown hK hP 27 rfl rfl 7 (Nat.le_of_ble_eq_true rfl) (ho (.fieldLink RX2 19 "NearEnough$Plan" "saves" "[I") (List.mem_of_getElem? (i := 1) rfl)) (fun _ h9 => h9) rfl dX2_wrongOfLeast_66 ?_
          refine lv_iload_n hx hb dX2_wrongOfLeast_69 rfl (lv_at hl 5 rfl) ?_
          refine lv_iload_n hx hb dX2_wrongOfLeast_70 rfl (lv_at hl 7 rfl) ?_
          refine lv_iadd hx hb dX2_wrongOfLeast_71 ?_
          refine lv_topi (fun z22_ ez22_ => ?_)
          have o35 : -2147483648 ≤ z1_.toInt + y.toInt := by omega
          have o36 : z1_.toInt + y.toInt ≤ 2147483647 := by omega
          have tz22_ : z22_.toInt = z1_.toInt + y.toInt := ti_add ez22_ rfl rfl o35 o36
          have o37 : 0 ≤ z22_.toInt := by omega
          have o38 : z22_.toInt < ((16441 : Nat) : Int) := by omega
          refine va_iald hx hb hK hP 29 24 rfl rfl (ti_inx o37 o38) dX2_wrongOfLeast_72 ?_
          refine lv_topi (fun z23_ ez23_ => ?_)
          refine lv_icmp_ne (tgt := 80) hx hb dX2_wrongOfLeast_73 rfl (fun c24_ => ?_) (fun c24_ => ?_)
          · have tc24_ := (show z21_.toInt ≠ z23_.toInt from ti_ne rfl rfl c24_)
            refine lv_iconst (v := 0) hx hb dX2_wrongOfLeast_80 rg_0 ?_
            have kk25_ : (0 : Int32).toInt = 0 := rg_11
            exact pt81_  0 _ _ _  hP hD hS (lv_sub hl [0, 1, 2, 3, 4, 5, 6, 7] rfl)
          · have tc24_ := (show z21_.toInt = z23_.toInt from ti_eq rfl rfl c24_)
            refine lv_iconst (v := 1) hx hb dX2_wrongOfLeast_76 rg_6 ?_
            refine lv_goto (tgt := 81) hx hb dX2_wrongOfLeast_77 rfl ?_
            have kk26_ : (1 : Int32).toInt = 1 := rg_18
            exact pt81_  1 _ _ _  hP hD hS (lv_sub hl [0, 1, 2, 3, 4, 5, 6, 7] rfl)
  have kk27_ : (0 : Int32).toInt = 0 := rg_11
  have kk28_ : (4096 : Int32).toInt = 4096 := rx_5cf37c826d
  have kk29_ : (0 : Int32).toInt = 0 := rg_11
  have o39 : 0 ≤ (0 : Int32).toInt := by omega
  have o40 : (0 : Int32).toInt ≤ y.toInt := by omega
  exact pt24_ _  0 4096 0 _ _ _ (Nat.lt_succ_self _) ⟨o39, o39, o40⟩ hP hD hS (lv_sub hl [2, 1, 0, 3, 4, 5, 7] rfl)
def ow_p_choiceFor : List Cond := [.fieldLink RX2 15 "NearEnough$Plan" "choices" "[I"]
def vs_p_choiceFor : List Cond := .code yX2_choiceFor cX2_choiceFor 7 (some .int) :: (ow_p_choiceFor ++ (([.methodLink RX2 108 yX2_wrongOfLeast, .instanceMethod yX2_wrongOfLeast, .selects RX2 yX2_wrongOfLeast yX2_wrongOfLeast, .initialized RX2] : List Cond) ++ (vs_p_wrong ++ (([.methodLink RX2 111 yX2_choiceIn, .static yX2_choiceIn, .initialized yX2_choiceIn.cls] : List Cond) ++ (vs_k_choiceIn ++ (wsX20))))))
theorem vg_p_choiceFor : vs_p_choiceFor.all goodWord = true := by decide +kernel
theorem dd_p_choiceFor : yX2_choiceFor.cls = RX2 ∧ yX2_choiceFor.cls ≠ "java/lang/invoke/MethodHandle" ∧ yX2_choiceFor.cls ≠ "java/lang/invoke/VarHandle" ∧ (parseMethodDescriptor yX2_choiceFor.desc).map (fun d => d.parameters.length) = some 2 := by decide +kernel
def rm_p_choiceFor : Room := { frames := 2, cells := 0, slots := 0, locals := 49 }
theorem gd_p_choiceFor_108_p_wrong : GoodIn vs_p_choiceFor (wsV RX2 108 RX2 yX2_wrongOfLeast vs_p_wrong) := goodIn_app (goodIn_sub (fun w h => (List.mem_cons_of_mem _ (List.mem_append_right _ (List.mem_append_left _ h)))) (by decide +kernel)) (goodIn_sub (fun w h => (List.mem_cons_of_mem _ (List.mem_append_right _ (List.mem_append_right _ (List.mem_append_left _ h))))) vg_p_wrong)
theorem gd_p_choiceFor_111_k_choiceIn : GoodIn vs_p_choiceFor (va_wsS RX2 111 yX2_choiceIn vs_k_choiceIn) := goodIn_app (goodIn_sub (fun w h => (List.mem_cons_of_mem _ (List.mem_append_right _ (List.mem_append_right _ (List.mem_append_right _ (List.mem_append_left _ h)))))) (by decide +kernel)) (goodIn_sub (fun w h => (List.mem_cons_of_mem _ (List.mem_append_right _ (List.mem_append_right _ (List.mem_append_right _ (List.mem_append_right _ (List.mem_append_left _ h))))))) vg_k_choiceIn)
set_option maxHeartbeats 4000000 in
set_option maxRecDepth 100000 in
theorem p_choiceFor (l : Launch) (dC : Nat → ClassId) (dI : Nat → Nat → Nat) (κ : CE) (a : Nat) (Y : va_W) (sz : Nat) (φ σ : MS) (x : Int32) (y : Int32) (hk : PInv κ) (hI : CInv σ) (hF : GInv φ) (hx0 : 0 ≤ x.toInt ∧ x.toInt ≤ 400) (hy0 : 0 ≤ y.toInt ∧ y.toInt ≤ 39) : Met l yX2_choiceFor vs_p_choiceFor rm_p_choiceFor (va_Pc [.ref a, .int x, .int y] (wSy dC dI (xW κ (PL κ a φ ++ Y) σ) (tT κ) sz)) (va_Qi (fun (r : Int32) (u : MS × MS) => u = (φ, σ) ∧ True) (fun (u : MS × MS) => wEn dC dI (va_A (xW κ (PL κ a φ ++ Y) σ) sz) (xW κ (PL κ a u.1 ++ Y) u.2) []) (va_A (xW κ (PL κ a φ ++ Y) σ) sz)) 0 0 (va_A (xW κ (PL κ a φ ++ Y) σ) sz) := by
  refine Met.ofW (cc := cX2_choiceFor) (maxL := 7) (ret := (some .int)) (by decide +kernel) rfl ?_
  intro p e s m args below meth c s₁ B hml hv
  obtain ⟨rfl, hsz, hP, hK, hD0, hE⟩ := hv
  have hx := B.exec
  have hb := B.bytes
  have hr := B.returns
  have hts := atoms_spec (ws := vs_p_choiceFor) B.pre
  have hown : s.vm.findClass RX2 = some m.cls := findClass_of_methodNamed B.named
  have hlocks := B.notSynchronized
  subst hsz
  have hD := hD0.self (sz := s.heap.size)
  generalize hAe : va_A (xW κ (PL κ a φ ++ Y) σ) s.heap.size = A at hD ⊢
  have hA : ∀ q : Nat, s.heap.size ≤ q → A q := fun q h => by rw [← hAe]; exact Or.inr h
  have hl := lv_entry ([.ref a, .int x, .int y]) (n := 7) (Nat.le_of_ble_eq_true rfl)
  rw [lg_entry_eq]
  generalize (lg_sl ([.ref a, .int x, .int y]) ++ List.replicate (7 - (lg_sl ([.ref a, .int x, .int y])).length) Slot.unset).toArray = ls at hl ⊢
  have hl : lv_has ls 7 [(0, .ref a), (1, .int x), (2, .int y)] := hl
  have ho := fun w (h : w ∈ ow_p_choiceFor) => hts w (List.mem_cons_of_mem _ (List.mem_append_left _ h))
  have hin2 : ∀ w ∈ u_ws RX2 TX2 8, w ∈ vs_p_choiceFor := fun w h => (List.mem_cons_of_mem _ (List.mem_append_right _ (List.mem_append_right _ (List.mem_append_right _ (List.mem_append_right _ (List.mem_append_right _ h))))))
  refine zQ (fun Q hQ => ?_)
  refine zH (A := A) (ws := (xW κ (PL κ a φ ++ Y) σ)) (fun H hP hS => ?_) hP
  have hk0 := hk.1
  have hk1 := hk.2.1
  have hk2 := hk.2.2.1
  have hKc : va_K (dC, dI) vwCl (cT κ) s := hK.sub [0, 1, 2, 3, 4, 5, 6, 7, 8, 9, 10, 11, 12, 13, 14, 15, 16, 17, 18, 19, 20] rfl
  refine lv_iload_n hx hb dX2_choiceFor_0 rfl (lv_at hl 1 rfl) ?_
  refine lv_istore_n (lv' := [(3, .int x), (0, .ref a), (1, .int x), (2, .int y)]) hx hb dX2_choiceFor_1 rfl hl (Nat.le_of_ble_eq_true rfl) rfl (fun ls hl => ?_)
  refine lv_iconst (v := 0) hx hb dX2_choiceFor_2 rg_0 ?_
  refine lv_istore (lv' := [(4, .int 0), (3, .int x), (0, .ref a), (1, .int x), (2, .int y)]) hx hb dX2_choiceFor_3 hl (Nat.le_of_ble_eq_true rfl) rfl (fun ls hl => ?_)
  refine lv_iconst (v := 0) hx hb dX2_choiceFor_5 rg_0 ?_
  refine lv_istore (lv' := [(5, .int 0), (4, .int 0), (3, .int x), (0, .ref a), (1, .int x), (2, .int y)]) hx hb dX2_choiceFor_6 hl (Nat.le_of_ble_eq_true rfl) rfl (fun ls hl => ?_)
  have pt8_ : ∀ (n8_ : Nat) (v3_ : Int32) (v4_ : Int32) (v5_ : Int32) (H : Heap) (locs : List Loc) (ls : Array Slot), (40 - v5_.toInt).toNat < n8_ → (0 ≤ v5_.toInt ∧ 0 ≤ v3_.toInt ∧ v3_.toInt ≤ 400) → va_P (dC, dI) vwCl (xW κ (PL κ a φ ++ Y) σ) H → va_D A (xW κ (PL κ a φ ++ Y) σ) → va_S A s.heap H locs → lv_has ls 7 [(3, .int v3_), (4, .int v4_), (5, .int v5_), (0, .ref a), (2, .int y)] → W p l e (headSpec vs_p_choiceFor rm_p_choiceFor).room s m #[Value.ref a, Value.int x, Value.int y] below meth c H locs 0 0 Q (F0 m 8 ls []) := by
    intro n8_
    induction n8_ with
    | zero => intro v3_ v4_ v5_ H locs ls hn8_ hf8_0_ hP hD hS hl; exact absurd hn8_ (Nat.not_lt_zero _)
    | succ n8_ ih8_ =>
      intro v3_ v4_ v5_ H locs ls hn8_ hf8_0_ hP hD hS hl
      refine lv_iload hx hb dX2_choiceFor_8 (lv_at hl 2 rfl) ?_
      refine lv_iload_n hx hb dX2_choiceFor_10 rfl (lv_at hl 4 rfl) ?_
      refine lv_icmp_gt (tgt := 53) hx hb dX2_choiceFor_11 rfl (fun c1_ => ?_) (fun c1_ => ?_)
      · have tc1_ := (show y.toInt < v5_.toInt from ti_lt rfl rfl c1_)
        refine lv_iload hx hb dX2_choiceFor_53 (lv_at hl 1 rfl) ?_
        rw [hQ]
        exact W.iret (v := v4_) hx hb hr (fun t ht hW => ⟨⟨v4_, (φ, σ), rfl, ⟨rfl, trivial⟩, wEn_of hP (hK.sub [] rfl) hD ht hW⟩, hS.F ht⟩) hS.2.2 dX2_choiceFor_55
      · have tc1_ := (show v5_.toInt ≤ y.toInt from ti_nlt rfl rfl c1_)
        refine lv_aload_n hx hb dX2_choiceFor_14 rfl (lv_at hl 3 rfl) ?_
        refine lv_iload hx hb dX2_choiceFor_15 (lv_at hl 2 rfl) ?_
        refine lv_iload_n hx hb dX2_choiceFor_17 rfl (lv_at hl 0 rfl) ?_
        have o1 : 0 ≤ v5_.toInt := by omega
        have o2 : v5_.toInt ≤ 39 := by omega
        have o3 : 0 ≤ v3_.toInt := by omega
        have o4 : v3_.toInt ≤ 400 := by omega
        refine zy_i (va_runV (As := [.int v5_, .int v3_]) (rest := []) ⟨hx, hb, hml, hown, hts⟩ (p_wrong l dC dI κ a Y H.size φ σ v5_ v3_ hk hI trivial ⟨o1, o2⟩ ⟨o3, o4⟩) (cwV 2 hts gd_p_choiceFor_108_p_wrong rfl rfl rfl dd_p_wrong ⟨Nat.le_of_ble_eq_true rfl, Nat.le_of_ble_eq_true rfl⟩) (preVy hP hK hD hE (ci := 2) (q0 := 27) rfl rfl) rfl rfl hl.1 rfl (lv_room (Nat.le_of_ble_eq_true rfl)) dX2_choiceFor_18 ⟨Nat.le_of_ble_eq_true rfl, Nat.le_of_ble_eq_true rfl⟩) hD hS hA (fun z2_ τ3_ H locs hq hP hD hS => ?_)
        obtain ⟨hτ3_, q4_⟩ := hq
        rw [hτ3_] at hP hD
        have hP : va_P (dC, dI) vwCl (xW κ (PL κ a φ ++ Y) σ) H := hP
        have hD : va_D A (xW κ (PL κ a φ ++ Y) σ) := hD
        have q4_ : 0 ≤ z2_.toInt ∧ z2_.toInt ≤ v3_.toInt := q4_
        refine W.widen (k := 0) (n := 0) (Nat.le_of_ble_eq_true rfl) (Nat.le_of_ble_eq_true rfl) ?_
        refine lv_istore (lv' := [(6, .int z2_), (3, .int v3_), (4, .int v4_), (5, .int v5_), (0, .ref a), (2, .int y)]) hx hb dX2_choiceFor_21 hl (Nat.le_of_ble_eq_true rfl) rfl (fun ls hl => ?_)
        refine lv_aload_n hx hb dX2_choiceFor_23 rfl (lv_at hl 4 rfl) ?_
        refine va_get (D := (dC, dI)) (ci := 2) (v := .ref (kA κ 29)) (C := RX2) (T := TX2) (N := 8) hx hb hts hin2 hown hK hP 27 rfl rfl 6 (Nat.le_of_ble_eq_true rfl) (ho (.fieldLink RX2 15 "NearEnough$Plan" "choices" "[I") (List.mem_of_getElem? (i := 0) rfl)) (fun _ h9 => h9) rfl dX2_choiceFor_24 ?_
        refine lv_iload hx hb dX2_choiceFor_27 (lv_at hl 3 rfl) ?_
        refine lv_sipush (v := 401) hx hb dX2_choiceFor_29 rx_a0035c103e ?_
        refine lv_imul hx hb dX2_choiceFor_32 ?_
        refine lv_topi (fun z5_ ez5_ => ?_)
        have o5 : -2147483648 ≤ v5_.toInt * 401 := by omega
        have o6 : v5_.toInt * 401 ≤ 2147483647 := by omega
        have tz5_ : z5_.toInt = v5_.toInt * 401 := ti_mul ez5_ rfl rx_50eca79386 o5 o6
        refine lv_iload hx hb dX2_choiceFor_33 (lv_at hl 0 rfl) ?_
        refine lv_iadd hx hb dX2_choiceFor_35 ?_
        refine lv_topi (fun z6_ ez6_ => ?_)
        have o7 : -2147483648 ≤ z5_.toInt + z2_.toInt := by omega
        have o8 : z5_.toInt + z2_.toInt ≤ 2147483647 := by omega
        have tz6_ : z6_.toInt = z5_.toInt + z2_.toInt := ti_add ez6_ rfl rfl o7 o8
        have o9 : 0 ≤ z6_.toInt := by omega
        have o10 : z6_.toInt < ((16040 : Nat) : Int) := by omega
        refine va_iald hx hb hK hP 28 23 rfl rfl (ti_inx o9 o10) dX2_choiceFor_36 ?_
        refine lv_topi (fun z7_ ez7_ => ?_)
        refine zs_i (va_runS (As := [.int z7_]) (rest := []) ⟨hx, hb, hml, hown, hts⟩ (k_choiceIn l dC dI z7_  H.size) (va_cwS 1 hts gd_p_choiceFor_111_k_choiceIn rfl rfl rfl dd_k_choiceIn ⟨Nat.le_of_ble_eq_true rfl, Nat.le_of_ble_eq_true rfl⟩) (preS (A := A) empP (hK.sub (tys' := []) [] rfl) empD hE.x) rfl rfl hl.1 rfl (lv_room (Nat.le_of_ble_eq_true rfl)) dX2_choiceFor_37 ⟨Nat.le_of_ble_eq_true rfl, Nat.le_of_ble_eq_true rfl⟩) hP hD hS hA (fun z8_ H locs hq hP hD hS => ?_)
        have q9_ : True := hq
        refine W.widen (k := 0) (n := 0) (Nat.le_of_ble_eq_true rfl) (Nat.le_of_ble_eq_true rfl) ?_
        refine lv_istore (lv' := [(4, .int z8_), (6, .int z2_), (3, .int v3_), (5, .int v5_), (0, .ref a), (2, .int y)]) hx hb dX2_choiceFor_40 hl (Nat.le_of_ble_eq_true rfl) rfl (fun ls hl => ?_)
        refine lv_iload_n hx hb dX2_choiceFor_42 rfl (lv_at hl 2 rfl) ?_
        refine lv_iload hx hb dX2_choiceFor_43 (lv_at hl 1 rfl) ?_
        refine lv_isub hx hb dX2_choiceFor_45 ?_
        refine lv_topi (fun z10_ ez10_ => ?_)
        have o11 : -2147483648 ≤ v3_.toInt - z2_.toInt := by omega
        have o12 : v3_.toInt - z2_.toInt ≤ 2147483647 := by omega
        have tz10_ : z10_.toInt = v3_.toInt - z2_.toInt := ti_sub ez10_ rfl rfl o11 o12
        refine lv_istore_n (lv' := [(3, .int z10_), (4, .int z8_), (6, .int z2_), (5, .int v5_), (0, .ref a), (2, .int y)]) hx hb dX2_choiceFor_46 rfl hl (Nat.le_of_ble_eq_true rfl) rfl (fun ls hl => ?_)
        obtain ⟨z11_, ez11_⟩ : ∃ y : Int32, y = v5_ + 1 := ⟨_, rfl⟩
        have o13 : -2147483648 ≤ v5_.toInt + 1 := by omega
        have o14 : v5_.toInt + 1 ≤ 2147483647 := by omega
        have tz11_ := ti_add ez11_ rfl rg_18 o13 o14
        refine lv_iinc (v := z11_) (lv' := [(5, .int z11_), (3, .int z10_), (4, .int z8_), (6, .int z2_), (0, .ref a), (2, .int y)]) hx hb dX2_choiceFor_47 hl (k := 3) rfl (iincp ez11_ rg_6) (Nat.le_of_ble_eq_true rfl) rfl (fun ls hl => ?_)
        refine lv_goto (tgt := 8) hx hb dX2_choiceFor_50 rfl ?_
        have o15 : (40 - z11_.toInt).toNat < n8_ := by omega
        have o16 : 0 ≤ z11_.toInt := by omega
        have o17 : 0 ≤ z10_.toInt := by omega
        have o18 : z10_.toInt ≤ 400 := by omega
        exact ih8_  z10_ z8_ z11_ _ _ _ o15 ⟨o16, o17, o18⟩ hP hD hS (lv_sub hl [1, 2, 0, 4, 5] rfl)
  have kk12_ : (0 : Int32).toInt = 0 := rg_11
  have kk13_ : (0 : Int32).toInt = 0 := rg_11
  have o19 : 0 ≤ (0 : Int32).toInt := by omega
  have o20 : 0 ≤ x.toInt := by omega
  have o21 : x.toInt ≤ 400 := by omega
  exact pt8_ _  x 0 0 _ _ _ (Nat.lt_succ_self _) ⟨o19, o20, o21⟩ hP hD hS (lv_sub hl [2, 1, 0, 3, 5] rfl)
def ow_p_prepare : List Cond := [.fieldLink RX2 9 "NearEnough$Plan" "itsEnd" "I", .fieldLink RX2 15 "NearEnough$Plan" "choices" "[I", .fieldLink RX2 19 "NearEnough$Plan" "saves" "[I", .fieldLink RX2 34 "NearEnough$Plan" "shown" "LNearEnough$Shown;", .fieldLink RX2 26 "NearEnough$Plan" "sheets" "LNearEnough$Sheets;", .fieldLink RX2 66 "NearEnough$Sheets" "count" "I", .fieldLink RX2 22 "NearEnough$Plan" "told" "LNearEnough$Program;", .fieldLink RX2 57 "NearEnough$Program" "endStep" "[I"]
def vs_p_prepare : List Cond := .code yX2_prepare cX2_prepare 3 none :: (ow_p_prepare ++ (([.methodLink RX2 42 yJ7_fill_53178, .static yJ7_fill_53178, .initialized yJ7_fill_53178.cls] : List Cond) ++ (vs_p_fillc ++ (vs_p_fills ++ (([.methodLink RX2 48 yX8_restart, .instanceMethod yX8_restart, .selects RX8 yX8_restart yX8_restart, .initialized RX8] : List Cond) ++ (vs_k_restart ++ (([.methodLink RX2 71 yX2_addUp, .instanceMethod yX2_addUp, .selects RX2 yX2_addUp yX2_addUp, .initialized RX2] : List Cond) ++ (vs_p_addUp ++ (([.methodLink RX2 53 yX8_next, .instanceMethod yX8_next, .selects RX8 yX8_next yX8_next, .initialized RX8] : List Cond) ++ (vs_k_next ++ (([.methodLink RX2 62 yX2_bringChoice, .instanceMethod yX2_bringChoice, .selects RX2 yX2_bringChoice yX2_bringChoice, .initialized RX2] : List Cond) ++ (vs_p_bring ++ (wsX20 ++ (wsX30 ++ (wsX70)))))))))))))))
theorem vg_p_prepare : vs_p_prepare.all goodWord = true := by decide +kernel
theorem dd_p_prepare : yX2_prepare.cls = RX2 ∧ yX2_prepare.cls ≠ "java/lang/invoke/MethodHandle" ∧ yX2_prepare.cls ≠ "java/lang/invoke/VarHandle" ∧ (parseMethodDescriptor yX2_prepare.desc).map (fun d => d.parameters.length) = some 1 := by decide +kernel
def rm_p_prepare : Room := { frames := 6, cells := 0, slots := 0, locals := 163 }
theorem gd_p_prepare_42_p_fillc : GoodIn vs_p_prepare (va_wsS RX2 42 yJ7_fill_53178 vs_p_fillc) := goodIn_app (goodIn_sub (fun w h => (List.mem_cons_of_mem _ (List.mem_append_right _ (List.mem_append_left _ h)))) (by decide +kernel)) (goodIn_sub (fun w h => (List.mem_cons_of_mem _ (List.mem_append_right _ (List.mem_append_right _ (List.mem_append_left _ h))))) vg_p_fillc)
theorem gd_p_prepare_42_p_fills : GoodIn vs_p_prepare (va_wsS RX2 42 yJ7_fill_53178 vs_p_fills) := goodIn_app (goodIn_sub (fun w h => (List.mem_cons_of_mem _ (List.mem_append_right _ (List.mem_append_left _ h)))) (by decide +kernel)) (goodIn_sub (fun w h => (List.mem_cons_of_mem _ (List.mem_append_right _ (List.mem_append_right _ (List.mem_append_right _ (List.mem_append_left _ h)))))) vg_p_fills)
theorem gd_p_prepare_48_k_restart : GoodIn vs_p_prepare (wsV RX2 48 RX8 yX8_restart vs_k_restart) := goodIn_app (goodIn_sub (fun w h => (List.mem_cons_of_mem _ (List.mem_append_right _ (List.mem_append_right _ (List.mem_append_right _ (List.mem_append_right _ (List.mem_append_left _ h))))))) (by decide +kernel)) (goodIn_sub (fun w h => (List.mem_cons_of_mem _ (List.mem_append_right _ (List.mem_append_right _ (List.mem_append_right _ (List.mem_append_right _ (List.mem_append_right _ (List.mem_append_left _ h)))))))) vg_k_restart)
theorem gd_p_prepare_71_p_addUp : GoodIn vs_p_prepare (wsV RX2 71 RX2 yX2_addUp vs_p_addUp) := goodIn_app (goodIn_sub (fun w h => (List.mem_cons_of_mem _ (List.mem_append_right _ (List.mem_append_right _ (List.mem_append_right _ (List.mem_append_right _ (List.mem_append_right _ (List.mem_append_right _ (List.mem_append_left _ h))))))))) (by decide +kernel)) (goodIn_sub (fun w h => (List.mem_cons_of_mem _ (List.mem_append_right _ (List.mem_append_right _ (List.mem_append_right _ (List.mem_append_right _ (List.mem_append_right _ (List.mem_append_right _ (List.mem_append_right _ (List.mem_append_left _ h)))))))))) vg_p_addUp)
theorem gd_p_prepare_53_k_next : GoodIn vs_p_prepare (wsV RX2 53 RX8 yX8_next vs_k_next) := goodIn_app (goodIn_sub (fun w h => (List.mem_cons_of_mem _ (List.mem_append_right _ (List.mem_append_right _ (List.mem_append_right _ (List.mem_append_right _ (List.mem_append_right _ (List.mem_append_right _ (List.mem_append_right _ (List.mem_append_right _ (List.mem_append_left _ h))))))))))) (by decide +kernel)) (goodIn_sub (fun w h => (List.mem_cons_of_mem _ (List.mem_append_right _ (List.mem_append_right _ (List.mem_append_right _ (List.mem_append_right _ (List.mem_append_right _ (List.mem_append_right _ (List.mem_append_right _ (List.mem_append_right _ (List.mem_append_right _ (List.mem_append_left _ h)))))))))))) vg_k_next)
theorem gd_p_prepare_62_p_bring : GoodIn vs_p_prepare (wsV RX2 62 RX2 yX2_bringChoice vs_p_bring) := goodIn_app (goodIn_sub (fun w h => (List.mem_cons_of_mem _ (List.mem_append_right _ (List.mem_append_right _ (List.mem_append_right _ (List.mem_append_right _ (List.mem_append_right _ (List.mem_append_right _ (List.mem_append_right _ (List.mem_append_right _ (List.mem_append_right _ (List.mem_append_right _ (List.mem_append_left _ h))))))))))))) (by decide +kernel)) (goodIn_sub (fun w h => (List.mem_cons_of_mem _ (List.mem_append_right _ (List.mem_append_right _ (List.mem_append_right _ (List.mem_append_right _ (List.mem_append_right _ (List.mem_append_right _ (List.mem_append_right _ (List.mem_append_right _ (List.mem_append_right _ (List.mem_append_right _ (List.mem_append_right _ (List.mem_append_left _ h)))))))))))))) vg_p_bring)
set_option maxHeartbeats 4000000 in
set_option maxRecDepth 100000 in
theorem p_prepare (l : Launch) (dC : Nat → ClassId) (dI : Nat → Nat → Nat) (κ : CE) (a : Nat) (Y : va_W) (sz : Nat) (φ σ : MS) (x : Int32) (hk : PInv κ) (hI : CInv σ) (hF : GInv φ) (hx0 : 0 ≤ x.toInt ∧ x.toInt < (pI κ 2).toInt) : Met l yX2_prepare vs_p_prepare rm_p_prepare (va_Pc [.ref a, .int x] (wSy dC dI (xW κ (PL κ a φ ++ Y) σ) (tT κ) sz)) (va_Qv (fun (u : MS × MS) => CInv u.2 ∧ GInv u.1 ∧ True) (fun (u : MS × MS) => wEn dC dI (va_A (xW κ (PL κ a φ ++ Y) σ) sz) (xW κ (PL κ a u.1 ++ Y) u.2) []) (va_A (xW κ (PL κ a φ ++ Y) σ) sz)) 0 0 (va_A (xW κ (PL κ a φ ++ Y) σ) sz) := by
  refine Met.ofW (cc := cX2_prepare) (maxL := 3) (ret := none) (by decide +kernel) rfl ?_
  intro p e s m args below meth c s₁ B hml hv
  obtain ⟨rfl, hsz, hP, hK, hD0, hE⟩ := hv
  have hx := B.exec
  have hb := B.bytes
  have hr := B.returns
  have hts := atoms_spec (ws := vs_p_prepare) B.pre
  have hown : s.vm.findClass RX2 = some m.cls := findClass_of_methodNamed B.named
  have hlocks := B.notSynchronized
  subst hsz
  have hD := hD0.self (sz := s.heap.size)
  generalize hAe : va_A (xW κ (PL κ a φ ++ Y) σ) s.heap.size = A at hD ⊢
  have hA : ∀ q : Nat, s.heap.size ≤ q → A q := fun q h => by rw [← hAe]; exact Or.inr h
  have hl := lv_entry ([.ref a, .int x]) (n := 3) (Nat.le_of_ble_eq_true rfl)
  rw [lg_entry_eq]
  generalize (lg_sl ([.ref a, .int x]) ++ List.replicate (3 - (lg_sl ([.ref a, .int x])).length) Slot.unset).toArray = ls at hl ⊢
  have hl : lv_has ls 3 [(0, .ref a), (1, .int x)] := hl
  have ho := fun w (h : w ∈ ow_p_prepare) => hts w (List.mem_cons_of_mem _ (List.mem_append_left _ h))
  have hin2 : ∀ w ∈ u_ws RX2 TX2 8, w ∈ vs_p_prepare := fun w h => (List.mem_cons_of_mem _ (List.mem_append_right _ (List.mem_append_right _ (List.mem_append_right _ (List.mem_append_right _ (List.mem_append_right _ (List.mem_append_right _ (List.mem_append_right _ (List.mem_append_right _ (List.mem_append_right _ (List.mem_append_right _ (List.mem_append_right _ (List.mem_append_right _ (List.mem_append_left _ h))))))))))))))
  have hin3 : ∀ w ∈ u_ws RX3 TX3 8, w ∈ vs_p_prepare := fun w h => (List.mem_cons_of_mem _ (List.mem_append_right _ (List.mem_append_right _ (List.mem_append_right _ (List.mem_append_right _ (List.mem_append_right _ (List.mem_append_right _ (List.mem_append_right _ (List.mem_append_right _ (List.mem_append_right _ (List.mem_append_right _ (List.mem_append_right _ (List.mem_append_right _ (List.mem_append_right _ (List.mem_append_left _ h)))))))))))))))
  have hin7 : ∀ w ∈ u_ws RX7 TX7 3, w ∈ vs_p_prepare := fun w h => (List.mem_cons_of_mem _ (List.mem_append_right _ (List.mem_append_right _ (List.mem_append_right _ (List.mem_append_right _ (List.mem_append_right _ (List.mem_append_right _ (List.mem_append_right _ (List.mem_append_right _ (List.mem_append_right _ (List.mem_append_right _ (List.mem_append_right _ (List.mem_append_right _ (List.mem_append_right _ (List.mem_append_right _ h)))))))))))))))
  refine zQ (fun Q hQ => ?_)
  refine zH (A := A) (ws := (xW κ (PL κ a φ ++ Y) σ)) (fun H hP hS => ?_) hP
  have hk0 := hk.1
  have hk1 := hk.2.1
  have hk2 := hk.2.2.1
  have hKc : va_K (dC, dI) vwCl (cT κ) s := hK.sub [0, 1, 2, 3, 4, 5, 6, 7, 8, 9, 10, 11, 12, 13, 14, 15, 16, 17, 18, 19, 20] rfl
  have bσ_12 : 0 ≤ (σ.1 12).toInt ∧ (σ.1 12).toInt ≤ 40 := hI.1 12
  refine lv_aload_n hx hb dX2_prepare_0 rfl (lv_at hl 0 rfl) ?_
  refine va_get (D := (dC, dI)) (ci := 2) (v := .int (φ.1 1)) (C := RX2) (T := TX2) (N := 8) hx hb hts hin2 hown hK hP 27 rfl rfl 5 (Nat.le_of_ble_eq_true rfl) (ho (.fieldLink RX2 9 "NearEnough$Plan" "itsEnd" "I") (List.mem_of_getElem? (i := 0) rfl)) (fun _ h9 => h9) rfl dX2_prepare_1 ?_
  refine lv_iload_n hx hb dX2_prepare_4 rfl (lv_at hl 1 rfl) ?_
  refine lv_icmp_ne (tgt := 9) hx hb dX2_prepare_5 rfl (fun c1_ => ?_) (fun c1_ => ?_)
  · have tc1_ := (show (φ.1 1).toInt ≠ x.toInt from ti_ne rfl rfl c1_)
    refine lv_aload_n hx hb dX2_prepare_9 rfl (lv_at hl 0 rfl) ?_
    refine lv_iload_n hx hb dX2_prepare_10 rfl (lv_at hl 1 rfl) ?_
    refine va_put (D := (dC, dI)) (ci := 2) (v := .int x) (ty := tyX2 5) (C := RX2) (T := TX2) (N := 8) hx hb hts hin2 tyX2 tyX2_ok nmX2 hown hK hP hD hS 27 rfl rfl 5 (Nat.le_of_ble_eq_true rfl) (ho (.fieldLink RX2 9 "NearEnough$Plan" "itsEnd" "I") (List.mem_of_getElem? (i := 0) rfl)) (fun _ h9 => h9) rfl (tyX2_ok 5 (Nat.le_of_ble_eq_true rfl)) rfl rfl (Nat.le_of_ble_eq_true rfl) dX2_prepare_11 (fun H locs hP hD hS => ?_)
    have hP : va_P (dC, dI) vwCl (xW κ (PL κ a (sI φ 1 x) ++ Y) σ) H := hP
    have hD : va_D A (xW κ (PL κ a (sI φ 1 x) ++ Y) σ) := hD
    refine lv_aload_n hx hb dX2_prepare_14 rfl (lv_at hl 0 rfl) ?_
    refine va_get (D := (dC, dI)) (ci := 2) (v := .ref (kA κ 29)) (C := RX2) (T := TX2) (N := 8) hx hb hts hin2 hown hK hP 27 rfl rfl 6 (Nat.le_of_ble_eq_true rfl) (ho (.fieldLink RX2 15 "NearEnough$Plan" "choices" "[I") (List.mem_of_getElem? (i := 1) rfl)) (fun _ h9 => h9) rfl dX2_prepare_15 ?_
    refine lv_iconst (v := (-1)) hx hb dX2_prepare_18 rg_53 ?_
    refine zy_v (va_runS (As := [.ref (kA κ 29), .int (-1)]) (rest := []) ⟨hx, hb, hml, hown, hts⟩ (p_fillc l dC dI κ a Y H.size (sI φ 1 x) σ  hk hI trivial ) (va_cwS 2 hts gd_p_prepare_42_p_fillc rfl rfl rfl dd_p_fillc ⟨Nat.le_of_ble_eq_true rfl, Nat.le_of_ble_eq_true rfl⟩) (preSy hP hK hD hE) rfl rfl hl.1 rfl (lv_room (Nat.le_of_ble_eq_true rfl)) dX2_prepare_19 ⟨Nat.le_of_ble_eq_true rfl, Nat.le_of_ble_eq_true rfl⟩) hD hS hA (fun τ3_ H locs hq hP hD hS => ?_)
    obtain ⟨φ5_, τ6_⟩ := τ3_
    obtain ⟨hτ6_, hφ5_, q4_⟩ := hq
    have hP : va_P (dC, dI) vwCl (xW κ (PL κ a φ5_ ++ Y) τ6_) H := hP
    have hD : va_D A (xW κ (PL κ a φ5_ ++ Y) τ6_) := hD
    have bτ6__12 : 0 ≤ (τ6_.1 12).toInt ∧ (τ6_.1 12).toInt ≤ 40 := hτ6_.1 12
    refine W.widen (k := 0) (n := 0) (Nat.le_of_ble_eq_true rfl) (Nat.le_of_ble_eq_true rfl) ?_
    refine lv_aload_n hx hb dX2_prepare_22 rfl (lv_at hl 0 rfl) ?_
    refine va_get (D := (dC, dI)) (ci := 2) (v := .ref (kA κ 30)) (C := RX2) (T := TX2) (N := 8) hx hb hts hin2 hown hK hP 27 rfl rfl 7 (Nat.le_of_ble_eq_true rfl) (ho (.fieldLink RX2 19 "NearEnough$Plan" "saves" "[I") (List.mem_of_getElem? (i := 2) rfl)) (fun _ h9 => h9) rfl dX2_prepare_23 ?_
    refine lv_iconst (v := 0) hx hb dX2_prepare_26 rg_0 ?_
    refine zy_v (va_runS (As := [.ref (kA κ 30), .int 0]) (rest := []) ⟨hx, hb, hml, hown, hts⟩ (p_fills l dC dI κ a Y H.size φ5_ τ6_  hk hτ6_ trivial ) (va_cwS 2 hts gd_p_prepare_42_p_fills rfl rfl rfl dd_p_fills ⟨Nat.le_of_ble_eq_true rfl, Nat.le_of_ble_eq_true rfl⟩) (preSy hP hK hD hE) rfl rfl hl.1 rfl (lv_room (Nat.le_of_ble_eq_true rfl)) dX2_prepare_27 ⟨Nat.le_of_ble_eq_true rfl, Nat.le_of_ble_eq_true rfl⟩) hD hS hA (fun τ8_ H locs hq hP hD hS => ?_)
    obtain ⟨φ10_, τ11_⟩ := τ8_
    obtain ⟨hτ11_, hφ10_, q9_⟩ := hq
    have hP : va_P (dC, dI) vwCl (xW κ (PL κ a φ10_ ++ Y) τ11_) H := hP
    have hD : va_D A (xW κ (PL κ a φ10_ ++ Y) τ11_) := hD
    have bτ11__12 : 0 ≤ (τ11_.1 12).toInt ∧ (τ11_.1 12).toInt ≤ 40 := hτ11_.1 12
    refine W.widen (k := 0) (n := 0) (Nat.le_of_ble_eq_true rfl) (Nat.le_of_ble_eq_true rfl) ?_
    refine lv_aload_n hx hb dX2_prepare_30 rfl (lv_at hl 0 rfl) ?_
    refine va_get (D := (dC, dI)) (ci := 2) (v := .ref (kA κ 21)) (C := RX2) (T := TX2) (N := 8) hx hb hts hin2 hown hK hP 27 rfl rfl 3 (Nat.le_of_ble_eq_true rfl) (ho (.fieldLink RX2 34 "NearEnough$Plan" "shown" "LNearEnough$Shown;") (List.mem_of_getElem? (i := 3) rfl)) (fun _ h9 => h9) rfl dX2_prepare_31 ?_
    refine zy_v (va_runV (As := []) (rest := []) ⟨hx, hb, hml, hown, hts⟩ (k_restart l dC dI (ky κ (PL κ a φ10_ ++ Y)) H.size τ11_  hk hτ11_ ) (cwV 0 hts gd_p_prepare_48_k_restart rfl rfl rfl dd_k_restart ⟨Nat.le_of_ble_eq_true rfl, Nat.le_of_ble_eq_true rfl⟩) (preVy (xcP hP) hKc (xcD hD) hE (ci := 8) (q0 := 21) rfl rfl) rfl rfl hl.1 rfl (lv_room (Nat.le_of_ble_eq_true rfl)) dX2_prepare_34 ⟨Nat.le_of_ble_eq_true rfl, Nat.le_of_ble_eq_true rfl⟩) (xcD hD) hS hA (fun τ13_ H locs hq hP hD hS => ?_)
    obtain ⟨hτ13_, q14_⟩ := hq
    have bτ13__12 : 0 ≤ (τ13_.1 12).toInt ∧ (τ13_.1 12).toInt ≤ 40 := hτ13_.1 12
    have hP : va_P (dC, dI) vwCl (xW κ (PL κ a φ10_ ++ Y) τ13_) H := cxP hP
    have hD : va_D A (xW κ (PL κ a φ10_ ++ Y) τ13_) := cxD hD
    refine W.widen (k := 0) (n := 0) (Nat.le_of_ble_eq_true rfl) (Nat.le_of_ble_eq_true rfl) ?_
    refine lv_iconst (v := 0) hx hb dX2_prepare_37 rg_0 ?_
    refine lv_istore_n (lv' := [(2, .int 0), (0, .ref a), (1, .int x)]) hx hb dX2_prepare_38 rfl hl (Nat.le_of_ble_eq_true rfl) rfl (fun ls hl => ?_)
    have pt39_ : ∀ (n39_ : Nat) (φ39_ : MS) (σ39_ : MS) (v2_ : Int32) (H : Heap) (locs : List Loc) (ls : Array Slot), (4096 - v2_.toInt).toNat < n39_ → CInv σ39_ → GInv φ39_ → (0 ≤ v2_.toInt) → va_P (dC, dI) vwCl (xW κ (PL κ a φ39_ ++ Y) σ39_) H → va_D A (xW κ (PL κ a φ39_ ++ Y) σ39_) → va_S A s.heap H locs → lv_has ls 3 [(2, .int v2_), (0, .ref a), (1, .int x)] → W p l e (headSpec vs_p_prepare rm_p_prepare).room s m #[Value.ref a, Value.int x] below meth c H locs 0 0 Q (F0 m 39 ls []) := by
      intro n39_
      induction n39_ with
      | zero => intro φ39_ σ39_ v2_ H locs ls hn39_ hIσ39_ hFφ39_ hf39_0_ hP hD hS hl; exact absurd hn39_ (Nat.not_lt_zero _)
      | succ n39_ ih39_ =>
        intro φ39_ σ39_ v2_ H locs ls hn39_ hIσ39_ hFφ39_ hf39_0_ hP hD hS hl
        have bσ39__12 : 0 ≤ (σ39_.1 12).toInt ∧ (σ39_.1 12).toInt ≤ 40 := hIσ39_.1 12
        refine lv_iload_n hx hb dX2_prepare_39 rfl (lv_at hl 0 rfl) ?_
        refine lv_sipush (v := 4096) hx hb dX2_prepare_40 rx_5b0cde361b ?_
        refine lv_icmp_ge (tgt := 75) hx hb dX2_prepare_43 rfl (fun c15_ => ?_) (fun c15_ => ?_)
        · have tc15_ := (show 4096 ≤ v2_.toInt from ti_le rx_5cf37c826d rfl c15_)
          refine lv_aload_n hx hb dX2_prepare_75 rfl (lv_at hl 1 rfl) ?_
          refine va_get (D := (dC, dI)) (ci := 2) (v := .ref (kA κ 12)) (C := RX2) (T := TX2) (N := 8) hx hb hts hin2 hown hK hP 27 rfl rfl 1 (Nat.le_of_ble_eq_true rfl) (ho (.fieldLink RX2 26 "NearEnough$Plan" "sheets" "LNearEnough$Sheets;") (List.mem_of_getElem? (i := 4) rfl)) (fun _ h9 => h9) rfl dX2_prepare_76 ?_
          have bσ39__12 : 0 ≤ (σ39_.1 12).toInt ∧ (σ39_.1 12).toInt ≤ 40 := hIσ39_.1 12
          refine va_get (D := (dC, dI)) (ci := 7) (v := .int (σ39_.1 12)) (C := RX7) (T := TX7) (N := 3) hx hb hts hin7 hown hK hP 12 rfl rfl 2 (Nat.le_of_ble_eq_true rfl) (ho (.fieldLink RX2 66 "NearEnough$Sheets" "count" "I") (List.mem_of_getElem? (i := 5) rfl)) (fun _ h9 => h9) rfl dX2_prepare_79 ?_
          refine lv_iconst (v := 1) hx hb dX2_prepare_82 rg_6 ?_
          refine lv_isub hx hb dX2_prepare_83 ?_
          refine lv_topi (fun z16_ ez16_ => ?_)
          have o1 : -2147483648 ≤ (σ39_.1 12).toInt - 1 := by omega
          have o2 : (σ39_.1 12).toInt - 1 ≤ 2147483647 := by omega
          have tz16_ : z16_.toInt = (σ39_.1 12).toInt - 1 := ti_sub ez16_ rfl rg_18 o1 o2
          refine lv_istore_n (lv' := [(2, .int z16_), (0, .ref a), (1, .int x)]) hx hb dX2_prepare_84 rfl hl (Nat.le_of_ble_eq_true rfl) rfl (fun ls hl => ?_)
          have pt85_ : ∀ (n85_ : Nat) (φ85_ : MS) (σ85_ : MS) (v2_ : Int32) (H : Heap) (locs : List Loc) (ls : Array Slot), (v2_.toInt + 1).toNat < n85_ → CInv σ85_ → GInv φ85_ → (-1 ≤ v2_.toInt ∧ v2_.toInt ≤ 39) → va_P (dC, dI) vwCl (xW κ (PL κ a φ85_ ++ Y) σ85_) H → va_D A (xW κ (PL κ a φ85_ ++ Y) σ85_) → va_S A s.heap H locs → lv_has ls 3 [(2, .int v2_), (0, .ref a)] → W p l e (headSpec vs_p_prepare rm_p_prepare).room s m #[Value.ref a, Value.int x] below meth c H locs 0 0 Q (F0 m 85 ls []) := by
            intro n85_
            induction n85_ with
            | zero => intro φ85_ σ85_ v2_ H locs ls hn85_ hIσ85_ hFφ85_ hf85_0_ hP hD hS hl; exact absurd hn85_ (Nat.not_lt_zero _)
            | succ n85_ ih85_ =>
              intro φ85_ σ85_ v2_ H locs ls hn85_ hIσ85_ hFφ85_ hf85_0_ hP hD hS hl
              have bσ85__12 : 0 ≤ (σ85_.1 12).toInt ∧ (σ85_.1 12).toInt ≤ 40 := hIσ85_.1 12
              refine lv_iload_n hx hb dX2_prepare_85 rfl (lv_at hl 0 rfl) ?_
              refine lv_if_lt (tgt := 100) hx hb dX2_prepare_86 rfl (fun c17_ => ?_) (fun c17_ => ?_)
              · have tc17_ := (show v2_.toInt < 0 from ti_lt rfl rg_11 c17_)
                rw [hQ]
                exact W.vret hx hb hr (fun t ht hW => ⟨⟨(φ85_, σ85_), rfl, ⟨hIσ85_, trivial, trivial⟩, wEn_of hP (hK.sub [] rfl) hD ht hW⟩, hS.F ht⟩) hS.2.2 dX2_prepare_100
              · have tc17_ := (show 0 ≤ v2_.toInt from ti_nlt rfl rg_11 c17_)
                refine lv_aload_n hx hb dX2_prepare_89 rfl (lv_at hl 1 rfl) ?_
                refine lv_iload_n hx hb dX2_prepare_90 rfl (lv_at hl 0 rfl) ?_
                have o3 : 0 ≤ v2_.toInt := by omega
                have o4 : v2_.toInt ≤ 39 := by omega
                refine zy_v (va_runV (As := [.int v2_]) (rest := []) ⟨hx, hb, hml, hown, hts⟩ (p_addUp l dC dI κ a Y H.size φ85_ σ85_ v2_ hk hIσ85_ trivial ⟨o3, o4⟩) (cwV 1 hts gd_p_prepare_71_p_addUp rfl rfl rfl dd_p_addUp ⟨Nat.le_of_ble_eq_true rfl, Nat.le_of_ble_eq_true rfl⟩) (preVy hP hK hD hE (ci := 2) (q0 := 27) rfl rfl) rfl rfl hl.1 rfl (lv_room (Nat.le_of_ble_eq_true rfl)) dX2_prepare_91 ⟨Nat.le_of_ble_eq_true rfl, Nat.le_of_ble_eq_true rfl⟩) hD hS hA (fun τ19_ H locs hq hP hD hS => ?_)
                obtain ⟨φ21_, τ22_⟩ := τ19_
                obtain ⟨hτ22_, hφ21_, q20_⟩ := hq
                have hP : va_P (dC, dI) vwCl (xW κ (PL κ a φ21_ ++ Y) τ22_) H := hP
                have hD : va_D A (xW κ (PL κ a φ21_ ++ Y) τ22_) := hD
                have bτ22__12 : 0 ≤ (τ22_.1 12).toInt ∧ (τ22_.1 12).toInt ≤ 40 := hτ22_.1 12
                refine W.widen (k := 0) (n := 0) (Nat.le_of_ble_eq_true rfl) (Nat.le_of_ble_eq_true rfl) ?_
                obtain ⟨z23_, ez23_⟩ : ∃ y : Int32, y = v2_ + (-1) := ⟨_, rfl⟩
                have o5 : -2147483648 ≤ v2_.toInt + (-1) := by omega
                have o6 : v2_.toInt + (-1) ≤ 2147483647 := by omega
                have tz23_ := ti_add ez23_ rfl rg_489 o5 o6
                refine lv_iinc (v := z23_) (lv' := [(2, .int z23_), (0, .ref a)]) hx hb dX2_prepare_94 hl (k := 0) rfl (iincp ez23_ rg_53) (Nat.le_of_ble_eq_true rfl) rfl (fun ls hl => ?_)
                refine lv_goto (tgt := 85) hx hb dX2_prepare_97 rfl ?_
                have o7 : (z23_.toInt + 1).toNat < n85_ := by omega
                have o8 : -1 ≤ z23_.toInt := by omega
                have o9 : z23_.toInt ≤ 39 := by omega
                exact ih85_ φ21_ τ22_ z23_ _ _ _ o7 hτ22_ trivial ⟨o8, o9⟩ hP hD hS (lv_sub hl [0, 1] rfl)
          have o10 : -1 ≤ z16_.toInt := by omega
          have o11 : z16_.toInt ≤ 39 := by omega
          exact pt85_ _ φ39_ σ39_ z16_ _ _ _ (Nat.lt_succ_self _) hIσ39_ trivial ⟨o10, o11⟩ hP hD hS (lv_sub hl [0, 1] rfl)
        · have tc15_ := (show v2_.toInt < 4096 from ti_nle rx_5cf37c826d rfl c15_)
          refine lv_aload_n hx hb dX2_prepare_46 rfl (lv_at hl 1 rfl) ?_
          refine va_get (D := (dC, dI)) (ci := 2) (v := .ref (kA κ 21)) (C := RX2) (T := TX2) (N := 8) hx hb hts hin2 hown hK hP 27 rfl rfl 3 (Nat.le_of_ble_eq_true rfl) (ho (.fieldLink RX2 34 "NearEnough$Plan" "shown" "LNearEnough$Shown;") (List.mem_of_getElem? (i := 3) rfl)) (fun _ h9 => h9) rfl dX2_prepare_47 ?_
          refine zy_i (va_runV (As := []) (rest := []) ⟨hx, hb, hml, hown, hts⟩ (k_next l dC dI (ky κ (PL κ a φ39_ ++ Y)) H.size σ39_  hk hIσ39_ ) (cwV 0 hts gd_p_prepare_53_k_next rfl rfl rfl dd_k_next ⟨Nat.le_of_ble_eq_true rfl, Nat.le_of_ble_eq_true rfl⟩) (preVy (xcP hP) hKc (xcD hD) hE (ci := 8) (q0 := 21) rfl rfl) rfl rfl hl.1 rfl (lv_room (Nat.le_of_ble_eq_true rfl)) dX2_prepare_50 ⟨Nat.le_of_ble_eq_true rfl, Nat.le_of_ble_eq_true rfl⟩) (xcD hD) hS hA (fun z24_ τ25_ H locs hq hP hD hS => ?_)
          obtain ⟨hτ25_, q26_⟩ := hq
          have bτ25__12 : 0 ≤ (τ25_.1 12).toInt ∧ (τ25_.1 12).toInt ≤ 40 := hτ25_.1 12
          have hP : va_P (dC, dI) vwCl (xW κ (PL κ a φ39_ ++ Y) τ25_) H := cxP hP
          have hD : va_D A (xW κ (PL κ a φ39_ ++ Y) τ25_) := cxD hD
          have q26_ : z24_.toInt = 0 ∨ z24_.toInt = 1 := q26_
          refine W.widen (k := 0) (n := 0) (Nat.le_of_ble_eq_true rfl) (Nat.le_of_ble_eq_true rfl) ?_
          refine lv_if_eq (tgt := 75) hx hb dX2_prepare_53 rfl (fun c27_ => ?_) (fun c27_ => ?_)
          · have tc27_ := (show z24_.toInt = 0 from ti_eq rfl rg_11 c27_)
            refine lv_aload_n hx hb dX2_prepare_75 rfl (lv_at hl 1 rfl) ?_
            refine va_get (D := (dC, dI)) (ci := 2) (v := .ref (kA κ 12)) (C := RX2) (T := TX2) (N := 8) hx hb hts hin2 hown hK hP 27 rfl rfl 1 (Nat.le_of_ble_eq_true rfl) (ho (.fieldLink RX2 26 "NearEnough$Plan" "sheets" "LNearEnough$Sheets;") (List.mem_of_getElem? (i := 4) rfl)) (fun _ h9 => h9) rfl dX2_prepare_76 ?_
            have bτ25__12 : 0 ≤ (τ25_.1 12).toInt ∧ (τ25_.1 12).toInt ≤ 40 := hτ25_.1 12
            refine va_get (D := (dC, dI)) (ci := 7) (v := .int (τ25_.1 12)) (C := RX7) (T := TX7) (N := 3) hx hb hts hin7 hown hK hP 12 rfl rfl 2 (Nat.le_of_ble_eq_true rfl) (ho (.fieldLink RX2 66 "NearEnough$Sheets" "count" "I") (List.mem_of_getElem? (i := 5) rfl)) (fun _ h9 => h9) rfl dX2_prepare_79 ?_
            refine lv_iconst (v := 1) hx hb dX2_prepare_82 rg_6 ?_
            refine lv_isub hx hb dX2_prepare_83 ?_
            refine lv_topi (fun z28_ ez28_ => ?_)
            have o12 : -2147483648 ≤ (τ25_.1 12).toInt - 1 := by omega
            have o13 : (τ25_.1 12).toInt - 1 ≤ 2147483647 := by omega
            have tz28_ : z28_.toInt = (τ25_.1 12).toInt - 1 := ti_sub ez28_ rfl rg_18 o12 o13
            refine lv_istore_n (lv' := [(2, .int z28_), (0, .ref a), (1, .int x)]) hx hb dX2_prepare_84 rfl hl (Nat.le_of_ble_eq_true rfl) rfl (fun ls hl => ?_)
            have pt85_ : ∀ (n85_ : Nat) (φ85_ : MS) (σ85_ : MS) (v2_ : Int32) (H : Heap) (locs : List Loc) (ls : Array Slot), (v2_.toInt + 1).toNat < n85_ → CInv σ85_ → GInv φ85_ → (-1 ≤ v2_.toInt ∧ v2_.toInt ≤ 39) → va_P (dC, dI) vwCl (xW κ (PL κ a φ85_ ++ Y) σ85_) H → va_D A (xW κ (PL κ a φ85_ ++ Y) σ85_) → va_S A s.heap H locs → lv_has ls 3 [(2, .int v2_), (0, .ref a)] → W p l e (headSpec vs_p_prepare rm_p_prepare).room s m #[Value.ref a, Value.int x] below meth c H locs 0 0 Q (F0 m 85 ls []) := by
              intro n85_
              induction n85_ with
              | zero => intro φ85_ σ85_ v2_ H locs ls hn85_ hIσ85_ hFφ85_ hf85_0_ hP hD hS hl; exact absurd hn85_ (Nat.not_lt_zero _)
              | succ n85_ ih85_ =>
                intro φ85_ σ85_ v2_ H locs ls hn85_ hIσ85_ hFφ85_ hf85_0_ hP hD hS hl
                have bσ85__12 : 0 ≤ (σ85_.1 12).toInt ∧ (σ85_.1 12).toInt ≤ 40 := hIσ85_.1 12
                refine lv_iload_n hx hb dX2_prepare_85 rfl (lv_at hl 0 rfl) ?_
                refine lv_if_lt (tgt := 100) hx hb dX2_prepare_86 rfl (fun c29_ => ?_) (fun c29_ => ?_)
                · have tc29_ := (show v2_.toInt < 0 from ti_lt rfl rg_11 c29_)
                  rw [hQ]
                  exact W.vret hx hb hr (fun t ht hW => ⟨⟨(φ85_, σ85_), rfl, ⟨hIσ85_, trivial, trivial⟩, wEn_of hP (hK.sub [] rfl) hD ht hW⟩, hS.F ht⟩) hS.2.2 dX2_prepare_100
                · have tc29_ := (show 0 ≤ v2_.toInt from ti_nlt rfl rg_11 c29_)
                  refine lv_aload_n hx hb dX2_prepare_89 rfl (lv_at hl 1 rfl) ?_
                  refine lv_iload_n hx hb dX2_prepare_90 rfl (lv_at hl 0 rfl) ?_
                  have o14 : 0 ≤ v2_.toInt := by omega
                  have o15 : v2_.toInt ≤ 39 := by omega
                  refine zy_v (va_runV (As := [.int v2_]) (rest := []) ⟨hx, hb, hml, hown, hts⟩ (p_addUp l dC dI κ a Y H.size φ85_ σ85_ v2_ hk hIσ85_ trivial ⟨o14, o15⟩) (cwV 1 hts gd_p_prepare_71_p_addUp rfl rfl rfl dd_p_addUp ⟨Nat.le_of_ble_eq_true rfl, Nat.le_of_ble_eq_true rfl⟩) (preVy hP hK hD hE (ci := 2) (q0 := 27) rfl rfl) rfl rfl hl.1 rfl (lv_room (Nat.le_of_ble_eq_true rfl)) dX2_prepare_91 ⟨Nat.le_of_ble_eq_true rfl, Nat.le_of_ble_eq_true rfl⟩) hD hS hA (fun τ31_ H locs hq hP hD hS => ?_)
                  obtain ⟨φ33_, τ34_⟩ := τ31_
                  obtain ⟨hτ34_, hφ33_, q32_⟩ := hq
                  have hP : va_P (dC, dI) vwCl (xW κ (PL κ a φ33_ ++ Y) τ34_) H := hP
                  have hD : va_D A (xW κ (PL κ a φ33_ ++ Y) τ34_) := hD
                  have bτ34__12 : 0 ≤ (τ34_.1 12).toInt ∧ (τ34_.1 12).toInt ≤ 40 := hτ34_.1 12
                  refine W.widen (k := 0) (n := 0) (Nat.le_of_ble_eq_true rfl) (Nat.le_of_ble_eq_true rfl) ?_
                  obtain ⟨z35_, ez35_⟩ : ∃ y : Int32, y = v2_ + (-1) := ⟨_, rfl⟩
                  have o16 : -2147483648 ≤ v2_.toInt + (-1) := by omega
                  have o17 : v2_.toInt + (-1) ≤ 2147483647 := by omega
                  have tz35_ := ti_add ez35_ rfl rg_489 o16 o17
                  refine lv_iinc (v := z35_) (lv' := [(2, .int z35_), (0, .ref a)]) hx hb dX2_prepare_94 hl (k := 0) rfl (iincp ez35_ rg_53) (Nat.le_of_ble_eq_true rfl) rfl (fun ls hl => ?_)
                  refine lv_goto (tgt := 85) hx hb dX2_prepare_97 rfl ?_
                  have o18 : (z35_.toInt + 1).toNat < n85_ := by omega
                  have o19 : -1 ≤ z35_.toInt := by omega
                  have o20 : z35_.toInt ≤ 39 := by omega
                  exact ih85_ φ33_ τ34_ z35_ _ _ _ o18 hτ34_ trivial ⟨o19, o20⟩ hP hD hS (lv_sub hl [0, 1] rfl)
            have o21 : -1 ≤ z28_.toInt := by omega
            have o22 : z28_.toInt ≤ 39 := by omega
            exact pt85_ _ φ39_ τ25_ z28_ _ _ _ (Nat.lt_succ_self _) hτ25_ trivial ⟨o21, o22⟩ hP hD hS (lv_sub hl [0, 1] rfl)
          · have tc27_ := (show z24_.toInt ≠ 0 from ti_ne rfl rg_11 c27_)
            refine lv_aload_n hx hb dX2_prepare_56 rfl (lv_at hl 1 rfl) ?_
            refine lv_aload_n hx hb dX2_prepare_57 rfl (lv_at hl 1 rfl) ?_
            refine va_get (D := (dC, dI)) (ci := 2) (v := .ref (kA κ 6)) (C := RX2) (T := TX2) (N := 8) hx hb hts hin2 hown hK hP 27 rfl rfl 0 (Nat.le_of_ble_eq_true rfl) (ho (.fieldLink RX2 22 "NearEnough$Plan" "told" "LNearEnough$Program;") (List.mem_of_getElem? (i := 6) rfl)) (fun _ h9 => h9) rfl dX2_prepare_58 ?_
            refine va_get (D := (dC, dI)) (ci := 3) (v := .ref (kA κ 9)) (C := RX3) (T := TX3) (N := 8) hx hb hts hin3 hown hK hP 6 rfl rfl 2 (Nat.le_of_ble_eq_true rfl) (ho (.fieldLink RX2 57 "NearEnough$Program" "endStep" "[I") (List.mem_of_getElem? (i := 7) rfl)) (fun _ h9 => h9) rfl dX2_prepare_61 ?_
            refine lv_iload_n hx hb dX2_prepare_64 rfl (lv_at hl 2 rfl) ?_
            have o23 : 0 ≤ x.toInt := by omega
            have o24 : x.toInt < ((4 : Nat) : Int) := by omega
            refine va_iald hx hb hK hP 9 7 rfl rfl (ti_inx o23 o24) dX2_prepare_65 ?_
            refine lv_topi (fun z36_ ez36_ => ?_)
            have o25 : x.toInt < (pI κ 2).toInt := by omega
            have bz36_ := hk.en ez36_ o23 o25
            have o26 : 0 ≤ z36_.toInt := by omega
            have o27 : z36_.toInt < (pI κ 1).toInt := by omega
            refine zy_v (va_runV (As := [.int z36_]) (rest := []) ⟨hx, hb, hml, hown, hts⟩ (p_bring l dC dI κ a Y H.size φ39_ τ25_ z36_ hk hτ25_ trivial ⟨o26, o27⟩) (cwV 1 hts gd_p_prepare_62_p_bring rfl rfl rfl dd_p_bring ⟨Nat.le_of_ble_eq_true rfl, Nat.le_of_ble_eq_true rfl⟩) (preVy hP hK hD hE (ci := 2) (q0 := 27) rfl rfl) rfl rfl hl.1 rfl (lv_room (Nat.le_of_ble_eq_true rfl)) dX2_prepare_66 ⟨Nat.le_of_ble_eq_true rfl, Nat.le_of_ble_eq_true rfl⟩) hD hS hA (fun τ38_ H locs hq hP hD hS => ?_)
            obtain ⟨φ40_, τ41_⟩ := τ38_
            obtain ⟨hτ41_, hφ40_, q39_⟩ := hq
            have hP : va_P (dC, dI) vwCl (xW κ (PL κ a φ40_ ++ Y) τ41_) H := hP
            have hD : va_D A (xW κ (PL κ a φ40_ ++ Y) τ41_) := hD
            have bτ41__12 : 0 ≤ (τ41_.1 12).toInt ∧ (τ41_.1 12).toInt ≤ 40 := hτ41_.1 12
            refine W.widen (k := 0) (n := 0) (Nat.le_of_ble_eq_true rfl) (Nat.le_of_ble_eq_true rfl) ?_
            obtain ⟨z42_, ez42_⟩ : ∃ y : Int32, y = v2_ + 1 := ⟨_, rfl⟩
            have o28 : -2147483648 ≤ v2_.toInt + 1 := by omega
            have o29 : v2_.toInt + 1 ≤ 2147483647 := by omega
            have tz42_ := ti_add ez42_ rfl rg_18 o28 o29
            refine lv_iinc (v := z42_) (lv' := [(2, .int z42_), (0, .ref a), (1, .int x)]) hx hb dX2_prepare_69 hl (k := 0) rfl (iincp ez42_ rg_6) (Nat.le_of_ble_eq_true rfl) rfl (fun ls hl => ?_)
            refine lv_goto (tgt := 39) hx hb dX2_prepare_72 rfl ?_
            have o30 : (4096 - z42_.toInt).toNat < n39_ := by omega
            have o31 : 0 ≤ z42_.toInt := by omega
            exact ih39_ φ40_ τ41_ z42_ _ _ _ o30 hτ41_ trivial o31 hP hD hS (lv_sub hl [0, 1, 2] rfl)
    have kk43_ : (0 : Int32).toInt = 0 := rg_11
    have o32 : 0 ≤ (0 : Int32).toInt := by omega
    exact pt39_ _ φ10_ τ13_ 0 _ _ _ (Nat.lt_succ_self _) hτ13_ trivial o32 hP hD hS (lv_sub hl [0, 1, 2] rfl)
  · have tc1_ := (show (φ.1 1).toInt = x.toInt from ti_eq rfl rfl c1_)
    rw [hQ]
    exact W.vret hx hb hr (fun t ht hW => ⟨⟨(φ, σ), rfl, ⟨hI, trivial, trivial⟩, wEn_of hP (hK.sub [] rfl) hD ht hW⟩, hS.F ht⟩) hS.2.2 dX2_prepare_8
