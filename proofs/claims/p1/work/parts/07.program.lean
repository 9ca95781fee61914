theorem dX6_init_0 : decode cX6_init 0 = .ok (.aload_n 0, 1) := by decide +kernel
theorem dX6_init_1 : decode cX6_init 1 = .ok (.invokespecial 1, 3) := by decide +kernel
theorem dX6_init_4 : decode cX6_init 4 = .ok (.aload_n 0, 1) := by decide +kernel
theorem dX6_init_5 : decode cX6_init 5 = .ok (.iconst 0, 1) := by decide +kernel
theorem dX6_init_6 : decode cX6_init 6 = .ok (.putfield 7, 3) := by decide +kernel
theorem dX6_init_9 : decode cX6_init 9 = .ok (.aload_n 0, 1) := by decide +kernel
theorem dX6_init_10 : decode cX6_init 10 = .ok (.iconst 0, 1) := by decide +kernel
theorem dX6_init_11 : decode cX6_init 11 = .ok (.putfield 13, 3) := by decide +kernel
theorem dX6_init_14 : decode cX6_init 14 = .ok (.aload_n 0, 1) := by decide +kernel
theorem dX6_init_15 : decode cX6_init 15 = .ok (.iconst 0, 1) := by decide +kernel
theorem dX6_init_16 : decode cX6_init 16 = .ok (.putfield 16, 3) := by decide +kernel
theorem dX6_init_19 : decode cX6_init 19 = .ok (.aload_n 0, 1) := by decide +kernel
theorem dX6_init_20 : decode cX6_init 20 = .ok (.lconst 0, 1) := by decide +kernel
theorem dX6_init_21 : decode cX6_init 21 = .ok (.putfield 19, 3) := by decide +kernel
theorem dX6_init_24 : decode cX6_init 24 = .ok (.aload_n 0, 1) := by decide +kernel
theorem dX6_init_25 : decode cX6_init 25 = .ok (.iconst 0, 1) := by decide +kernel
theorem dX6_init_26 : decode cX6_init 26 = .ok (.putfield 23, 3) := by decide +kernel
theorem dX6_init_29 : decode cX6_init 29 = .ok (.aload_n 0, 1) := by decide +kernel
theorem dX6_init_30 : decode cX6_init 30 = .ok (.aload_n 1, 1) := by decide +kernel
theorem dX6_init_31 : decode cX6_init 31 = .ok (.putfield 26, 3) := by decide +kernel
theorem dX6_init_34 : decode cX6_init 34 = .ok (.aload_n 0, 1) := by decide +kernel
theorem dX6_init_35 : decode cX6_init 35 = .ok (.iload_n 2, 1) := by decide +kernel
theorem dX6_init_36 : decode cX6_init 36 = .ok (.aload_n 1, 1) := by decide +kernel
theorem dX6_init_37 : decode cX6_init 37 = .ok (.arraylength, 1) := by decide +kernel
theorem dX6_init_38 : decode cX6_init 38 = .ok (.invokestatic 30, 3) := by decide +kernel
theorem dX6_init_41 : decode cX6_init 41 = .ok (.putfield 36, 3) := by decide +kernel
theorem dX6_init_44 : decode cX6_init 44 = .ok (.return_, 1) := by decide +kernel
theorem dX6_advance_0 : decode cX6_advance 0 = .ok (.aload_n 0, 1) := by decide +kernel
theorem dX6_advance_1 : decode cX6_advance 1 = .ok (.getfield 7, 3) := by decide +kernel
theorem dX6_advance_4 : decode cX6_advance 4 = .ok (.aload_n 0, 1) := by decide +kernel
theorem dX6_advance_5 : decode cX6_advance 5 = .ok (.getfield 36, 3) := by decide +kernel
theorem dX6_advance_8 : decode cX6_advance 8 = .ok (.if_icmp .ge 44, 3) := by decide +kernel
theorem dX6_advance_52 : decode cX6_advance 52 = .ok (.aload_n 0, 1) := by decide +kernel
theorem dX6_advance_53 : decode cX6_advance 53 = .ok (.aload_n 0, 1) := by decide +kernel
theorem dX6_advance_54 : decode cX6_advance 54 = .ok (.getfield 7, 3) := by decide +kernel
theorem dX6_advance_57 : decode cX6_advance 57 = .ok (.putfield 16, 3) := by decide +kernel
theorem dX6_advance_60 : decode cX6_advance 60 = .ok (.aload_n 0, 1) := by decide +kernel
theorem dX6_advance_61 : decode cX6_advance 61 = .ok (.getfield 7, 3) := by decide +kernel
theorem dX6_advance_64 : decode cX6_advance 64 = .ok (.aload_n 0, 1) := by decide +kernel
theorem dX6_advance_65 : decode cX6_advance 65 = .ok (.getfield 36, 3) := by decide +kernel
theorem dX6_advance_68 : decode cX6_advance 68 = .ok (.if_icmp .lt 11, 3) := by decide +kernel
theorem dX6_advance_71 : decode cX6_advance 71 = .ok (.aload_n 0, 1) := by decide +kernel
theorem dX6_advance_72 : decode cX6_advance 72 = .ok (.iconst 5, 1) := by decide +kernel
theorem dX6_advance_73 : decode cX6_advance 73 = .ok (.putfield 13, 3) := by decide +kernel
theorem dX6_advance_76 : decode cX6_advance 76 = .ok (.goto 77, 3) := by decide +kernel
theorem dX6_advance_153 : decode cX6_advance 153 = .ok (.return_, 1) := by decide +kernel
theorem dX4_init_0 : decode cX4_init 0 = .ok (.aload_n 0, 1) := by decide +kernel
theorem dX4_init_1 : decode cX4_init 1 = .ok (.invokespecial 3, 3) := by decide +kernel
theorem dX4_init_4 : decode cX4_init 4 = .ok (.aload_n 0, 1) := by decide +kernel
theorem dX4_init_5 : decode cX4_init 5 = .ok (.new 9, 3) := by decide +kernel
theorem dX4_init_8 : decode cX4_init 8 = .ok (.dup, 1) := by decide +kernel
theorem dX4_init_9 : decode cX4_init 9 = .ok (.invokespecial 11, 3) := by decide +kernel
theorem dX4_init_12 : decode cX4_init 12 = .ok (.putfield 12, 3) := by decide +kernel
theorem dX4_init_15 : decode cX4_init 15 = .ok (.aload_n 0, 1) := by decide +kernel
theorem dX4_init_16 : decode cX4_init 16 = .ok (.iconst 0, 1) := by decide +kernel
theorem dX4_init_17 : decode cX4_init 17 = .ok (.putfield 18, 3) := by decide +kernel
theorem dX4_init_20 : decode cX4_init 20 = .ok (.aload_n 0, 1) := by decide +kernel
theorem dX4_init_21 : decode cX4_init 21 = .ok (.iconst (-1), 1) := by decide +kernel
theorem dX4_init_22 : decode cX4_init 22 = .ok (.putfield 22, 3) := by decide +kernel
theorem dX4_init_25 : decode cX4_init 25 = .ok (.aload_n 0, 1) := by decide +kernel
theorem dX4_init_26 : decode cX4_init 26 = .ok (.new 25, 3) := by decide +kernel
theorem dX4_init_29 : decode cX4_init 29 = .ok (.dup, 1) := by decide +kernel
theorem dX4_init_30 : decode cX4_init 30 = .ok (.aload_n 1, 1) := by decide +kernel
theorem dX4_init_31 : decode cX4_init 31 = .ok (.iload_n 2, 1) := by decide +kernel
theorem dX4_init_32 : decode cX4_init 32 = .ok (.invokespecial 27, 3) := by decide +kernel
theorem dX4_init_35 : decode cX4_init 35 = .ok (.putfield 30, 3) := by decide +kernel
theorem dX4_init_38 : decode cX4_init 38 = .ok (.return_, 1) := by decide +kernel
theorem dX4_readAll_0 : decode cX4_readAll 0 = .ok (.aload_n 0, 1) := by decide +kernel
theorem dX4_readAll_1 : decode cX4_readAll 1 = .ok (.getfield 30, 3) := by decide +kernel
theorem dX4_readAll_4 : decode cX4_readAll 4 = .ok (.invokevirtual 34, 3) := by decide +kernel
theorem dX4_readAll_7 : decode cX4_readAll 7 = .ok (.iconst 0, 1) := by decide +kernel
theorem dX4_readAll_8 : decode cX4_readAll 8 = .ok (.istore_n 1, 1) := by decide +kernel
theorem dX4_readAll_9 : decode cX4_readAll 9 = .ok (.iload_n 1, 1) := by decide +kernel
theorem dX4_readAll_10 : decode cX4_readAll 10 = .ok (.sipush 1000, 3) := by decide +kernel
theorem dX4_readAll_13 : decode cX4_readAll 13 = .ok (.if_icmp .ge 78, 3) := by decide +kernel
theorem dX4_readAll_16 : decode cX4_readAll 16 = .ok (.aload_n 0, 1) := by decide +kernel
theorem dX4_readAll_17 : decode cX4_readAll 17 = .ok (.getfield 18, 3) := by decide +kernel
theorem dX4_readAll_20 : decode cX4_readAll 20 = .ok (.ifCond .ne 71, 3) := by decide +kernel
theorem dX4_readAll_23 : decode cX4_readAll 23 = .ok (.aload_n 0, 1) := by decide +kernel
theorem dX4_readAll_24 : decode cX4_readAll 24 = .ok (.getfield 30, 3) := by decide +kernel
theorem dX4_readAll_27 : decode cX4_readAll 27 = .ok (.getfield 37, 3) := by decide +kernel
theorem dX4_readAll_30 : decode cX4_readAll 30 = .ok (.iconst 5, 1) := by decide +kernel
theorem dX4_readAll_31 : decode cX4_readAll 31 = .ok (.if_icmp .eq 60, 3) := by decide +kernel
theorem dX4_readAll_91 : decode cX4_readAll 91 = .ok (.return_, 1) := by decide +kernel
theorem dX3_become_0 : decode cX3_become 0 = .ok (.aload_n 0, 1) := by decide +kernel
theorem dX3_become_1 : decode cX3_become 1 = .ok (.aload_n 1, 1) := by decide +kernel
theorem dX3_become_2 : decode cX3_become 2 = .ok (.getfield 33, 3) := by decide +kernel
theorem dX3_become_5 : decode cX3_become 5 = .ok (.putfield 33, 3) := by decide +kernel
theorem dX3_become_8 : decode cX3_become 8 = .ok (.aload_n 0, 1) := by decide +kernel
theorem dX3_become_9 : decode cX3_become 9 = .ok (.aload_n 1, 1) := by decide +kernel
theorem dX3_become_10 : decode cX3_become 10 = .ok (.getfield 37, 3) := by decide +kernel
theorem dX3_become_13 : decode cX3_become 13 = .ok (.putfield 37, 3) := by decide +kernel
theorem dX3_become_16 : decode cX3_become 16 = .ok (.aload_n 0, 1) := by decide +kernel
theorem dX3_become_17 : decode cX3_become 17 = .ok (.aload_n 1, 1) := by decide +kernel
theorem dX3_become_18 : decode cX3_become 18 = .ok (.getfield 40, 3) := by decide +kernel
theorem dX3_become_21 : decode cX3_become 21 = .ok (.putfield 40, 3) := by decide +kernel
theorem dX3_become_24 : decode cX3_become 24 = .ok (.iconst 0, 1) := by decide +kernel
theorem dX3_become_25 : decode cX3_become 25 = .ok (.istore_n 2, 1) := by decide +kernel
theorem dX3_become_26 : decode cX3_become 26 = .ok (.iload_n 2, 1) := by decide +kernel
theorem dX3_become_27 : decode cX3_become 27 = .ok (.iconst 2, 1) := by decide +kernel
theorem dX3_become_28 : decode cX3_become 28 = .ok (.if_icmp .ge 21, 3) := by decide +kernel
theorem dX3_become_31 : decode cX3_become 31 = .ok (.aload_n 0, 1) := by decide +kernel
theorem dX3_become_32 : decode cX3_become 32 = .ok (.getfield 11, 3) := by decide +kernel
theorem dX3_become_35 : decode cX3_become 35 = .ok (.iload_n 2, 1) := by decide +kernel
theorem dX3_become_36 : decode cX3_become 36 = .ok (.aload_n 1, 1) := by decide +kernel
theorem dX3_become_37 : decode cX3_become 37 = .ok (.getfield 11, 3) := by decide +kernel
theorem dX3_become_40 : decode cX3_become 40 = .ok (.iload_n 2, 1) := by decide +kernel
theorem dX3_become_41 : decode cX3_become 41 = .ok (.aaload, 1) := by decide +kernel
theorem dX3_become_42 : decode cX3_become 42 = .ok (.aastore, 1) := by decide +kernel
theorem dX3_become_43 : decode cX3_become 43 = .ok (.iinc 2 1, 3) := by decide +kernel
theorem dX3_become_46 : decode cX3_become 46 = .ok (.goto (-20), 3) := by decide +kernel
theorem dX3_become_49 : decode cX3_become 49 = .ok (.iconst 0, 1) := by decide +kernel
theorem dX3_become_50 : decode cX3_become 50 = .ok (.istore_n 2, 1) := by decide +kernel
theorem dX3_become_51 : decode cX3_become 51 = .ok (.iload_n 2, 1) := by decide +kernel
theorem dX3_become_52 : decode cX3_become 52 = .ok (.bipush 12, 2) := by decide +kernel
theorem dX3_become_54 : decode cX3_become 54 = .ok (.if_icmp .ge 21, 3) := by decide +kernel
theorem dX3_become_57 : decode cX3_become 57 = .ok (.aload_n 0, 1) := by decide +kernel
theorem dX3_become_58 : decode cX3_become 58 = .ok (.getfield 19, 3) := by decide +kernel
theorem dX3_become_61 : decode cX3_become 61 = .ok (.iload_n 2, 1) := by decide +kernel
theorem dX3_become_62 : decode cX3_become 62 = .ok (.aload_n 1, 1) := by decide +kernel
theorem dX3_become_63 : decode cX3_become 63 = .ok (.getfield 19, 3) := by decide +kernel
theorem dX3_become_66 : decode cX3_become 66 = .ok (.iload_n 2, 1) := by decide +kernel
theorem dX3_become_67 : decode cX3_become 67 = .ok (.aaload, 1) := by decide +kernel
theorem dX3_become_68 : decode cX3_become 68 = .ok (.aastore, 1) := by decide +kernel
theorem dX3_become_69 : decode cX3_become 69 = .ok (.iinc 2 1, 3) := by decide +kernel
theorem dX3_become_72 : decode cX3_become 72 = .ok (.goto (-21), 3) := by decide +kernel
theorem dX3_become_75 : decode cX3_become 75 = .ok (.aload_n 1, 1) := by decide +kernel
theorem dX3_become_76 : decode cX3_become 76 = .ok (.getfield 23, 3) := by decide +kernel
theorem dX3_become_79 : decode cX3_become 79 = .ok (.iconst 0, 1) := by decide +kernel
theorem dX3_become_80 : decode cX3_become 80 = .ok (.aload_n 0, 1) := by decide +kernel
theorem dX3_become_81 : decode cX3_become 81 = .ok (.getfield 23, 3) := by decide +kernel
theorem dX3_become_84 : decode cX3_become 84 = .ok (.iconst 0, 1) := by decide +kernel
theorem dX3_become_85 : decode cX3_become 85 = .ok (.iconst 4, 1) := by decide +kernel
theorem dX3_become_86 : decode cX3_become 86 = .ok (.invokestatic 43, 3) := by decide +kernel
theorem dX3_become_89 : decode cX3_become 89 = .ok (.aload_n 1, 1) := by decide +kernel
theorem dX3_become_90 : decode cX3_become 90 = .ok (.getfield 27, 3) := by decide +kernel
theorem dX3_become_93 : decode cX3_become 93 = .ok (.iconst 0, 1) := by decide +kernel
theorem dX3_become_94 : decode cX3_become 94 = .ok (.aload_n 0, 1) := by decide +kernel
theorem dX3_become_95 : decode cX3_become 95 = .ok (.getfield 27, 3) := by decide +kernel
theorem dX3_become_98 : decode cX3_become 98 = .ok (.iconst 0, 1) := by decide +kernel
theorem dX3_become_99 : decode cX3_become 99 = .ok (.iconst 4, 1) := by decide +kernel
theorem dX3_become_100 : decode cX3_become 100 = .ok (.invokestatic 43, 3) := by decide +kernel
theorem dX3_become_103 : decode cX3_become 103 = .ok (.aload_n 1, 1) := by decide +kernel
theorem dX3_become_104 : decode cX3_become 104 = .ok (.getfield 30, 3) := by decide +kernel
theorem dX3_become_107 : decode cX3_become 107 = .ok (.iconst 0, 1) := by decide +kernel
theorem dX3_become_108 : decode cX3_become 108 = .ok (.aload_n 0, 1) := by decide +kernel
theorem dX3_become_109 : decode cX3_become 109 = .ok (.getfield 30, 3) := by decide +kernel
theorem dX3_become_112 : decode cX3_become 112 = .ok (.iconst 0, 1) := by decide +kernel
theorem dX3_become_113 : decode cX3_become 113 = .ok (.iconst 4, 1) := by decide +kernel
theorem dX3_become_114 : decode cX3_become 114 = .ok (.invokestatic 43, 3) := by decide +kernel
theorem dX3_become_117 : decode cX3_become 117 = .ok (.return_, 1) := by decide +kernel
theorem dX11_program_0 : decode cX11_program 0 = .ok (.new 94, 3) := by decide +kernel
theorem dX11_program_3 : decode cX11_program 3 = .ok (.dup, 1) := by decide +kernel
theorem dX11_program_4 : decode cX11_program 4 = .ok (.aload_n 0, 1) := by decide +kernel
theorem dX11_program_5 : decode cX11_program 5 = .ok (.getfield 9, 3) := by decide +kernel
theorem dX11_program_8 : decode cX11_program 8 = .ok (.aload_n 0, 1) := by decide +kernel
theorem dX11_program_9 : decode cX11_program 9 = .ok (.getfield 13, 3) := by decide +kernel
theorem dX11_program_12 : decode cX11_program 12 = .ok (.invokespecial 96, 3) := by decide +kernel
theorem dX11_program_15 : decode cX11_program 15 = .ok (.astore_n 1, 1) := by decide +kernel
theorem dX11_program_16 : decode cX11_program 16 = .ok (.aload_n 1, 1) := by decide +kernel
theorem dX11_program_17 : decode cX11_program 17 = .ok (.invokevirtual 99, 3) := by decide +kernel
theorem dX11_program_20 : decode cX11_program 20 = .ok (.aload_n 0, 1) := by decide +kernel
theorem dX11_program_21 : decode cX11_program 21 = .ok (.aload_n 1, 1) := by decide +kernel
theorem dX11_program_22 : decode cX11_program 22 = .ok (.getfield 102, 3) := by decide +kernel
theorem dX11_program_25 : decode cX11_program 25 = .ok (.putfield 17, 3) := by decide +kernel
theorem dX11_program_28 : decode cX11_program 28 = .ok (.aload_n 0, 1) := by decide +kernel
theorem dX11_program_29 : decode cX11_program 29 = .ok (.aload_n 1, 1) := by decide +kernel
theorem dX11_program_30 : decode cX11_program 30 = .ok (.getfield 105, 3) := by decide +kernel
theorem dX11_program_33 : decode cX11_program 33 = .ok (.putfield 20, 3) := by decide +kernel
theorem dX11_program_36 : decode cX11_program 36 = .ok (.aload_n 0, 1) := by decide +kernel
theorem dX11_program_37 : decode cX11_program 37 = .ok (.getfield 17, 3) := by decide +kernel
theorem dX11_program_40 : decode cX11_program 40 = .ok (.ifCond .eq 5, 3) := by decide +kernel
theorem dX11_program_45 : decode cX11_program 45 = .ok (.aload_n 0, 1) := by decide +kernel
theorem dX11_program_46 : decode cX11_program 46 = .ok (.getfield 26, 3) := by decide +kernel
theorem dX11_program_49 : decode cX11_program 49 = .ok (.aload_n 1, 1) := by decide +kernel
theorem dX11_program_50 : decode cX11_program 50 = .ok (.getfield 106, 3) := by decide +kernel
theorem dX11_program_53 : decode cX11_program 53 = .ok (.invokevirtual 107, 3) := by decide +kernel
theorem dX11_program_56 : decode cX11_program 56 = .ok (.aload_n 0, 1) := by decide +kernel
theorem dX11_program_57 : decode cX11_program 57 = .ok (.iconst 0, 1) := by decide +kernel
theorem dX11_program_58 : decode cX11_program 58 = .ok (.putfield 13, 3) := by decide +kernel
theorem dX11_program_61 : decode cX11_program 61 = .ok (.aload_n 0, 1) := by decide +kernel
theorem dX11_program_62 : decode cX11_program 62 = .ok (.getfield 33, 3) := by decide +kernel
theorem dX11_program_65 : decode cX11_program 65 = .ok (.iconst 0, 1) := by decide +kernel
theorem dX11_program_66 : decode cX11_program 66 = .ok (.putfield 111, 3) := by decide +kernel
theorem dX11_program_69 : decode cX11_program 69 = .ok (.aload_n 0, 1) := by decide +kernel
theorem dX11_program_70 : decode cX11_program 70 = .ok (.getfield 40, 3) := by decide +kernel
theorem dX11_program_73 : decode cX11_program 73 = .ok (.invokevirtual 114, 3) := by decide +kernel
theorem dX11_program_76 : decode cX11_program 76 = .ok (.aload_n 0, 1) := by decide +kernel
theorem dX11_program_77 : decode cX11_program 77 = .ok (.iconst 0, 1) := by decide +kernel
theorem dX11_program_78 : decode cX11_program 78 = .ok (.putfield 72, 3) := by decide +kernel
theorem dX11_program_81 : decode cX11_program 81 = .ok (.aload_n 0, 1) := by decide +kernel
theorem dX11_program_82 : decode cX11_program 82 = .ok (.iconst 0, 1) := by decide +kernel
theorem dX11_program_83 : decode cX11_program 83 = .ok (.putfield 75, 3) := by decide +kernel
theorem dX11_program_86 : decode cX11_program 86 = .ok (.aload_n 0, 1) := by decide +kernel
theorem dX11_program_87 : decode cX11_program 87 = .ok (.invokevirtual 117, 3) := by decide +kernel
theorem dX11_program_90 : decode cX11_program 90 = .ok (.aload_n 0, 1) := by decide +kernel
theorem dX11_program_91 : decode cX11_program 91 = .ok (.invokevirtual 120, 3) := by decide +kernel
theorem dX11_program_94 : decode cX11_program 94 = .ok (.aload_n 0, 1) := by decide +kernel
theorem dX11_program_95 : decode cX11_program 95 = .ok (.getfield 26, 3) := by decide +kernel
theorem dX11_program_98 : decode cX11_program 98 = .ok (.getfield 123, 3) := by decide +kernel
theorem dX11_program_101 : decode cX11_program 101 = .ok (.ireturn, 1) := by decide +kernel
theorem dX11_about_0 : decode cX11_about 0 = .ok (.iload_n 1, 1) := by decide +kernel
theorem dX11_about_1 : decode cX11_about 1 = .ok (.tableswitch 102 0 7 #[47, 55, 63, 71, 79, 87, 92, 97], 47) := by decide +kernel
theorem dX11_about_103 : decode cX11_about 103 = .ok (.iconst (-1), 1) := by decide +kernel
theorem dX11_about_104 : decode cX11_about 104 = .ok (.ireturn, 1) := by decide +kernel
theorem dX11_about_48 : decode cX11_about 48 = .ok (.aload_n 0, 1) := by decide +kernel
theorem dX11_about_49 : decode cX11_about 49 = .ok (.getfield 26, 3) := by decide +kernel
theorem dX11_about_52 : decode cX11_about 52 = .ok (.getfield 170, 3) := by decide +kernel
theorem dX11_about_55 : decode cX11_about 55 = .ok (.ireturn, 1) := by decide +kernel
theorem dX11_about_56 : decode cX11_about 56 = .ok (.aload_n 0, 1) := by decide +kernel
theorem dX11_about_57 : decode cX11_about 57 = .ok (.getfield 26, 3) := by decide +kernel
theorem dX11_about_60 : decode cX11_about 60 = .ok (.getfield 123, 3) := by decide +kernel
theorem dX11_about_63 : decode cX11_about 63 = .ok (.ireturn, 1) := by decide +kernel
theorem dX11_about_64 : decode cX11_about 64 = .ok (.aload_n 0, 1) := by decide +kernel
theorem dX11_about_65 : decode cX11_about 65 = .ok (.getfield 26, 3) := by decide +kernel
theorem dX11_about_68 : decode cX11_about 68 = .ok (.getfield 281, 3) := by decide +kernel
theorem dX11_about_71 : decode cX11_about 71 = .ok (.ireturn, 1) := by decide +kernel
theorem dX11_about_72 : decode cX11_about 72 = .ok (.aload_n 0, 1) := by decide +kernel
theorem dX11_about_73 : decode cX11_about 73 = .ok (.getfield 33, 3) := by decide +kernel
theorem dX11_about_76 : decode cX11_about 76 = .ok (.getfield 111, 3) := by decide +kernel
theorem dX11_about_79 : decode cX11_about 79 = .ok (.ireturn, 1) := by decide +kernel
theorem dX11_about_80 : decode cX11_about 80 = .ok (.aload_n 0, 1) := by decide +kernel
theorem dX11_about_81 : decode cX11_about 81 = .ok (.getfield 40, 3) := by decide +kernel
theorem dX11_about_84 : decode cX11_about 84 = .ok (.getfield 190, 3) := by decide +kernel
theorem dX11_about_87 : decode cX11_about 87 = .ok (.ireturn, 1) := by decide +kernel
theorem dX11_about_88 : decode cX11_about 88 = .ok (.aload_n 0, 1) := by decide +kernel
theorem dX11_about_89 : decode cX11_about 89 = .ok (.getfield 72, 3) := by decide +kernel
theorem dX11_about_92 : decode cX11_about 92 = .ok (.ireturn, 1) := by decide +kernel
theorem dX11_about_93 : decode cX11_about 93 = .ok (.aload_n 0, 1) := by decide +kernel
theorem dX11_about_94 : decode cX11_about 94 = .ok (.getfield 75, 3) := by decide +kernel
theorem dX11_about_97 : decode cX11_about 97 = .ok (.ireturn, 1) := by decide +kernel
theorem dX11_about_98 : decode cX11_about 98 = .ok (.aload_n 0, 1) := by decide +kernel
theorem dX11_about_99 : decode cX11_about 99 = .ok (.getfield 13, 3) := by decide +kernel
theorem dX11_about_102 : decode cX11_about 102 = .ok (.ireturn, 1) := by decide +kernel
def ow_c_Scanner_init : List Cond := [.methodLink RX6 1 objectInit, .instanceMethod objectInit, .code objectInit ⟨#[0xb1]⟩ 1 none, .fieldLink RX6 7 "NearEnough$Scanner" "next" "I", .fieldLink RX6 13 "NearEnough$Scanner" "kind" "I", .fieldLink RX6 16 "NearEnough$Scanner" "place" "I", .fieldLink RX6 19 "NearEnough$Scanner" "word" "J", .fieldLink RX6 23 "NearEnough$Scanner" "number" "I", .fieldLink RX6 26 "NearEnough$Scanner" "text" "[B", .methodLink RX6 30 Lib.Math.min.name, .static Lib.Math.min.name, .initialized "java/lang/Math", .code Lib.Math.min.name Lib.Math.min.code 2 (some .int), .fieldLink RX6 36 "NearEnough$Scanner" "length" "I"]
def vs_c_Scanner_init : List Cond := .code yX6_init cX6_init 3 none :: (ow_c_Scanner_init ++ (wsX60))
theorem vg_c_Scanner_init : vs_c_Scanner_init.all goodWord = true := by decide +kernel
set_option maxHeartbeats 4000000 in
set_option maxRecDepth 100000 in
theorem c_Scanner_init (l : Launch) (dC : Nat → ClassId) (dI : Nat → Nat → Nat) (h0 : Nat) (tp : Nat) (kt : ClassId) (sz : Nat) : Met l yX6_init vs_c_Scanner_init ({ frames := 1, cells := 0, slots := 0, locals := 24 }) (va_Pc [.ref h0, .ref tp, .int 0] (wSt dC dI [(h0, .inr (6, [.null, .int 0, .int 0, .int 0, .int 0, .long 0, .int 0])), (tp, .inl (kt, 1000, .inl (fun _ => 0)))] [(kt, .byte)] sz)) (va_Qv (fun (_ : Unit) => True) (fun (u : Unit) => wEn dC dI (va_A [(h0, .inr (6, [.null, .int 0, .int 0, .int 0, .int 0, .long 0, .int 0])), (tp, .inl (kt, 1000, .inl (fun _ => 0)))] sz) [(h0, .inr (6, [.ref tp, .int 0, .int 0, .int 0, .int 0, .long 0, .int 0])), (tp, .inl (kt, 1000, .inl (fun _ => 0)))] []) (va_A [(h0, .inr (6, [.null, .int 0, .int 0, .int 0, .int 0, .long 0, .int 0])), (tp, .inl (kt, 1000, .inl (fun _ => 0)))] sz)) 0 0 (va_A [(h0, .inr (6, [.null, .int 0, .int 0, .int 0, .int 0, .long 0, .int 0])), (tp, .inl (kt, 1000, .inl (fun _ => 0)))] sz) := by
  refine Met.ofW (cc := cX6_init) (maxL := 3) (ret := none) (by decide) rfl ?_
  intro p e s m args below meth c s₁ B hml hv
  obtain ⟨rfl, hsz, hP, hK, hD0, hE⟩ := hv
  have hx := B.exec
  have hb := B.bytes
  have hr := B.returns
  have hts := atoms_spec (ws := vs_c_Scanner_init) B.pre
  have hown : s.vm.findClass RX6 = some m.cls := findClass_of_methodNamed B.named
  have hlocks := B.notSynchronized
  have hin : meth.name = "<init>" := (name_of_methodNamed B.named B.method).1
  subst hsz
  have hD := hD0.self (sz := s.heap.size)
  generalize hAe : va_A [(h0, .inr (6, [.null, .int 0, .int 0, .int 0, .int 0, .long 0, .int 0])), (tp, .inl (kt, 1000, .inl (fun _ => 0)))] s.heap.size = A at hD ⊢
  have hA : ∀ q : Nat, s.heap.size ≤ q → A q := fun q h => by rw [← hAe]; exact Or.inr h
  have hl := lv_entry ([.ref h0, .ref tp, .int 0]) (n := 3) (Nat.le_of_ble_eq_true rfl)
  rw [lg_entry_eq]
  generalize (lg_sl ([.ref h0, .ref tp, .int 0]) ++ List.replicate (3 - (lg_sl ([.ref h0, .ref tp, .int 0])).length) Slot.unset).toArray = ls at hl ⊢
  have hl : lv_has ls 3 [(0, .ref h0), (1, .ref tp), (2, .int 0)] := hl
  refine zH (A := A) (ws := [(h0, .inr (6, [.null, .int 0, .int 0, .int 0, .int 0, .long 0, .int 0])), (tp, .inl (kt, 1000, .inl (fun _ => 0)))]) (fun H hP hS => ?_) hP
  have ho := fun w (h : w ∈ ow_c_Scanner_init) => hts w (List.mem_cons_of_mem _ (List.mem_append_left _ h))
  have hin6 : ∀ w ∈ u_ws RX6 TX6 7, w ∈ vs_c_Scanner_init := fun w h => (List.mem_cons_of_mem _ (List.mem_append_right _ h))
  refine lv_aload_n hx hb dX6_init_0 rfl (lv_at hl 0 rfl) ?_
  refine W.objInit hx hb hown (ho (.methodLink RX6 1 objectInit) (List.mem_of_getElem? (i := 0) rfl)) (ho (.instanceMethod objectInit) (List.mem_of_getElem? (i := 1) rfl)) (ho (.code objectInit ⟨#[0xb1]⟩ 1 none) (List.mem_of_getElem? (i := 2) rfl)) rfl (by rw [hml]; exact hl.1) rfl dX6_init_1 (Nat.le_of_ble_eq_true rfl) (Nat.le_of_ble_eq_true rfl) ?_
  refine W.eq (g2 := F0 m 4 ls []) rfl ?_
  refine lv_aload_n hx hb dX6_init_4 rfl (lv_at hl 0 rfl) ?_
  refine lv_iconst (v := 0) hx hb dX6_init_5 (by decide) ?_
  refine va_put (D := (dC, dI)) (ci := 6) (v := .int 0) (ty := tyX6 2) (C := RX6) (T := TX6) (N := 7) hx hb hts hin6 tyX6 tyX6_ok nmX6 hown hK hP hD hS 0 rfl rfl 2 (by decide) (ho (.fieldLink RX6 7 "NearEnough$Scanner" "next" "I") (List.mem_of_getElem? (i := 3) rfl)) (fun _ h9 => h9) rfl (by decide +kernel) rfl rfl (Nat.le_of_ble_eq_true rfl) dX6_init_6 (fun H locs hP hD hS => ?_)
  have hP : va_P (dC, dI) vwCl [(h0, .inr (6, [.null, .int 0, .int 0, .int 0, .int 0, .long 0, .int 0])), (tp, .inl (kt, 1000, .inl (fun _ => 0)))] H := hP
  have hD : va_D A [(h0, .inr (6, [.null, .int 0, .int 0, .int 0, .int 0, .long 0, .int 0])), (tp, .inl (kt, 1000, .inl (fun _ => 0)))] := hD
  refine lv_aload_n hx hb dX6_init_9 rfl (lv_at hl 0 rfl) ?_
  refine lv_iconst (v := 0) hx hb dX6_init_10 (by decide) ?_
  refine va_put (D := (dC, dI)) (ci := 6) (v := .int 0) (ty := tyX6 3) (C := RX6) (T := TX6) (N := 7) hx hb hts hin6 tyX6 tyX6_ok nmX6 hown hK hP hD hS 0 rfl rfl 3 (by decide) (ho (.fieldLink RX6 13 "NearEnough$Scanner" "kind" "I") (List.mem_of_getElem? (i := 4) rfl)) (fun _ h9 => h9) rfl (by decide +kernel) rfl rfl (Nat.le_of_ble_eq_true rfl) dX6_init_11 (fun H locs hP hD hS => ?_)
  have hP : va_P (dC, dI) vwCl [(h0, .inr (6, [.null, .int 0, .int 0, .int 0, .int 0, .long 0, .int 0])), (tp, .inl (kt, 1000, .inl (fun _ => 0)))] H := hP
  have hD : va_D A [(h0, .inr (6, [.null, .int 0, .int 0, .int 0, .int 0, .long 0, .int 0])), (tp, .inl (kt, 1000, .inl (fun _ => 0)))] := hD
  refine lv_aload_n hx hb dX6_init_14 rfl (lv_at hl 0 rfl) ?_
  refine lv_iconst (v := 0) hx hb dX6_init_15 (by decide) ?_
  refine va_put (D := (dC, dI)) (ci := 6) (v := .int 0) (ty := tyX6 4) (C := RX6) (T := TX6) (N := 7) hx hb hts hin6 tyX6 tyX6_ok nmX6 hown hK hP hD hS 0 rfl rfl 4 (by decide) (ho (.fieldLink RX6 16 "NearEnough$Scanner" "place" "I") (List.mem_of_getElem? (i := 5) rfl)) (fun _ h9 => h9) rfl (by decide +kernel) rfl rfl (Nat.le_of_ble_eq_true rfl) dX6_init_16 (fun H locs hP hD hS => ?_)
  have hP : va_P (dC, dI) vwCl [(h0, .inr (6, [.null, .int 0, .int 0, .int 0, .int 0, .long 0, .int 0])), (tp, .inl (kt, 1000, .inl (fun _ => 0)))] H := hP
  have hD : va_D A [(h0, .inr (6, [.null, .int 0, .int 0, .int 0, .int 0, .long 0, .int 0])), (tp, .inl (kt, 1000, .inl (fun _ => 0)))] := hD
  refine lv_aload_n hx hb dX6_init_19 rfl (lv_at hl 0 rfl) ?_
  refine lv_lconst (v := 0) hx hb dX6_init_20 (by decide) ?_
  refine va_put (D := (dC, dI)) (ci := 6) (v := .long 0) (ty := tyX6 5) (C := RX6) (T := TX6) (N := 7) hx hb hts hin6 tyX6 tyX6_ok nmX6 hown hK hP hD hS 0 rfl rfl 5 (by decide) (ho (.fieldLink RX6 19 "NearEnough$Scanner" "word" "J") (List.mem_of_getElem? (i := 6) rfl)) (fun _ h9 => h9) rfl (by decide +kernel) rfl rfl (Nat.le_of_ble_eq_true rfl) dX6_init_21 (fun H locs hP hD hS => ?_)
  have hP : va_P (dC, dI) vwCl [(h0, .inr (6, [.null, .int 0, .int 0, .int 0, .int 0, .long 0, .int 0])), (tp, .inl (kt, 1000, .inl (fun _ => 0)))] H := hP
  have hD : va_D A [(h0, .inr (6, [.null, .int 0, .int 0, .int 0, .int 0, .long 0, .int 0])), (tp, .inl (kt, 1000, .inl (fun _ => 0)))] := hD
  refine lv_aload_n hx hb dX6_init_24 rfl (lv_at hl 0 rfl) ?_
  refine lv_iconst (v := 0) hx hb dX6_init_25 (by decide) ?_
  refine va_put (D := (dC, dI)) (ci := 6) (v := .int 0) (ty := tyX6 6) (C := RX6) (T := TX6) (N := 7) hx hb hts hin6 tyX6 tyX6_ok nmX6 hown hK hP hD hS 0 rfl rfl 6 (by decide) (ho (.fieldLink RX6 23 "NearEnough$Scanner" "number" "I") (List.mem_of_getElem? (i := 7) rfl)) (fun _ h9 => h9) rfl (by decide +kernel) rfl rfl (Nat.le_of_ble_eq_true rfl) dX6_init_26 (fun H locs hP hD hS => ?_)
  have hP : va_P (dC, dI) vwCl [(h0, .inr (6, [.null, .int 0, .int 0, .int 0, .int 0, .long 0, .int 0])), (tp, .inl (kt, 1000, .inl (fun _ => 0)))] H := hP
  have hD : va_D A [(h0, .inr (6, [.null, .int 0, .int 0, .int 0, .int 0, .long 0, .int 0])), (tp, .inl (kt, 1000, .inl (fun _ => 0)))] := hD
  refine lv_aload_n hx hb dX6_init_29 rfl (lv_at hl 0 rfl) ?_
  refine lv_aload_n hx hb dX6_init_30 rfl (lv_at hl 1 rfl) ?_
  refine va_putF (D := (dC, dI)) (ci := 6) (v := .ref tp) (ty := tyX6 0) (C := RX6) (T := TX6) (N := 7) hx hb hts hin6 tyX6 tyX6_ok nmX6 hown hK hP hD hS 0 rfl rfl 0 (by decide) (ho (.fieldLink RX6 26 "NearEnough$Scanner" "text" "[B") (List.mem_of_getElem? (i := 8) rfl)) (fun _ h9 => h9) rfl hin rfl (by decide +kernel) rfl rfl (Nat.le_of_ble_eq_true rfl) dX6_init_31 (fun H locs hP hD hS => ?_)
  have hP : va_P (dC, dI) vwCl [(h0, .inr (6, [.ref tp, .int 0, .int 0, .int 0, .int 0, .long 0, .int 0])), (tp, .inl (kt, 1000, .inl (fun _ => 0)))] H := hP
  have hD : va_D A [(h0, .inr (6, [.ref tp, .int 0, .int 0, .int 0, .int 0, .long 0, .int 0])), (tp, .inl (kt, 1000, .inl (fun _ => 0)))] := hD
  refine lv_aload_n hx hb dX6_init_34 rfl (lv_at hl 0 rfl) ?_
  refine lv_iload_n hx hb dX6_init_35 rfl (lv_at hl 2 rfl) ?_
  refine lv_aload_n hx hb dX6_init_36 rfl (lv_at hl 1 rfl) ?_
  refine va_alen (v := 1000) hx hb hK hP 1 0 rfl rfl rfl dX6_init_37 ?_
  refine va_mmin hx hb (hml.trans hl.1.symm) hown (ho (.methodLink RX6 30 Lib.Math.min.name) (List.mem_of_getElem? (i := 9) rfl)) (ho (.static Lib.Math.min.name) (List.mem_of_getElem? (i := 10) rfl)) (ho (.initialized "java/lang/Math") (List.mem_of_getElem? (i := 11) rfl)) (ho (.code Lib.Math.min.name Lib.Math.min.code 2 (some .int)) (List.mem_of_getElem? (i := 12) rfl)) (Nat.le_of_ble_eq_true rfl) (Nat.le_of_ble_eq_true rfl) (Nat.le_of_ble_eq_true rfl) (Nat.le_of_ble_eq_true rfl) dX6_init_38 ?_
  refine zi (v := 0) (by decide) ?_
  refine va_putF (D := (dC, dI)) (ci := 6) (v := .int 0) (ty := tyX6 1) (C := RX6) (T := TX6) (N := 7) hx hb hts hin6 tyX6 tyX6_ok nmX6 hown hK hP hD hS 0 rfl rfl 1 (by decide) (ho (.fieldLink RX6 36 "NearEnough$Scanner" "length" "I") (List.mem_of_getElem? (i := 13) rfl)) (fun _ h9 => h9) rfl hin rfl (by decide +kernel) rfl rfl (Nat.le_of_ble_eq_true rfl) dX6_init_41 (fun H locs hP hD hS => ?_)
  have hP : va_P (dC, dI) vwCl [(h0, .inr (6, [.ref tp, .int 0, .int 0, .int 0, .int 0, .long 0, .int 0])), (tp, .inl (kt, 1000, .inl (fun _ => 0)))] H := hP
  have hD : va_D A [(h0, .inr (6, [.ref tp, .int 0, .int 0, .int 0, .int 0, .long 0, .int 0])), (tp, .inl (kt, 1000, .inl (fun _ => 0)))] := hD
  refine W.widen (k := 0) (n := 0) (Nat.le_of_ble_eq_true rfl) (Nat.le_of_ble_eq_true rfl) ?_
  exact W.vret hx hb hr (fun t ht hW => ⟨⟨(), rfl, trivial, wEn_of (hP.sub [0, 1] rfl) (hK.sub [] rfl) (hD.sub [0, 1] (by decide) rfl) ht hW⟩, hS.F ht⟩) hS.2.2 dX6_init_44
def ow_c_Scanner_advance : List Cond := [.fieldLink RX6 7 "NearEnough$Scanner" "next" "I", .fieldLink RX6 36 "NearEnough$Scanner" "length" "I", .fieldLink RX6 16 "NearEnough$Scanner" "place" "I", .fieldLink RX6 13 "NearEnough$Scanner" "kind" "I"]
def vs_c_Scanner_advance : List Cond := .code yX6_advance cX6_advance 1 none :: (ow_c_Scanner_advance ++ (wsX60))
theorem vg_c_Scanner_advance : vs_c_Scanner_advance.all goodWord = true := by decide +kernel
set_option maxHeartbeats 4000000 in
set_option maxRecDepth 100000 in
theorem c_Scanner_advance (l : Launch) (dC : Nat → ClassId) (dI : Nat → Nat → Nat) (h0 : Nat) (tp : Nat) (sz : Nat) : Met l yX6_advance vs_c_Scanner_advance ({ frames := 0, cells := 0, slots := 0, locals := 0 }) (va_Pc [.ref h0] (wSt dC dI [(h0, .inr (6, [.ref tp, .int 0, .int 0, .int 0, .int 0, .long 0, .int 0]))] [] sz)) (va_Qv (fun (_ : Unit) => True) (fun (u : Unit) => wEn dC dI (va_A [(h0, .inr (6, [.ref tp, .int 0, .int 0, .int 0, .int 0, .long 0, .int 0]))] sz) [(h0, .inr (6, [.ref tp, .int 0, .int 0, .int 5, .int 0, .long 0, .int 0]))] []) (va_A [(h0, .inr (6, [.ref tp, .int 0, .int 0, .int 0, .int 0, .long 0, .int 0]))] sz)) 0 0 (va_A [(h0, .inr (6, [.ref tp, .int 0, .int 0, .int 0, .int 0, .long 0, .int 0]))] sz) := by
  refine Met.ofW (cc := cX6_advance) (maxL := 1) (ret := none) (by decide) rfl ?_
  intro p e s m args below meth c s₁ B hml hv
  obtain ⟨rfl, hsz, hP, hK, hD0, hE⟩ := hv
  have hx := B.exec
  have hb := B.bytes
  have hr := B.returns
  have hts := atoms_spec (ws := vs_c_Scanner_advance) B.pre
  have hown : s.vm.findClass RX6 = some m.cls := findClass_of_methodNamed B.named
  have hlocks := B.notSynchronized
  subst hsz
  have hD := hD0.self (sz := s.heap.size)
  generalize hAe : va_A [(h0, .inr (6, [.ref tp, .int 0, .int 0, .int 0, .int 0, .long 0, .int 0]))] s.heap.size = A at hD ⊢
  have hA : ∀ q : Nat, s.heap.size ≤ q → A q := fun q h => by rw [← hAe]; exact Or.inr h
  have hl := lv_entry ([.ref h0]) (n := 1) (Nat.le_of_ble_eq_true rfl)
  rw [lg_entry_eq]
  generalize (lg_sl ([.ref h0]) ++ List.replicate (1 - (lg_sl ([.ref h0])).length) Slot.unset).toArray = ls at hl ⊢
  have hl : lv_has ls 1 [(0, .ref h0)] := hl
  refine zH (A := A) (ws := [(h0, .inr (6, [.ref tp, .int 0, .int 0, .int 0, .int 0, .long 0, .int 0]))]) (fun H hP hS => ?_) hP
  have ho := fun w (h : w ∈ ow_c_Scanner_advance) => hts w (List.mem_cons_of_mem _ (List.mem_append_left _ h))
  have hin6 : ∀ w ∈ u_ws RX6 TX6 7, w ∈ vs_c_Scanner_advance := fun w h => (List.mem_cons_of_mem _ (List.mem_append_right _ h))
  refine lv_aload_n hx hb dX6_advance_0 rfl (lv_at hl 0 rfl) ?_
  refine va_get (D := (dC, dI)) (ci := 6) (v := .int 0) (C := RX6) (T := TX6) (N := 7) hx hb hts hin6 hown hK hP 0 rfl rfl 2 (by decide) (ho (.fieldLink RX6 7 "NearEnough$Scanner" "next" "I") (List.mem_of_getElem? (i := 0) rfl)) (fun _ h9 => h9) rfl dX6_advance_1 ?_
  refine lv_aload_n hx hb dX6_advance_4 rfl (lv_at hl 0 rfl) ?_
  refine va_get (D := (dC, dI)) (ci := 6) (v := .int 0) (C := RX6) (T := TX6) (N := 7) hx hb hts hin6 hown hK hP 0 rfl rfl 1 (by decide) (ho (.fieldLink RX6 36 "NearEnough$Scanner" "length" "I") (List.mem_of_getElem? (i := 1) rfl)) (fun _ h9 => h9) rfl dX6_advance_5 ?_
  refine lv_icmp_ge (tgt := 52) hx hb dX6_advance_8 (by decide) (fun _ => ?_) (fun cc => absurd (by decide) cc)
  refine lv_aload_n hx hb dX6_advance_52 rfl (lv_at hl 0 rfl) ?_
  refine lv_aload_n hx hb dX6_advance_53 rfl (lv_at hl 0 rfl) ?_
  refine va_get (D := (dC, dI)) (ci := 6) (v := .int 0) (C := RX6) (T := TX6) (N := 7) hx hb hts hin6 hown hK hP 0 rfl rfl 2 (by decide) (ho (.fieldLink RX6 7 "NearEnough$Scanner" "next" "I") (List.mem_of_getElem? (i := 0) rfl)) (fun _ h9 => h9) rfl dX6_advance_54 ?_
  refine va_put (D := (dC, dI)) (ci := 6) (v := .int 0) (ty := tyX6 4) (C := RX6) (T := TX6) (N := 7) hx hb hts hin6 tyX6 tyX6_ok nmX6 hown hK hP hD hS 0 rfl rfl 4 (by decide) (ho (.fieldLink RX6 16 "NearEnough$Scanner" "place" "I") (List.mem_of_getElem? (i := 2) rfl)) (fun _ h9 => h9) rfl (by decide +kernel) rfl rfl (Nat.le_of_ble_eq_true rfl) dX6_advance_57 (fun H locs hP hD hS => ?_)
  have hP : va_P (dC, dI) vwCl [(h0, .inr (6, [.ref tp, .int 0, .int 0, .int 0, .int 0, .long 0, .int 0]))] H := hP
  have hD : va_D A [(h0, .inr (6, [.ref tp, .int 0, .int 0, .int 0, .int 0, .long 0, .int 0]))] := hD
  refine lv_aload_n hx hb dX6_advance_60 rfl (lv_at hl 0 rfl) ?_
  refine va_get (D := (dC, dI)) (ci := 6) (v := .int 0) (C := RX6) (T := TX6) (N := 7) hx hb hts hin6 hown hK hP 0 rfl rfl 2 (by decide) (ho (.fieldLink RX6 7 "NearEnough$Scanner" "next" "I") (List.mem_of_getElem? (i := 0) rfl)) (fun _ h9 => h9) rfl dX6_advance_61 ?_
  refine lv_aload_n hx hb dX6_advance_64 rfl (lv_at hl 0 rfl) ?_
  refine va_get (D := (dC, dI)) (ci := 6) (v := .int 0) (C := RX6) (T := TX6) (N := 7) hx hb hts hin6 hown hK hP 0 rfl rfl 1 (by decide) (ho (.fieldLink RX6 36 "NearEnough$Scanner" "length" "I") (List.mem_of_getElem? (i := 1) rfl)) (fun _ h9 => h9) rfl dX6_advance_65 ?_
  refine lv_icmp_lt (tgt := 79) hx hb dX6_advance_68 (by decide) (fun cc => absurd cc (by decide)) (fun _ => ?_)
  refine lv_aload_n hx hb dX6_advance_71 rfl (lv_at hl 0 rfl) ?_
  refine lv_iconst (v := 5) hx hb dX6_advance_72 (by decide) ?_
  refine va_put (D := (dC, dI)) (ci := 6) (v := .int 5) (ty := tyX6 3) (C := RX6) (T := TX6) (N := 7) hx hb hts hin6 tyX6 tyX6_ok nmX6 hown hK hP hD hS 0 rfl rfl 3 (by decide) (ho (.fieldLink RX6 13 "NearEnough$Scanner" "kind" "I") (List.mem_of_getElem? (i := 3) rfl)) (fun _ h9 => h9) rfl (by decide +kernel) rfl rfl (Nat.le_of_ble_eq_true rfl) dX6_advance_73 (fun H locs hP hD hS => ?_)
  have hP : va_P (dC, dI) vwCl [(h0, .inr (6, [.ref tp, .int 0, .int 0, .int 5, .int 0, .long 0, .int 0]))] H := hP
  have hD : va_D A [(h0, .inr (6, [.ref tp, .int 0, .int 0, .int 5, .int 0, .long 0, .int 0]))] := hD
  refine lv_goto (tgt := 153) hx hb dX6_advance_76 (by decide) ?_
  refine W.widen (k := 0) (n := 0) (Nat.le_of_ble_eq_true rfl) (Nat.le_of_ble_eq_true rfl) ?_
  exact W.vret hx hb hr (fun t ht hW => ⟨⟨(), rfl, trivial, wEn_of (hP.sub [0] rfl) (hK.sub [] rfl) (hD.sub [0] (by decide) rfl) ht hW⟩, hS.F ht⟩) hS.2.2 dX6_advance_153
def ow_c_Reader_init : List Cond := [.methodLink RX4 3 objectInit, .instanceMethod objectInit, .code objectInit ⟨#[0xb1]⟩ 1 none, .classLink RX4 9 RX3, .instantiable RX3 8, .initialized RX3, .instanceMethod yX3_init, .fieldLink RX4 12 "NearEnough$Reader" "told" "LNearEnough$Program;", .fieldLink RX4 18 "NearEnough$Reader" "fault" "I", .fieldLink RX4 22 "NearEnough$Reader" "faultPlace" "I", .classLink RX4 25 RX6, .instantiable RX6 7, .initialized RX6, .methodLink RX4 27 yX6_init, .instanceMethod yX6_init, .fieldLink RX4 30 "NearEnough$Reader" "scanner" "LNearEnough$Scanner;"]
def vs_c_Reader_init : List Cond := .code yX4_init cX4_init 3 none :: (ow_c_Reader_init ++ (vs_c_Program_init ++ (vs_c_Scanner_init ++ (wsX30 ++ (wsX40 ++ (wsX60))))))
theorem vg_c_Reader_init : vs_c_Reader_init.all goodWord = true := by decide +kernel
theorem gd_c_Reader_init_11_c_Program_init : GoodIn vs_c_Reader_init (vs_c_Program_init) := (goodIn_sub (fun w h => (List.mem_cons_of_mem _ (List.mem_append_right _ (List.mem_append_left _ h)))) vg_c_Program_init)
theorem gd_c_Reader_init_27_c_Scanner_init : GoodIn vs_c_Reader_init (vs_c_Scanner_init) := (goodIn_sub (fun w h => (List.mem_cons_of_mem _ (List.mem_append_right _ (List.mem_append_right _ (List.mem_append_left _ h))))) vg_c_Scanner_init)
set_option maxHeartbeats 4000000 in
set_option maxRecDepth 100000 in
theorem c_Reader_init (l : Launch) (dC : Nat → ClassId) (dI : Nat → Nat → Nat) (h0 : Nat) (tp : Nat) (kt : ClassId) (sz : Nat) : Met l yX4_init vs_c_Reader_init ({ frames := 2, cells := 7, slots := 41, locals := 46 }) (va_Pc [.ref h0, .ref tp, .int 0] (wSt dC dI [(h0, .inr (4, [.null, .null, .int 0, .int 0])), (tp, .inl (kt, 1000, .inl (fun _ => 0)))] [(kt, .byte)] sz)) (va_Qv (fun (_ : Nat × Nat × Nat × Nat × Nat × Nat × Nat × ClassId × ClassId × ClassId × ClassId × ClassId) => True) (fun (u : Nat × Nat × Nat × Nat × Nat × Nat × Nat × ClassId × ClassId × ClassId × ClassId × ClassId) => wEn dC dI (va_A [(h0, .inr (4, [.null, .null, .int 0, .int 0])), (tp, .inl (kt, 1000, .inl (fun _ => 0)))] sz) [(h0, .inr (4, [.ref u.1, .ref u.2.1, .int 0, .int (-1)])), (tp, .inl (kt, 1000, .inl (fun _ => 0))), (u.1, .inr (6, [.ref tp, .int 0, .int 0, .int 0, .int 0, .long 0, .int 0])), (u.2.1, .inr (3, [.ref u.2.2.1, .ref u.2.2.2.1, .ref u.2.2.2.2.1, .ref u.2.2.2.2.2.1, .ref u.2.2.2.2.2.2.1, .int 0, .int 0, .int 0])), (u.2.2.1, .inl (u.2.2.2.2.2.2.2.1, 2, .inr (.inr (.inr (.inr (fun _ => none)))))), (u.2.2.2.1, .inl (u.2.2.2.2.2.2.2.2.1, 12, .inr (.inr (.inr (.inr (fun _ => none)))))), (u.2.2.2.2.1, .inl (u.2.2.2.2.2.2.2.2.2.1, 4, .inl (fun _ => 0))), (u.2.2.2.2.2.1, .inl (u.2.2.2.2.2.2.2.2.2.2.1, 4, .inl (fun _ => 0))), (u.2.2.2.2.2.2.1, .inl (u.2.2.2.2.2.2.2.2.2.2.2, 4, .inl (fun _ => 0)))] [(u.2.2.2.2.2.2.2.1, .object RX5), (u.2.2.2.2.2.2.2.2.1, .object RX9), (u.2.2.2.2.2.2.2.2.2.1, .int), (u.2.2.2.2.2.2.2.2.2.2.1, .int), (u.2.2.2.2.2.2.2.2.2.2.2, .int)]) (va_A [(h0, .inr (4, [.null, .null, .int 0, .int 0])), (tp, .inl (kt, 1000, .inl (fun _ => 0)))] sz)) 7 41 (va_A [(h0, .inr (4, [.null, .null, .int 0, .int 0])), (tp, .inl (kt, 1000, .inl (fun _ => 0)))] sz) := by
  refine Met.ofW (cc := cX4_init) (maxL := 3) (ret := none) (by decide) rfl ?_
  intro p e s m args below meth c s₁ B hml hv
  obtain ⟨rfl, hsz, hP, hK, hD0, hE⟩ := hv
  have hx := B.exec
  have hb := B.bytes
  have hr := B.returns
  have hts := atoms_spec (ws := vs_c_Reader_init) B.pre
  have hown : s.vm.findClass RX4 = some m.cls := findClass_of_methodNamed B.named
  have hlocks := B.notSynchronized
  have hin : meth.name = "<init>" := (name_of_methodNamed B.named B.method).1
  subst hsz
  have hD := hD0.self (sz := s.heap.size)
  generalize hAe : va_A [(h0, .inr (4, [.null, .null, .int 0, .int 0])), (tp, .inl (kt, 1000, .inl (fun _ => 0)))] s.heap.size = A at hD ⊢
  have hA : ∀ q : Nat, s.heap.size ≤ q → A q := fun q h => by rw [← hAe]; exact Or.inr h
  have hl := lv_entry ([.ref h0, .ref tp, .int 0]) (n := 3) (Nat.le_of_ble_eq_true rfl)
  rw [lg_entry_eq]
  generalize (lg_sl ([.ref h0, .ref tp, .int 0]) ++ List.replicate (3 - (lg_sl ([.ref h0, .ref tp, .int 0])).length) Slot.unset).toArray = ls at hl ⊢
  have hl : lv_has ls 3 [(0, .ref h0), (1, .ref tp), (2, .int 0)] := hl
  refine zH (A := A) (ws := [(h0, .inr (4, [.null, .null, .int 0, .int 0])), (tp, .inl (kt, 1000, .inl (fun _ => 0)))]) (fun H hP hS => ?_) hP
  have ho := fun w (h : w ∈ ow_c_Reader_init) => hts w (List.mem_cons_of_mem _ (List.mem_append_left _ h))
  have hin3 : ∀ w ∈ u_ws RX3 TX3 8, w ∈ vs_c_Reader_init := fun w h => (List.mem_cons_of_mem _ (List.mem_append_right _ (List.mem_append_right _ (List.mem_append_right _ (List.mem_append_left _ h)))))
  have hin4 : ∀ w ∈ u_ws RX4 TX4 4, w ∈ vs_c_Reader_init := fun w h => (List.mem_cons_of_mem _ (List.mem_append_right _ (List.mem_append_right _ (List.mem_append_right _ (List.mem_append_right _ (List.mem_append_left _ h))))))
  have hin6 : ∀ w ∈ u_ws RX6 TX6 7, w ∈ vs_c_Reader_init := fun w h => (List.mem_cons_of_mem _ (List.mem_append_right _ (List.mem_append_right _ (List.mem_append_right _ (List.mem_append_right _ (List.mem_append_right _ h))))))
  refine lv_aload_n hx hb dX4_init_0 rfl (lv_at hl 0 rfl) ?_
  refine W.objInit hx hb hown (ho (.methodLink RX4 3 objectInit) (List.mem_of_getElem? (i := 0) rfl)) (ho (.instanceMethod objectInit) (List.mem_of_getElem? (i := 1) rfl)) (ho (.code objectInit ⟨#[0xb1]⟩ 1 none) (List.mem_of_getElem? (i := 2) rfl)) rfl (by rw [hml]; exact hl.1) rfl dX4_init_1 (Nat.le_of_ble_eq_true rfl) (Nat.le_of_ble_eq_true rfl) ?_
  refine W.eq (g2 := F0 m 4 ls []) rfl ?_
  refine lv_aload_n hx hb dX4_init_4 rfl (lv_at hl 0 rfl) ?_
  refine va_new (ci := 3) (fs := [.null, .null, .null, .null, .null, .int 0, .int 0, .int 0]) (C := RX3) (T := TX3) (N := 8) hx hb hts hin3 tyX3 tyX3_ok hown (ho (.classLink RX4 9 RX3) (List.mem_of_getElem? (i := 3) rfl)) (ho (.instantiable RX3 8) (List.mem_of_getElem? (i := 4) rfl)) (ho (.initialized RX3) (List.mem_of_getElem? (i := 5) rfl)) hK hP hD hS hA rfl (by decide) (Nat.le_of_ble_eq_true rfl) (Nat.le_of_ble_eq_true rfl) dX4_init_5 (fun q1 H hP hD hS => ?_)
  have hP : va_P (dC, dI) vwCl [(h0, .inr (4, [.null, .null, .int 0, .int 0])), (tp, .inl (kt, 1000, .inl (fun _ => 0))), (q1, .inr (3, [.null, .null, .null, .null, .null, .int 0, .int 0, .int 0]))] H := hP
  have hD : va_D A [(h0, .inr (4, [.null, .null, .int 0, .int 0])), (tp, .inl (kt, 1000, .inl (fun _ => 0))), (q1, .inr (3, [.null, .null, .null, .null, .null, .int 0, .int 0, .int 0]))] := hD
  refine W.widen (k := 1) (n := 8) (Nat.le_of_ble_eq_true rfl) (Nat.le_of_ble_eq_true rfl) ?_
  refine lv_dup hx hb dX4_init_8 rfl ?_
  have hPc := hP.sub (ws' := [(q1, .inr (3, [.null, .null, .null, .null, .null, .int 0, .int 0, .int 0]))]) [2] rfl
  have hDc := hD.sub (ws' := [(q1, .inr (3, [.null, .null, .null, .null, .null, .int 0, .int 0, .int 0]))]) [2] (by decide) rfl
  have hKc := hK.sub (tys' := []) [] rfl
  refine zz_v (wr := [(h0, .inr (4, [.null, .null, .int 0, .int 0])), (tp, .inl (kt, 1000, .inl (fun _ => 0)))]) (va_runIN (host := "NearEnough") (As := []) (rest := [.ref q1, .ref h0]) ⟨hx, hb, hml, hown, hts⟩ (c_Program_init l dC dI q1 H.size) ⟨va_cnB 0 hts gd_c_Reader_init_11_c_Program_init rfl rfl rfl hE.nX4_11 (ho (.initialized RX3) (List.mem_of_getElem? (i := 5) rfl)) (by decide +kernel) ⟨Nat.le_of_ble_eq_true rfl, Nat.le_of_ble_eq_true rfl⟩, rfl, (ho (.instanceMethod yX3_init) (List.mem_of_getElem? (i := 6) rfl))⟩ (preS hPc hKc hDc hE) rfl rfl hl.1 rfl (lv_room (Nat.le_of_ble_eq_true rfl)) dX4_init_9 ⟨Nat.le_of_ble_eq_true rfl, Nat.le_of_ble_eq_true rfl⟩) hK hP hD hS hA [2] [0, 1] rfl rfl (by decide) (by decide) (fun u H locs hK hP hD hS => ?_)
  obtain ⟨r2, r3, r4, r5, r6, k7, k8, k9, k10, k11⟩ := u
  have hP : va_P (dC, dI) vwCl [(h0, .inr (4, [.null, .null, .int 0, .int 0])), (tp, .inl (kt, 1000, .inl (fun _ => 0))), (q1, .inr (3, [.ref r2, .ref r3, .ref r4, .ref r5, .ref r6, .int 0, .int 0, .int 0])), (r2, .inl (k7, 2, .inr (.inr (.inr (.inr (fun _ => none)))))), (r3, .inl (k8, 12, .inr (.inr (.inr (.inr (fun _ => none)))))), (r4, .inl (k9, 4, .inl (fun _ => 0))), (r5, .inl (k10, 4, .inl (fun _ => 0))), (r6, .inl (k11, 4, .inl (fun _ => 0)))] H := hP
  have hD : va_D A [(h0, .inr (4, [.null, .null, .int 0, .int 0])), (tp, .inl (kt, 1000, .inl (fun _ => 0))), (q1, .inr (3, [.ref r2, .ref r3, .ref r4, .ref r5, .ref r6, .int 0, .int 0, .int 0])), (r2, .inl (k7, 2, .inr (.inr (.inr (.inr (fun _ => none)))))), (r3, .inl (k8, 12, .inr (.inr (.inr (.inr (fun _ => none)))))), (r4, .inl (k9, 4, .inl (fun _ => 0))), (r5, .inl (k10, 4, .inl (fun _ => 0))), (r6, .inl (k11, 4, .inl (fun _ => 0)))] := hD
  have hK : va_K (dC, dI) vwCl [(kt, .byte), (k7, .object RX5), (k8, .object RX9), (k9, .int), (k10, .int), (k11, .int)] s := hK
  refine W.widen (k := 6) (n := 34) (Nat.le_of_ble_eq_true rfl) (Nat.le_of_ble_eq_true rfl) ?_
  refine va_putF (D := (dC, dI)) (ci := 4) (v := .ref q1) (ty := tyX4 1) (C := RX4) (T := TX4) (N := 4) hx hb hts hin4 tyX4 tyX4_ok nmX4 hown hK hP hD hS 0 rfl rfl 1 (by decide) (ho (.fieldLink RX4 12 "NearEnough$Reader" "told" "LNearEnough$Program;") (List.mem_of_getElem? (i := 7) rfl)) (fun _ h9 => h9) rfl hin rfl (by decide +kernel) rfl rfl (Nat.le_of_ble_eq_true rfl) dX4_init_12 (fun H locs hP hD hS => ?_)
  have hP : va_P (dC, dI) vwCl [(h0, .inr (4, [.null, .ref q1, .int 0, .int 0])), (tp, .inl (kt, 1000, .inl (fun _ => 0))), (q1, .inr (3, [.ref r2, .ref r3, .ref r4, .ref r5, .ref r6, .int 0, .int 0, .int 0])), (r2, .inl (k7, 2, .inr (.inr (.inr (.inr (fun _ => none)))))), (r3, .inl (k8, 12, .inr (.inr (.inr (.inr (fun _ => none)))))), (r4, .inl (k9, 4, .inl (fun _ => 0))), (r5, .inl (k10, 4, .inl (fun _ => 0))), (r6, .inl (k11, 4, .inl (fun _ => 0)))] H := hP
  have hD : va_D A [(h0, .inr (4, [.null, .ref q1, .int 0, .int 0])), (tp, .inl (kt, 1000, .inl (fun _ => 0))), (q1, .inr (3, [.ref r2, .ref r3, .ref r4, .ref r5, .ref r6, .int 0, .int 0, .int 0])), (r2, .inl (k7, 2, .inr (.inr (.inr (.inr (fun _ => none)))))), (r3, .inl (k8, 12, .inr (.inr (.inr (.inr (fun _ => none)))))), (r4, .inl (k9, 4, .inl (fun _ => 0))), (r5, .inl (k10, 4, .inl (fun _ => 0))), (r6, .inl (k11, 4, .inl (fun _ => 0)))] := hD
  refine lv_aload_n hx hb dX4_init_15 rfl (lv_at hl 0 rfl) ?_
  refine lv_iconst (v := 0) hx hb dX4_init_16 (by decide) ?_
  refine va_put (D := (dC, dI)) (ci := 4) (v := .int 0) (ty := tyX4 2) (C := RX4) (T := TX4) (N := 4) hx hb hts hin4 tyX4 tyX4_ok nmX4 hown hK hP hD hS 0 rfl rfl 2 (by decide) (ho (.fieldLink RX4 18 "NearEnough$Reader" "fault" "I") (List.mem_of_getElem? (i := 8) rfl)) (fun _ h9 => h9) rfl (by decide +kernel) rfl rfl (Nat.le_of_ble_eq_true rfl) dX4_init_17 (fun H locs hP hD hS => ?_)
  have hP : va_P (dC, dI) vwCl [(h0, .inr (4, [.null, .ref q1, .int 0, .int 0])), (tp, .inl (kt, 1000, .inl (fun _ => 0))), (q1, .inr (3, [.ref r2, .ref r3, .ref r4, .ref r5, .ref r6, .int 0, .int 0, .int 0])), (r2, .inl (k7, 2, .inr (.inr (.inr (.inr (fun _ => none)))))), (r3, .inl (k8, 12, .inr (.inr (.inr (.inr (fun _ => none)))))), (r4, .inl (k9, 4, .inl (fun _ => 0))), (r5, .inl (k10, 4, .inl (fun _ => 0))), (r6, .inl (k11, 4, .inl (fun _ => 0)))] H := hP
  have hD : va_D A [(h0, .inr (4, [.null, .ref q1, .int 0, .int 0])), (tp, .inl (kt, 1000, .inl (fun _ => 0))), (q1, .inr (3, [.ref r2, .ref r3, .ref r4, .ref r5, .ref r6, .int 0, .int 0, .int 0])), (r2, .inl (k7, 2, .inr (.inr (.inr (.inr (fun _ => none)))))), (r3, .inl (k8, 12, .inr (.inr (.inr (.inr (fun _ => none)))))), (r4, .inl (k9, 4, .inl (fun _ => 0))), (r5, .inl (k10, 4, .inl (fun _ => 0))), (r6, .inl (k11, 4, .inl (fun _ => 0)))] := hD
  refine lv_aload_n hx hb dX4_init_20 rfl (lv_at hl 0 rfl) ?_
  refine lv_iconst (v := (-1)) hx hb dX4_init_21 (by decide) ?_
  refine va_put (D := (dC, dI)) (ci := 4) (v := .int (-1)) (ty := tyX4 3) (C := RX4) (T := TX4) (N := 4) hx hb hts hin4 tyX4 tyX4_ok nmX4 hown hK hP hD hS 0 rfl rfl 3 (by decide) (ho (.fieldLink RX4 22 "NearEnough$Reader" "faultPlace" "I") (List.mem_of_getElem? (i := 9) rfl)) (fun _ h9 => h9) rfl (by decide +kernel) rfl rfl (Nat.le_of_ble_eq_true rfl) dX4_init_22 (fun H locs hP hD hS => ?_)
  have hP : va_P (dC, dI) vwCl [(h0, .inr (4, [.null, .ref q1, .int 0, .int (-1)])), (tp, .inl (kt, 1000, .inl (fun _ => 0))), (q1, .inr (3, [.ref r2, .ref r3, .ref r4, .ref r5, .ref r6, .int 0, .int 0, .int 0])), (r2, .inl (k7, 2, .inr (.inr (.inr (.inr (fun _ => none)))))), (r3, .inl (k8, 12, .inr (.inr (.inr (.inr (fun _ => none)))))), (r4, .inl (k9, 4, .inl (fun _ => 0))), (r5, .inl (k10, 4, .inl (fun _ => 0))), (r6, .inl (k11, 4, .inl (fun _ => 0)))] H := hP
  have hD : va_D A [(h0, .inr (4, [.null, .ref q1, .int 0, .int (-1)])), (tp, .inl (kt, 1000, .inl (fun _ => 0))), (q1, .inr (3, [.ref r2, .ref r3, .ref r4, .ref r5, .ref r6, .int 0, .int 0, .int 0])), (r2, .inl (k7, 2, .inr (.inr (.inr (.inr (fun _ => none)))))), (r3, .inl (k8, 12, .inr (.inr (.inr (.inr (fun _ => none)))))), (r4, .inl (k9, 4, .inl (fun _ => 0))), (r5, .inl (k10, 4, .inl (fun _ => 0))), (r6, .inl (k11, 4, .inl (fun _ => 0)))] := hD
  refine lv_aload_n hx hb dX4_init_25 rfl (lv_at hl 0 rfl) ?_
  refine va_new (ci := 6) (fs := [.null, .int 0, .int 0, .int 0, .int 0, .long 0, .int 0]) (C := RX6) (T := TX6) (N := 7) hx hb hts hin6 tyX6 tyX6_ok hown (ho (.classLink RX4 25 RX6) (List.mem_of_getElem? (i := 10) rfl)) (ho (.instantiable RX6 7) (List.mem_of_getElem? (i := 11) rfl)) (ho (.initialized RX6) (List.mem_of_getElem? (i := 12) rfl)) hK hP hD hS hA rfl (by decide) (Nat.le_of_ble_eq_true rfl) (Nat.le_of_ble_eq_true rfl) dX4_init_26 (fun q12 H hP hD hS => ?_)
  have hP : va_P (dC, dI) vwCl [(h0, .inr (4, [.null, .ref q1, .int 0, .int (-1)])), (tp, .inl (kt, 1000, .inl (fun _ => 0))), (q1, .inr (3, [.ref r2, .ref r3, .ref r4, .ref r5, .ref r6, .int 0, .int 0, .int 0])), (r2, .inl (k7, 2, .inr (.inr (.inr (.inr (fun _ => none)))))), (r3, .inl (k8, 12, .inr (.inr (.inr (.inr (fun _ => none)))))), (r4, .inl (k9, 4, .inl (fun _ => 0))), (r5, .inl (k10, 4, .inl (fun _ => 0))), (r6, .inl (k11, 4, .inl (fun _ => 0))), (q12, .inr (6, [.null, .int 0, .int 0, .int 0, .int 0, .long 0, .int 0]))] H := hP
  have hD : va_D A [(h0, .inr (4, [.null, .ref q1, .int 0, .int (-1)])), (tp, .inl (kt, 1000, .inl (fun _ => 0))), (q1, .inr (3, [.ref r2, .ref r3, .ref r4, .ref r5, .ref r6, .int 0, .int 0, .int 0])), (r2, .inl (k7, 2, .inr (.inr (.inr (.inr (fun _ => none)))))), (r3, .inl (k8, 12, .inr (.inr (.inr (.inr (fun _ => none)))))), (r4, .inl (k9, 4, .inl (fun _ => 0))), (r5, .inl (k10, 4, .inl (fun _ => 0))), (r6, .inl (k11, 4, .inl (fun _ => 0))), (q12, .inr (6, [.null, .int 0, .int 0, .int 0, .int 0, .long 0, .int 0]))] := hD
  refine W.widen (k := 7) (n := 41) (Nat.le_of_ble_eq_true rfl) (Nat.le_of_ble_eq_true rfl) ?_
  refine lv_dup hx hb dX4_init_29 rfl ?_
  refine lv_aload_n hx hb dX4_init_30 rfl (lv_at hl 1 rfl) ?_
  refine lv_iload_n hx hb dX4_init_31 rfl (lv_at hl 2 rfl) ?_
  have hPc := hP.sub (ws' := [(q12, .inr (6, [.null, .int 0, .int 0, .int 0, .int 0, .long 0, .int 0])), (tp, .inl (kt, 1000, .inl (fun _ => 0)))]) [8, 1] rfl
  have hDc := hD.sub (ws' := [(q12, .inr (6, [.null, .int 0, .int 0, .int 0, .int 0, .long 0, .int 0])), (tp, .inl (kt, 1000, .inl (fun _ => 0)))]) [8, 1] (by decide) rfl
  have hKc := hK.sub (tys' := [(kt, .byte)]) [0] rfl
  refine zz_v (wr := [(h0, .inr (4, [.null, .ref q1, .int 0, .int (-1)])), (q1, .inr (3, [.ref r2, .ref r3, .ref r4, .ref r5, .ref r6, .int 0, .int 0, .int 0])), (r2, .inl (k7, 2, .inr (.inr (.inr (.inr (fun _ => none)))))), (r3, .inl (k8, 12, .inr (.inr (.inr (.inr (fun _ => none)))))), (r4, .inl (k9, 4, .inl (fun _ => 0))), (r5, .inl (k10, 4, .inl (fun _ => 0))), (r6, .inl (k11, 4, .inl (fun _ => 0)))]) (va_runI (As := [.ref tp, .int 0]) (rest := [.ref q12, .ref h0]) ⟨hx, hb, hml, hown, hts⟩ (c_Scanner_init l dC dI q12 tp kt H.size) (cwI 2 hts gd_c_Reader_init_27_c_Scanner_init rfl rfl rfl (ho (.initialized RX6) (List.mem_of_getElem? (i := 12) rfl)) (ho (.methodLink RX4 27 yX6_init) (List.mem_of_getElem? (i := 13) rfl)) (ho (.instanceMethod yX6_init) (List.mem_of_getElem? (i := 14) rfl)) rfl (by decide +kernel) ⟨Nat.le_of_ble_eq_true rfl, Nat.le_of_ble_eq_true rfl⟩) (preS hPc hKc hDc hE) rfl rfl hl.1 rfl (lv_room (Nat.le_of_ble_eq_true rfl)) dX4_init_32 ⟨Nat.le_of_ble_eq_true rfl, Nat.le_of_ble_eq_true rfl⟩) hK hP hD hS hA [8, 1] [0, 2, 3, 4, 5, 6, 7] rfl rfl (by decide) (by decide) (fun u H locs hK hP hD hS => ?_)
  have hP : va_P (dC, dI) vwCl [(h0, .inr (4, [.null, .ref q1, .int 0, .int (-1)])), (q1, .inr (3, [.ref r2, .ref r3, .ref r4, .ref r5, .ref r6, .int 0, .int 0, .int 0])), (r2, .inl (k7, 2, .inr (.inr (.inr (.inr (fun _ => none)))))), (r3, .inl (k8, 12, .inr (.inr (.inr (.inr (fun _ => none)))))), (r4, .inl (k9, 4, .inl (fun _ => 0))), (r5, .inl (k10, 4, .inl (fun _ => 0))), (r6, .inl (k11, 4, .inl (fun _ => 0))), (q12, .inr (6, [.ref tp, .int 0, .int 0, .int 0, .int 0, .long 0, .int 0])), (tp, .inl (kt, 1000, .inl (fun _ => 0)))] H := hP
  have hD : va_D A [(h0, .inr (4, [.null, .ref q1, .int 0, .int (-1)])), (q1, .inr (3, [.ref r2, .ref r3, .ref r4, .ref r5, .ref r6, .int 0, .int 0, .int 0])), (r2, .inl (k7, 2, .inr (.inr (.inr (.inr (fun _ => none)))))), (r3, .inl (k8, 12, .inr (.inr (.inr (.inr (fun _ => none)))))), (r4, .inl (k9, 4, .inl (fun _ => 0))), (r5, .inl (k10, 4, .inl (fun _ => 0))), (r6, .inl (k11, 4, .inl (fun _ => 0))), (q12, .inr (6, [.ref tp, .int 0, .int 0, .int 0, .int 0, .long 0, .int 0])), (tp, .inl (kt, 1000, .inl (fun _ => 0)))] := hD
  have hK : va_K (dC, dI) vwCl [(kt, .byte), (k7, .object RX5), (k8, .object RX9), (k9, .int), (k10, .int), (k11, .int)] s := hK
  refine W.widen (k := 7) (n := 41) (Nat.le_of_ble_eq_true rfl) (Nat.le_of_ble_eq_true rfl) ?_
  refine va_putF (D := (dC, dI)) (ci := 4) (v := .ref q12) (ty := tyX4 0) (C := RX4) (T := TX4) (N := 4) hx hb hts hin4 tyX4 tyX4_ok nmX4 hown hK hP hD hS 0 rfl rfl 0 (by decide) (ho (.fieldLink RX4 30 "NearEnough$Reader" "scanner" "LNearEnough$Scanner;") (List.mem_of_getElem? (i := 15) rfl)) (fun _ h9 => h9) rfl hin rfl (by decide +kernel) rfl rfl (Nat.le_of_ble_eq_true rfl) dX4_init_35 (fun H locs hP hD hS => ?_)
  have hP : va_P (dC, dI) vwCl [(h0, .inr (4, [.ref q12, .ref q1, .int 0, .int (-1)])), (q1, .inr (3, [.ref r2, .ref r3, .ref r4, .ref r5, .ref r6, .int 0, .int 0, .int 0])), (r2, .inl (k7, 2, .inr (.inr (.inr (.inr (fun _ => none)))))), (r3, .inl (k8, 12, .inr (.inr (.inr (.inr (fun _ => none)))))), (r4, .inl (k9, 4, .inl (fun _ => 0))), (r5, .inl (k10, 4, .inl (fun _ => 0))), (r6, .inl (k11, 4, .inl (fun _ => 0))), (q12, .inr (6, [.ref tp, .int 0, .int 0, .int 0, .int 0, .long 0, .int 0])), (tp, .inl (kt, 1000, .inl (fun _ => 0)))] H := hP
  have hD : va_D A [(h0, .inr (4, [.ref q12, .ref q1, .int 0, .int (-1)])), (q1, .inr (3, [.ref r2, .ref r3, .ref r4, .ref r5, .ref r6, .int 0, .int 0, .int 0])), (r2, .inl (k7, 2, .inr (.inr (.inr (.inr (fun _ => none)))))), (r3, .inl (k8, 12, .inr (.inr (.inr (.inr (fun _ => none)))))), (r4, .inl (k9, 4, .inl (fun _ => 0))), (r5, .inl (k10, 4, .inl (fun _ => 0))), (r6, .inl (k11, 4, .inl (fun _ => 0))), (q12, .inr (6, [.ref tp, .int 0, .int 0, .int 0, .int 0, .long 0, .int 0])), (tp, .inl (kt, 1000, .inl (fun _ => 0)))] := hD
  refine W.widen (k := 7) (n := 41) (Nat.le_of_ble_eq_true rfl) (Nat.le_of_ble_eq_true rfl) ?_
  exact W.vret hx hb hr (fun t ht hW => ⟨⟨(q12, q1, r2, r3, r4, r5, r6, k7, k8, k9, k10, k11), rfl, trivial, wEn_of (hP.sub [0, 8, 7, 1, 2, 3, 4, 5, 6] rfl) (hK.sub [1, 2, 3, 4, 5] rfl) (hD.sub [0, 8, 7, 1, 2, 3, 4, 5, 6] (by decide) rfl) ht hW⟩, hS.F ht⟩) hS.2.2 dX4_init_38
def ow_c_readAll : List Cond := [.fieldLink RX4 30 "NearEnough$Reader" "scanner" "LNearEnough$Scanner;", .fieldLink RX4 18 "NearEnough$Reader" "fault" "I", .fieldLink RX4 37 "NearEnough$Scanner" "kind" "I"]
def vs_c_readAll : List Cond := .code yX4_readAll cX4_readAll 2 none :: (ow_c_readAll ++ (([.methodLink RX4 34 yX6_advance, .instanceMethod yX6_advance, .selects RX6 yX6_advance yX6_advance, .initialized RX6] : List Cond) ++ (vs_c_Scanner_advance ++ (wsX40 ++ (wsX60)))))
theorem vg_c_readAll : vs_c_readAll.all goodWord = true := by decide +kernel
theorem gd_c_readAll_34_c_Scanner_advance : GoodIn vs_c_readAll (wsV RX4 34 RX6 yX6_advance vs_c_Scanner_advance) := goodIn_app (goodIn_sub (fun w h => (List.mem_cons_of_mem _ (List.mem_append_right _ (List.mem_append_left _ h)))) (by decide +kernel)) (goodIn_sub (fun w h => (List.mem_cons_of_mem _ (List.mem_append_right _ (List.mem_append_right _ (List.mem_append_left _ h))))) vg_c_Scanner_advance)
set_option maxHeartbeats 4000000 in
set_option maxRecDepth 100000 in
theorem c_readAll (l : Launch) (dC : Nat → ClassId) (dI : Nat → Nat → Nat) (h0 : Nat) (sc : Nat) (pg : Nat) (tp : Nat) (sz : Nat) : Met l yX4_readAll vs_c_readAll ({ frames := 1, cells := 0, slots := 0, locals := 20 }) (va_Pc [.ref h0] (wSt dC dI [(h0, .inr (4, [.ref sc, .ref pg, .int 0, .int (-1)])), (sc, .inr (6, [.ref tp, .int 0, .int 0, .int 0, .int 0, .long 0, .int 0]))] [] sz)) (va_Qv (fun (_ : Unit) => True) (fun (u : Unit) => wEn dC dI (va_A [(h0, .inr (4, [.ref sc, .ref pg, .int 0, .int (-1)])), (sc, .inr (6, [.ref tp, .int 0, .int 0, .int 0, .int 0, .long 0, .int 0]))] sz) [(h0, .inr (4, [.ref sc, .ref pg, .int 0, .int (-1)])), (sc, .inr (6, [.ref tp, .int 0, .int 0, .int 5, .int 0, .long 0, .int 0]))] []) (va_A [(h0, .inr (4, [.ref sc, .ref pg, .int 0, .int (-1)])), (sc, .inr (6, [.ref tp, .int 0, .int 0, .int 0, .int 0, .long 0, .int 0]))] sz)) 0 0 (va_A [(h0, .inr (4, [.ref sc, .ref pg, .int 0, .int (-1)])), (sc, .inr (6, [.ref tp, .int 0, .int 0, .int 0, .int 0, .long 0, .int 0]))] sz) := by
  refine Met.ofW (cc := cX4_readAll) (maxL := 2) (ret := none) (by decide) rfl ?_
  intro p e s m args below meth c s₁ B hml hv
  obtain ⟨rfl, hsz, hP, hK, hD0, hE⟩ := hv
  have hx := B.exec
  have hb := B.bytes
  have hr := B.returns
  have hts := atoms_spec (ws := vs_c_readAll) B.pre
  have hown : s.vm.findClass RX4 = some m.cls := findClass_of_methodNamed B.named
  have hlocks := B.notSynchronized
  subst hsz
  have hD := hD0.self (sz := s.heap.size)
  generalize hAe : va_A [(h0, .inr (4, [.ref sc, .ref pg, .int 0, .int (-1)])), (sc, .inr (6, [.ref tp, .int 0, .int 0, .int 0, .int 0, .long 0, .int 0]))] s.heap.size = A at hD ⊢
  have hA : ∀ q : Nat, s.heap.size ≤ q → A q := fun q h => by rw [← hAe]; exact Or.inr h
  have hl := lv_entry ([.ref h0]) (n := 2) (Nat.le_of_ble_eq_true rfl)
  rw [lg_entry_eq]
  generalize (lg_sl ([.ref h0]) ++ List.replicate (2 - (lg_sl ([.ref h0])).length) Slot.unset).toArray = ls at hl ⊢
  have hl : lv_has ls 2 [(0, .ref h0)] := hl
  refine zH (A := A) (ws := [(h0, .inr (4, [.ref sc, .ref pg, .int 0, .int (-1)])), (sc, .inr (6, [.ref tp, .int 0, .int 0, .int 0, .int 0, .long 0, .int 0]))]) (fun H hP hS => ?_) hP
  have ho := fun w (h : w ∈ ow_c_readAll) => hts w (List.mem_cons_of_mem _ (List.mem_append_left _ h))
  have hin4 : ∀ w ∈ u_ws RX4 TX4 4, w ∈ vs_c_readAll := fun w h => (List.mem_cons_of_mem _ (List.mem_append_right _ (List.mem_append_right _ (List.mem_append_right _ (List.mem_append_left _ h)))))
  have hin6 : ∀ w ∈ u_ws RX6 TX6 7, w ∈ vs_c_readAll := fun w h => (List.mem_cons_of_mem _ (List.mem_append_right _ (List.mem_append_right _ (List.mem_append_right _ (List.mem_append_right _ h)))))
  refine lv_aload_n hx hb dX4_readAll_0 rfl (lv_at hl 0 rfl) ?_
  refine va_get (D := (dC, dI)) (ci := 4) (v := .ref sc) (C := RX4) (T := TX4) (N := 4) hx hb hts hin4 hown hK hP 0 rfl rfl 0 (by decide) (ho (.fieldLink RX4 30 "NearEnough$Reader" "scanner" "LNearEnough$Scanner;") (List.mem_of_getElem? (i := 0) rfl)) (fun _ h9 => h9) rfl dX4_readAll_1 ?_
  have hPc := hP.sub (ws' := [(sc, .inr (6, [.ref tp, .int 0, .int 0, .int 0, .int 0, .long 0, .int 0]))]) [1] rfl
  have hDc := hD.sub (ws' := [(sc, .inr (6, [.ref tp, .int 0, .int 0, .int 0, .int 0, .long 0, .int 0]))]) [1] (by decide) rfl
  have hKc := hK.sub (tys' := []) [] rfl
  refine zz_v (wr := [(h0, .inr (4, [.ref sc, .ref pg, .int 0, .int (-1)]))]) (va_runV (As := []) (rest := []) ⟨hx, hb, hml, hown, hts⟩ (c_Scanner_advance l dC dI sc tp H.size) (cwV 0 hts gd_c_readAll_34_c_Scanner_advance rfl rfl rfl (by decide +kernel) ⟨Nat.le_of_ble_eq_true rfl, Nat.le_of_ble_eq_true rfl⟩) (preV hPc hKc hDc hE (ci := 6) (q0 := 0) rfl rfl) rfl rfl hl.1 rfl (lv_room (Nat.le_of_ble_eq_true rfl)) dX4_readAll_4 ⟨Nat.le_of_ble_eq_true rfl, Nat.le_of_ble_eq_true rfl⟩) hK hP hD hS hA [1] [0] rfl rfl (by decide) (by decide) (fun u H locs hK hP hD hS => ?_)
  have hP : va_P (dC, dI) vwCl [(h0, .inr (4, [.ref sc, .ref pg, .int 0, .int (-1)])), (sc, .inr (6, [.ref tp, .int 0, .int 0, .int 5, .int 0, .long 0, .int 0]))] H := hP
  have hD : va_D A [(h0, .inr (4, [.ref sc, .ref pg, .int 0, .int (-1)])), (sc, .inr (6, [.ref tp, .int 0, .int 0, .int 5, .int 0, .long 0, .int 0]))] := hD
  have hK : va_K (dC, dI) vwCl [] s := hK
  refine W.widen (k := 0) (n := 0) (Nat.le_of_ble_eq_true rfl) (Nat.le_of_ble_eq_true rfl) ?_
  refine lv_iconst (v := 0) hx hb dX4_readAll_7 (by decide) ?_
  refine lv_istore_n (lv' := [(1, .int 0), (0, .ref h0)]) hx hb dX4_readAll_8 rfl hl (by decide) rfl (fun ls hl => ?_)
  refine lv_iload_n hx hb dX4_readAll_9 rfl (lv_at hl 0 rfl) ?_
  refine lv_sipush (v := 1000) hx hb dX4_readAll_10 (by decide) ?_
  refine lv_icmp_ge (tgt := 91) hx hb dX4_readAll_13 (by decide) (fun cc => absurd cc (by decide)) (fun _ => ?_)
  refine lv_aload_n hx hb dX4_readAll_16 rfl (lv_at hl 1 rfl) ?_
  refine va_get (D := (dC, dI)) (ci := 4) (v := .int 0) (C := RX4) (T := TX4) (N := 4) hx hb hts hin4 hown hK hP 0 rfl rfl 2 (by decide) (ho (.fieldLink RX4 18 "NearEnough$Reader" "fault" "I") (List.mem_of_getElem? (i := 1) rfl)) (fun _ h9 => h9) rfl dX4_readAll_17 ?_
  refine lv_if_ne (tgt := 91) hx hb dX4_readAll_20 (by decide) (fun cc => absurd cc (by decide)) (fun _ => ?_)
  refine lv_aload_n hx hb dX4_readAll_23 rfl (lv_at hl 1 rfl) ?_
  refine va_get (D := (dC, dI)) (ci := 4) (v := .ref sc) (C := RX4) (T := TX4) (N := 4) hx hb hts hin4 hown hK hP 0 rfl rfl 0 (by decide) (ho (.fieldLink RX4 30 "NearEnough$Reader" "scanner" "LNearEnough$Scanner;") (List.mem_of_getElem? (i := 0) rfl)) (fun _ h9 => h9) rfl dX4_readAll_24 ?_
  refine va_get (D := (dC, dI)) (ci := 6) (v := .int 5) (C := RX6) (T := TX6) (N := 7) hx hb hts hin6 hown hK hP 1 rfl rfl 3 (by decide) (ho (.fieldLink RX4 37 "NearEnough$Scanner" "kind" "I") (List.mem_of_getElem? (i := 2) rfl)) (fun _ h9 => h9) rfl dX4_readAll_27 ?_
  refine lv_iconst (v := 5) hx hb dX4_readAll_30 (by decide) ?_
  refine lv_icmp_eq (tgt := 91) hx hb dX4_readAll_31 (by decide) (fun _ => ?_) (fun cc => absurd (by decide) cc)
  refine W.widen (k := 0) (n := 0) (Nat.le_of_ble_eq_true rfl) (Nat.le_of_ble_eq_true rfl) ?_
  exact W.vret hx hb hr (fun t ht hW => ⟨⟨(), rfl, trivial, wEn_of (hP.sub [0, 1] rfl) (hK.sub [] rfl) (hD.sub [0, 1] (by decide) rfl) ht hW⟩, hS.F ht⟩) hS.2.2 dX4_readAll_91
def ow_c_become : List Cond := [.fieldLink RX3 33 "NearEnough$Program" "rowCount" "I", .fieldLink RX3 37 "NearEnough$Program" "stepCount" "I", .fieldLink RX3 40 "NearEnough$Program" "endCount" "I", .fieldLink RX3 11 "NearEnough$Program" "rows" "[LNearEnough$Row;", .fieldLink RX3 19 "NearEnough$Program" "steps" "[LNearEnough$Step;", .fieldLink RX3 23 "NearEnough$Program" "endStep" "[I", .methodLink RX3 43 arraycopyName, .native arraycopyName, .static arraycopyName, .initialized "java/lang/System", .fieldLink RX3 27 "NearEnough$Program" "endOff" "[I", .fieldLink RX3 30 "NearEnough$Program" "endKind" "[I"]
def vs_c_become : List Cond := .code yX3_become cX3_become 3 none :: (ow_c_become ++ (wsX30))
theorem vg_c_become : vs_c_become.all goodWord = true := by decide +kernel
set_option maxHeartbeats 4000000 in
set_option maxRecDepth 100000 in
theorem c_become (l : Launch) (dC : Nat → ClassId) (dI : Nat → Nat → Nat) (td : Nat) (r1 : Nat) (r2 : Nat) (r3 : Nat) (r4 : Nat) (r5 : Nat) (pg : Nat) (s1 : Nat) (s2 : Nat) (s3 : Nat) (s4 : Nat) (s5 : Nat) (kr1 : ClassId) (kr2 : ClassId) (kr3 : ClassId) (kr4 : ClassId) (kr5 : ClassId) (ls1 : ClassId) (ls2 : ClassId) (ls3 : ClassId) (ls4 : ClassId) (ls5 : ClassId) (sz : Nat) : Met l yX3_become vs_c_become ({ frames := 1, cells := 0, slots := 0, locals := 60 }) (va_Pc [.ref td, .ref pg] (wSt dC dI [(td, .inr (3, [.ref r1, .ref r2, .ref r3, .ref r4, .ref r5, .int 0, .int 0, .int 0])), (r1, .inl (kr1, 2, .inr (.inr (.inr (.inr (fun _ => none)))))), (r2, .inl (kr2, 12, .inr (.inr (.inr (.inr (fun _ => none)))))), (r3, .inl (kr3, 4, .inl (fun _ => 0))), (r4, .inl (kr4, 4, .inl (fun _ => 0))), (r5, .inl (kr5, 4, .inl (fun _ => 0))), (pg, .inr (3, [.ref s1, .ref s2, .ref s3, .ref s4, .ref s5, .int 0, .int 0, .int 0])), (s1, .inl (ls1, 2, .inr (.inr (.inr (.inr (fun _ => none)))))), (s2, .inl (ls2, 12, .inr (.inr (.inr (.inr (fun _ => none)))))), (s3, .inl (ls3, 4, .inl (fun _ => 0))), (s4, .inl (ls4, 4, .inl (fun _ => 0))), (s5, .inl (ls5, 4, .inl (fun _ => 0)))] [(kr1, .object RX5), (kr2, .object RX9), (kr3, .int), (kr4, .int), (kr5, .int), (ls1, .object RX5), (ls2, .object RX9), (ls3, .int), (ls4, .int), (ls5, .int)] sz)) (va_Qv (fun (_ : Unit) => True) (fun (u : Unit) => wEn dC dI (va_A [(td, .inr (3, [.ref r1, .ref r2, .ref r3, .ref r4, .ref r5, .int 0, .int 0, .int 0])), (r1, .inl (kr1, 2, .inr (.inr (.inr (.inr (fun _ => none)))))), (r2, .inl (kr2, 12, .inr (.inr (.inr (.inr (fun _ => none)))))), (r3, .inl (kr3, 4, .inl (fun _ => 0))), (r4, .inl (kr4, 4, .inl (fun _ => 0))), (r5, .inl (kr5, 4, .inl (fun _ => 0))), (pg, .inr (3, [.ref s1, .ref s2, .ref s3, .ref s4, .ref s5, .int 0, .int 0, .int 0])), (s1, .inl (ls1, 2, .inr (.inr (.inr (.inr (fun _ => none)))))), (s2, .inl (ls2, 12, .inr (.inr (.inr (.inr (fun _ => none)))))), (s3, .inl (ls3, 4, .inl (fun _ => 0))), (s4, .inl (ls4, 4, .inl (fun _ => 0))), (s5, .inl (ls5, 4, .inl (fun _ => 0)))] sz) [(td, .inr (3, [.ref r1, .ref r2, .ref r3, .ref r4, .ref r5, .int 0, .int 0, .int 0]))] []) (va_A [(td, .inr (3, [.ref r1, .ref r2, .ref r3, .ref r4, .ref r5, .int 0, .int 0, .int 0])), (r1, .inl (kr1, 2, .inr (.inr (.inr (.inr (fun _ => none)))))), (r2, .inl (kr2, 12, .inr (.inr (.inr (.inr (fun _ => none)))))), (r3, .inl (kr3, 4, .inl (fun _ => 0))), (r4, .inl (kr4, 4, .inl (fun _ => 0))), (r5, .inl (kr5, 4, .inl (fun _ => 0))), (pg, .inr (3, [.ref s1, .ref s2, .ref s3, .ref s4, .ref s5, .int 0, .int 0, .int 0])), (s1, .inl (ls1, 2, .inr (.inr (.inr (.inr (fun _ => none)))))), (s2, .inl (ls2, 12, .inr (.inr (.inr (.inr (fun _ => none)))))), (s3, .inl (ls3, 4, .inl (fun _ => 0))), (s4, .inl (ls4, 4, .inl (fun _ => 0))), (s5, .inl (ls5, 4, .inl (fun _ => 0)))] sz)) 0 0 (va_A [(td, .inr (3, [.ref r1, .ref r2, .ref r3, .ref r4, .ref r5, .int 0, .int 0, .int 0])), (r1, .inl (kr1, 2, .inr (.inr (.inr (.inr (fun _ => none)))))), (r2, .inl (kr2, 12, .inr (.inr (.inr (.inr (fun _ => none)))))), (r3, .inl (kr3, 4, .inl (fun _ => 0))), (r4, .inl (kr4, 4, .inl (fun _ => 0))), (r5, .inl (kr5, 4, .inl (fun _ => 0))), (pg, .inr (3, [.ref s1, .ref s2, .ref s3, .ref s4, .ref s5, .int 0, .int 0, .int 0])), (s1, .inl (ls1, 2, .inr (.inr (.inr (.inr (fun _ => none)))))), (s2, .inl (ls2, 12, .inr (.inr (.inr (.inr (fun _ => none)))))), (s3, .inl (ls3, 4, .inl (fun _ => 0))), (s4, .inl (ls4, 4, .inl (fun _ => 0))), (s5, .inl (ls5, 4, .inl (fun _ => 0)))] sz) := by
  refine Met.ofW (cc := cX3_become) (maxL := 3) (ret := none) (by decide) rfl ?_
  intro p e s m args below meth c s₁ B hml hv
  obtain ⟨rfl, hsz, hP, hK, hD0, hE⟩ := hv
  have hx := B.exec
  have hb := B.bytes
  have hr := B.returns
  have hts := atoms_spec (ws := vs_c_become) B.pre
  have hown : s.vm.findClass RX3 = some m.cls := findClass_of_methodNamed B.named
  have hlocks := B.notSynchronized
  subst hsz
  have hD := hD0.self (sz := s.heap.size)
  generalize hAe : va_A [(td, .inr (3, [.ref r1, .ref r2, .ref r3, .ref r4, .ref r5, .int 0, .int 0, .int 0])), (r1, .inl (kr1, 2, .inr (.inr (.inr (.inr (fun _ => none)))))), (r2, .inl (kr2, 12, .inr (.inr (.inr (.inr (fun _ => none)))))), (r3, .inl (kr3, 4, .inl (fun _ => 0))), (r4, .inl (kr4, 4, .inl (fun _ => 0))), (r5, .inl (kr5, 4, .inl (fun _ => 0))), (pg, .inr (3, [.ref s1, .ref s2, .ref s3, .ref s4, .ref s5, .int 0, .int 0, .int 0])), (s1, .inl (ls1, 2, .inr (.inr (.inr (.inr (fun _ => none)))))), (s2, .inl (ls2, 12, .inr (.inr (.inr (.inr (fun _ => none)))))), (s3, .inl (ls3, 4, .inl (fun _ => 0))), (s4, .inl (ls4, 4, .inl (fun _ => 0))), (s5, .inl (ls5, 4, .inl (fun _ => 0)))] s.heap.size = A at hD ⊢
  have hA : ∀ q : Nat, s.heap.size ≤ q → A q := fun q h => by rw [← hAe]; exact Or.inr h
  have hl := lv_entry ([.ref td, .ref pg]) (n := 3) (Nat.le_of_ble_eq_true rfl)
  rw [lg_entry_eq]
  generalize (lg_sl ([.ref td, .ref pg]) ++ List.replicate (3 - (lg_sl ([.ref td, .ref pg])).length) Slot.unset).toArray = ls at hl ⊢
  have hl : lv_has ls 3 [(0, .ref td), (1, .ref pg)] := hl
  refine zH (A := A) (ws := [(td, .inr (3, [.ref r1, .ref r2, .ref r3, .ref r4, .ref r5, .int 0, .int 0, .int 0])), (r1, .inl (kr1, 2, .inr (.inr (.inr (.inr (fun _ => none)))))), (r2, .inl (kr2, 12, .inr (.inr (.inr (.inr (fun _ => none)))))), (r3, .inl (kr3, 4, .inl (fun _ => 0))), (r4, .inl (kr4, 4, .inl (fun _ => 0))), (r5, .inl (kr5, 4, .inl (fun _ => 0))), (pg, .inr (3, [.ref s1, .ref s2, .ref s3, .ref s4, .ref s5, .int 0, .int 0, .int 0])), (s1, .inl (ls1, 2, .inr (.inr (.inr (.inr (fun _ => none)))))), (s2, .inl (ls2, 12, .inr (.inr (.inr (.inr (fun _ => none)))))), (s3, .inl (ls3, 4, .inl (fun _ => 0))), (s4, .inl (ls4, 4, .inl (fun _ => 0))), (s5, .inl (ls5, 4, .inl (fun _ => 0)))]) (fun H hP hS => ?_) hP
  have ho := fun w (h : w ∈ ow_c_become) => hts w (List.mem_cons_of_mem _ (List.mem_append_left _ h))
  have hin3 : ∀ w ∈ u_ws RX3 TX3 8, w ∈ vs_c_become := fun w h => (List.mem_cons_of_mem _ (List.mem_append_right _ h))
  refine lv_aload_n hx hb dX3_become_0 rfl (lv_at hl 0 rfl) ?_
  refine lv_aload_n hx hb dX3_become_1 rfl (lv_at hl 1 rfl) ?_
  refine va_get (D := (dC, dI)) (ci := 3) (v := .int 0) (C := RX3) (T := TX3) (N := 8) hx hb hts hin3 hown hK hP 6 rfl rfl 5 (by decide) (ho (.fieldLink RX3 33 "NearEnough$Program" "rowCount" "I") (List.mem_of_getElem? (i := 0) rfl)) (fun _ h9 => h9) rfl dX3_become_2 ?_
  refine va_put (D := (dC, dI)) (ci := 3) (v := .int 0) (ty := tyX3 5) (C := RX3) (T := TX3) (N := 8) hx hb hts hin3 tyX3 tyX3_ok nmX3 hown hK hP hD hS 0 rfl rfl 5 (by decide) (ho (.fieldLink RX3 33 "NearEnough$Program" "rowCount" "I") (List.mem_of_getElem? (i := 0) rfl)) (fun _ h9 => h9) rfl (by decide +kernel) rfl rfl (Nat.le_of_ble_eq_true rfl) dX3_become_5 (fun H locs hP hD hS => ?_)
  have hP : va_P (dC, dI) vwCl [(td, .inr (3, [.ref r1, .ref r2, .ref r3, .ref r4, .ref r5, .int 0, .int 0, .int 0])), (r1, .inl (kr1, 2, .inr (.inr (.inr (.inr (fun _ => none)))))), (r2, .inl (kr2, 12, .inr (.inr (.inr (.inr (fun _ => none)))))), (r3, .inl (kr3, 4, .inl (fun _ => 0))), (r4, .inl (kr4, 4, .inl (fun _ => 0))), (r5, .inl (kr5, 4, .inl (fun _ => 0))), (pg, .inr (3, [.ref s1, .ref s2, .ref s3, .ref s4, .ref s5, .int 0, .int 0, .int 0])), (s1, .inl (ls1, 2, .inr (.inr (.inr (.inr (fun _ => none)))))), (s2, .inl (ls2, 12, .inr (.inr (.inr (.inr (fun _ => none)))))), (s3, .inl (ls3, 4, .inl (fun _ => 0))), (s4, .inl (ls4, 4, .inl (fun _ => 0))), (s5, .inl (ls5, 4, .inl (fun _ => 0)))] H := hP
  have hD : va_D A [(td, .inr (3, [.ref r1, .ref r2, .ref r3, .ref r4, .ref r5, .int 0, .int 0, .int 0])), (r1, .inl (kr1, 2, .inr (.inr (.inr (.inr (fun _ => none)))))), (r2, .inl (kr2, 12, .inr (.inr (.inr (.inr (fun _ => none)))))), (r3, .inl (kr3, 4, .inl (fun _ => 0))), (r4, .inl (kr4, 4, .inl (fun _ => 0))), (r5, .inl (kr5, 4, .inl (fun _ => 0))), (pg, .inr (3, [.ref s1, .ref s2, .ref s3, .ref s4, .ref s5, .int 0, .int 0, .int 0])), (s1, .inl (ls1, 2, .inr (.inr (.inr (.inr (fun _ => none)))))), (s2, .inl (ls2, 12, .inr (.inr (.inr (.inr (fun _ => none)))))), (s3, .inl (ls3, 4, .inl (fun _ => 0))), (s4, .inl (ls4, 4, .inl (fun _ => 0))), (s5, .inl (ls5, 4, .inl (fun _ => 0)))] := hD
  refine lv_aload_n hx hb dX3_become_8 rfl (lv_at hl 0 rfl) ?_
  refine lv_aload_n hx hb dX3_become_9 rfl (lv_at hl 1 rfl) ?_
  refine va_get (D := (dC, dI)) (ci := 3) (v := .int 0) (C := RX3) (T := TX3) (N := 8) hx hb hts hin3 hown hK hP 6 rfl rfl 6 (by decide) (ho (.fieldLink RX3 37 "NearEnough$Program" "stepCount" "I") (List.mem_of_getElem? (i := 1) rfl)) (fun _ h9 => h9) rfl dX3_become_10 ?_
  refine va_put (D := (dC, dI)) (ci := 3) (v := .int 0) (ty := tyX3 6) (C := RX3) (T := TX3) (N := 8) hx hb hts hin3 tyX3 tyX3_ok nmX3 hown hK hP hD hS 0 rfl rfl 6 (by decide) (ho (.fieldLink RX3 37 "NearEnough$Program" "stepCount" "I") (List.mem_of_getElem? (i := 1) rfl)) (fun _ h9 => h9) rfl (by decide +kernel) rfl rfl (Nat.le_of_ble_eq_true rfl) dX3_become_13 (fun H locs hP hD hS => ?_)
  have hP : va_P (dC, dI) vwCl [(td, .inr (3, [.ref r1, .ref r2, .ref r3, .ref r4, .ref r5, .int 0, .int 0, .int 0])), (r1, .inl (kr1, 2, .inr (.inr (.inr (.inr (fun _ => none)))))), (r2, .inl (kr2, 12, .inr (.inr (.inr (.inr (fun _ => none)))))), (r3, .inl (kr3, 4, .inl (fun _ => 0))), (r4, .inl (kr4, 4, .inl (fun _ => 0))), (r5, .inl (kr5, 4, .inl (fun _ => 0))), (pg, .inr (3, [.ref s1, .ref s2, .ref s3, .ref s4, .ref s5, .int 0, .int 0, .int 0])), (s1, .inl (ls1, 2, .inr (.inr (.inr (.inr (fun _ => none)))))), (s2, .inl (ls2, 12, .inr (.inr (.inr (.inr (fun _ => none)))))), (s3, .inl (ls3, 4, .inl (fun _ => 0))), (s4, .inl (ls4, 4, .inl (fun _ => 0))), (s5, .inl (ls5, 4, .inl (fun _ => 0)))] H := hP
  have hD : va_D A [(td, .inr (3, [.ref r1, .ref r2, .ref r3, .ref r4, .ref r5, .int 0, .int 0, .int 0])), (r1, .inl (kr1, 2, .inr (.inr (.inr (.inr (fun _ => none)))))), (r2, .inl (kr2, 12, .inr (.inr (.inr (.inr (fun _ => none)))))), (r3, .inl (kr3, 4, .inl (fun _ => 0))), (r4, .inl (kr4, 4, .inl (fun _ => 0))), (r5, .inl (kr5, 4, .inl (fun _ => 0))), (pg, .inr (3, [.ref s1, .ref s2, .ref s3, .ref s4, .ref s5, .int 0, .int 0, .int 0])), (s1, .inl (ls1, 2, .inr (.inr (.inr (.inr (fun _ => none)))))), (s2, .inl (ls2, 12, .inr (.inr (.inr (.inr (fun _ => none)))))), (s3, .inl (ls3, 4, .inl (fun _ => 0))), (s4, .inl (ls4, 4, .inl (fun _ => 0))), (s5, .inl (ls5, 4, .inl (fun _ => 0)))] := hD
  refine lv_aload_n hx hb dX3_become_16 rfl (lv_at hl 0 rfl) ?_
  refine lv_aload_n hx hb dX3_become_17 rfl (lv_at hl 1 rfl) ?_
  refine va_get (D := (dC, dI)) (ci := 3) (v := .int 0) (C := RX3) (T := TX3) (N := 8) hx hb hts hin3 hown hK hP 6 rfl rfl 7 (by decide) (ho (.fieldLink RX3 40 "NearEnough$Program" "endCount" "I") (List.mem_of_getElem? (i := 2) rfl)) (fun _ h9 => h9) rfl dX3_become_18 ?_
  refine va_put (D := (dC, dI)) (ci := 3) (v := .int 0) (ty := tyX3 7) (C := RX3) (T := TX3) (N := 8) hx hb hts hin3 tyX3 tyX3_ok nmX3 hown hK hP hD hS 0 rfl rfl 7 (by decide) (ho (.fieldLink RX3 40 "NearEnough$Program" "endCount" "I") (List.mem_of_getElem? (i := 2) rfl)) (fun _ h9 => h9) rfl (by decide +kernel) rfl rfl (Nat.le_of_ble_eq_true rfl) dX3_become_21 (fun H locs hP hD hS => ?_)
  have hP : va_P (dC, dI) vwCl [(td, .inr (3, [.ref r1, .ref r2, .ref r3, .ref r4, .ref r5, .int 0, .int 0, .int 0])), (r1, .inl (kr1, 2, .inr (.inr (.inr (.inr (fun _ => none)))))), (r2, .inl (kr2, 12, .inr (.inr (.inr (.inr (fun _ => none)))))), (r3, .inl (kr3, 4, .inl (fun _ => 0))), (r4, .inl (kr4, 4, .inl (fun _ => 0))), (r5, .inl (kr5, 4, .inl (fun _ => 0))), (pg, .inr (3, [.ref s1, .ref s2, .ref s3, .ref s4, .ref s5, .int 0, .int 0, .int 0])), (s1, .inl (ls1, 2, .inr (.inr (.inr (.inr (fun _ => none)))))), (s2, .inl (ls2, 12, .inr (.inr (.inr (.inr (fun _ => none)))))), (s3, .inl (ls3, 4, .inl (fun _ => 0))), (s4, .inl (ls4, 4, .inl (fun _ => 0))), (s5, .inl (ls5, 4, .inl (fun _ => 0)))] H := hP
  have hD : va_D A [(td, .inr (3, [.ref r1, .ref r2, .ref r3, .ref r4, .ref r5, .int 0, .int 0, .int 0])), (r1, .inl (kr1, 2, .inr (.inr (.inr (.inr (fun _ => none)))))), (r2, .inl (kr2, 12, .inr (.inr (.inr (.inr (fun _ => none)))))), (r3, .inl (kr3, 4, .inl (fun _ => 0))), (r4, .inl (kr4, 4, .inl (fun _ => 0))), (r5, .inl (kr5, 4, .inl (fun _ => 0))), (pg, .inr (3, [.ref s1, .ref s2, .ref s3, .ref s4, .ref s5, .int 0, .int 0, .int 0])), (s1, .inl (ls1, 2, .inr (.inr (.inr (.inr (fun _ => none)))))), (s2, .inl (ls2, 12, .inr (.inr (.inr (.inr (fun _ => none)))))), (s3, .inl (ls3, 4, .inl (fun _ => 0))), (s4, .inl (ls4, 4, .inl (fun _ => 0))), (s5, .inl (ls5, 4, .inl (fun _ => 0)))] := hD
  refine lv_iconst (v := 0) hx hb dX3_become_24 (by decide) ?_
  refine lv_istore_n (lv' := [(2, .int 0), (0, .ref td), (1, .ref pg)]) hx hb dX3_become_25 rfl hl (by decide) rfl (fun ls hl => ?_)
  refine lv_iload_n hx hb dX3_become_26 rfl (lv_at hl 0 rfl) ?_
  refine lv_iconst (v := 2) hx hb dX3_become_27 (by decide) ?_
  refine lv_icmp_ge (tgt := 49) hx hb dX3_become_28 (by decide) (fun cc => absurd cc (by decide)) (fun _ => ?_)
  refine lv_aload_n hx hb dX3_become_31 rfl (lv_at hl 1 rfl) ?_
  refine va_get (D := (dC, dI)) (ci := 3) (v := .ref r1) (C := RX3) (T := TX3) (N := 8) hx hb hts hin3 hown hK hP 0 rfl rfl 0 (by decide) (ho (.fieldLink RX3 11 "NearEnough$Program" "rows" "[LNearEnough$Row;") (List.mem_of_getElem? (i := 3) rfl)) (fun _ h9 => h9) rfl dX3_become_32 ?_
  refine lv_iload_n hx hb dX3_become_35 rfl (lv_at hl 0 rfl) ?_
  refine lv_aload_n hx hb dX3_become_36 rfl (lv_at hl 2 rfl) ?_
  refine va_get (D := (dC, dI)) (ci := 3) (v := .ref s1) (C := RX3) (T := TX3) (N := 8) hx hb hts hin3 hown hK hP 6 rfl rfl 0 (by decide) (ho (.fieldLink RX3 11 "NearEnough$Program" "rows" "[LNearEnough$Row;") (List.mem_of_getElem? (i := 3) rfl)) (fun _ h9 => h9) rfl dX3_become_37 ?_
  refine lv_iload_n hx hb dX3_become_40 rfl (lv_at hl 0 rfl) ?_
  refine va_aldq hx hb hK hP 7 5 rfl rfl (by unfold vp_in; decide) dX3_become_41 ?_
  refine zv (v := .null) rfl ?_
  refine va_astqN hx hb hK hP hD hS 1 0 rfl rfl (by unfold vp_in; decide) dX3_become_42 (fun H locs hP hD hS => ?_)
  have hP : va_P (dC, dI) vwCl [(td, .inr (3, [.ref r1, .ref r2, .ref r3, .ref r4, .ref r5, .int 0, .int 0, .int 0])), (r1, .inl (kr1, 2, .inr (.inr (.inr (.inr (va_up (fun _ => none) (Int32.toNatClampNeg 0) none)))))), (r2, .inl (kr2, 12, .inr (.inr (.inr (.inr (fun _ => none)))))), (r3, .inl (kr3, 4, .inl (fun _ => 0))), (r4, .inl (kr4, 4, .inl (fun _ => 0))), (r5, .inl (kr5, 4, .inl (fun _ => 0))), (pg, .inr (3, [.ref s1, .ref s2, .ref s3, .ref s4, .ref s5, .int 0, .int 0, .int 0])), (s1, .inl (ls1, 2, .inr (.inr (.inr (.inr (fun _ => none)))))), (s2, .inl (ls2, 12, .inr (.inr (.inr (.inr (fun _ => none)))))), (s3, .inl (ls3, 4, .inl (fun _ => 0))), (s4, .inl (ls4, 4, .inl (fun _ => 0))), (s5, .inl (ls5, 4, .inl (fun _ => 0)))] H := hP
  have hD : va_D A [(td, .inr (3, [.ref r1, .ref r2, .ref r3, .ref r4, .ref r5, .int 0, .int 0, .int 0])), (r1, .inl (kr1, 2, .inr (.inr (.inr (.inr (va_up (fun _ => none) (Int32.toNatClampNeg 0) none)))))), (r2, .inl (kr2, 12, .inr (.inr (.inr (.inr (fun _ => none)))))), (r3, .inl (kr3, 4, .inl (fun _ => 0))), (r4, .inl (kr4, 4, .inl (fun _ => 0))), (r5, .inl (kr5, 4, .inl (fun _ => 0))), (pg, .inr (3, [.ref s1, .ref s2, .ref s3, .ref s4, .ref s5, .int 0, .int 0, .int 0])), (s1, .inl (ls1, 2, .inr (.inr (.inr (.inr (fun _ => none)))))), (s2, .inl (ls2, 12, .inr (.inr (.inr (.inr (fun _ => none)))))), (s3, .inl (ls3, 4, .inl (fun _ => 0))), (s4, .inl (ls4, 4, .inl (fun _ => 0))), (s5, .inl (ls5, 4, .inl (fun _ => 0)))] := hD
  generalize (va_up (fun _ => none) (Int32.toNatClampNeg 0) none : Nat → Option Nat) = f1 at hP hD
  refine lv_iinc (v := 1) (lv' := [(2, .int 1), (0, .ref td), (1, .ref pg)]) hx hb dX3_become_43 hl (k := 0) rfl (by decide) (by decide) rfl (fun ls hl => ?_)
  refine lv_goto (tgt := 26) hx hb dX3_become_46 (by decide) ?_
  refine lv_iload_n hx hb dX3_become_26 rfl (lv_at hl 0 rfl) ?_
  refine lv_iconst (v := 2) hx hb dX3_become_27 (by decide) ?_
  refine lv_icmp_ge (tgt := 49) hx hb dX3_become_28 (by decide) (fun cc => absurd cc (by decide)) (fun _ => ?_)
  refine lv_aload_n hx hb dX3_become_31 rfl (lv_at hl 1 rfl) ?_
  refine va_get (D := (dC, dI)) (ci := 3) (v := .ref r1) (C := RX3) (T := TX3) (N := 8) hx hb hts hin3 hown hK hP 0 rfl rfl 0 (by decide) (ho (.fieldLink RX3 11 "NearEnough$Program" "rows" "[LNearEnough$Row;") (List.mem_of_getElem? (i := 3) rfl)) (fun _ h9 => h9) rfl dX3_become_32 ?_
  refine lv_iload_n hx hb dX3_become_35 rfl (lv_at hl 0 rfl) ?_
  refine lv_aload_n hx hb dX3_become_36 rfl (lv_at hl 2 rfl) ?_
  refine va_get (D := (dC, dI)) (ci := 3) (v := .ref s1) (C := RX3) (T := TX3) (N := 8) hx hb hts hin3 hown hK hP 6 rfl rfl 0 (by decide) (ho (.fieldLink RX3 11 "NearEnough$Program" "rows" "[LNearEnough$Row;") (List.mem_of_getElem? (i := 3) rfl)) (fun _ h9 => h9) rfl dX3_become_37 ?_
  refine lv_iload_n hx hb dX3_become_40 rfl (lv_at hl 0 rfl) ?_
  refine va_aldq hx hb hK hP 7 5 rfl rfl (by unfold vp_in; decide) dX3_become_41 ?_
  refine zv (v := .null) rfl ?_
  refine va_astqN hx hb hK hP hD hS 1 0 rfl rfl (by unfold vp_in; decide) dX3_become_42 (fun H locs hP hD hS => ?_)
  have hP : va_P (dC, dI) vwCl [(td, .inr (3, [.ref r1, .ref r2, .ref r3, .ref r4, .ref r5, .int 0, .int 0, .int 0])), (r1, .inl (kr1, 2, .inr (.inr (.inr (.inr (va_up f1 (Int32.toNatClampNeg 1) none)))))), (r2, .inl (kr2, 12, .inr (.inr (.inr (.inr (fun _ => none)))))), (r3, .inl (kr3, 4, .inl (fun _ => 0))), (r4, .inl (kr4, 4, .inl (fun _ => 0))), (r5, .inl (kr5, 4, .inl (fun _ => 0))), (pg, .inr (3, [.ref s1, .ref s2, .ref s3, .ref s4, .ref s5, .int 0, .int 0, .int 0])), (s1, .inl (ls1, 2, .inr (.inr (.inr (.inr (fun _ => none)))))), (s2, .inl (ls2, 12, .inr (.inr (.inr (.inr (fun _ => none)))))), (s3, .inl (ls3, 4, .inl (fun _ => 0))), (s4, .inl (ls4, 4, .inl (fun _ => 0))), (s5, .inl (ls5, 4, .inl (fun _ => 0)))] H := hP
  have hD : va_D A [(td, .inr (3, [.ref r1, .ref r2, .ref r3, .ref r4, .ref r5, .int 0, .int 0, .int 0])), (r1, .inl (kr1, 2, .inr (.inr (.inr (.inr (va_up f1 (Int32.toNatClampNeg 1) none)))))), (r2, .inl (kr2, 12, .inr (.inr (.inr (.inr (fun _ => none)))))), (r3, .inl (kr3, 4, .inl (fun _ => 0))), (r4, .inl (kr4, 4, .inl (fun _ => 0))), (r5, .inl (kr5, 4, .inl (fun _ => 0))), (pg, .inr (3, [.ref s1, .ref s2, .ref s3, .ref s4, .ref s5, .int 0, .int 0, .int 0])), (s1, .inl (ls1, 2, .inr (.inr (.inr (.inr (fun _ => none)))))), (s2, .inl (ls2, 12, .inr (.inr (.inr (.inr (fun _ => none)))))), (s3, .inl (ls3, 4, .inl (fun _ => 0))), (s4, .inl (ls4, 4, .inl (fun _ => 0))), (s5, .inl (ls5, 4, .inl (fun _ => 0)))] := hD
  generalize (va_up f1 (Int32.toNatClampNeg 1) none : Nat → Option Nat) = f2 at hP hD
  refine lv_iinc (v := 2) (lv' := [(2, .int 2), (0, .ref td), (1, .ref pg)]) hx hb dX3_become_43 hl (k := 0) rfl (by decide) (by decide) rfl (fun ls hl => ?_)
  refine lv_goto (tgt := 26) hx hb dX3_become_46 (by decide) ?_
  refine lv_iload_n hx hb dX3_become_26 rfl (lv_at hl 0 rfl) ?_
  refine lv_iconst (v := 2) hx hb dX3_become_27 (by decide) ?_
  refine lv_icmp_ge (tgt := 49) hx hb dX3_become_28 (by decide) (fun _ => ?_) (fun cc => absurd (by decide) cc)
  refine lv_iconst (v := 0) hx hb dX3_become_49 (by decide) ?_
  refine lv_istore_n (lv' := [(2, .int 0), (0, .ref td), (1, .ref pg)]) hx hb dX3_become_50 rfl hl (by decide) rfl (fun ls hl => ?_)
  refine lv_iload_n hx hb dX3_become_51 rfl (lv_at hl 0 rfl) ?_
  refine lv_bipush (v := 12) hx hb dX3_become_52 (by decide) ?_
  refine lv_icmp_ge (tgt := 75) hx hb dX3_become_54 (by decide) (fun cc => absurd cc (by decide)) (fun _ => ?_)
  refine lv_aload_n hx hb dX3_become_57 rfl (lv_at hl 1 rfl) ?_
  refine va_get (D := (dC, dI)) (ci := 3) (v := .ref r2) (C := RX3) (T := TX3) (N := 8) hx hb hts hin3 hown hK hP 0 rfl rfl 1 (by decide) (ho (.fieldLink RX3 19 "NearEnough$Program" "steps" "[LNearEnough$Step;") (List.mem_of_getElem? (i := 4) rfl)) (fun _ h9 => h9) rfl dX3_become_58 ?_
  refine lv_iload_n hx hb dX3_become_61 rfl (lv_at hl 0 rfl) ?_
  refine lv_aload_n hx hb dX3_become_62 rfl (lv_at hl 2 rfl) ?_
  refine va_get (D := (dC, dI)) (ci := 3) (v := .ref s2) (C := RX3) (T := TX3) (N := 8) hx hb hts hin3 hown hK hP 6 rfl rfl 1 (by decide) (ho (.fieldLink RX3 19 "NearEnough$Program" "steps" "[LNearEnough$Step;") (List.mem_of_getElem? (i := 4) rfl)) (fun _ h9 => h9) rfl dX3_become_63 ?_
  refine lv_iload_n hx hb dX3_become_66 rfl (lv_at hl 0 rfl) ?_
  refine va_aldq hx hb hK hP 8 6 rfl rfl (by unfold vp_in; decide) dX3_become_67 ?_
  refine zv (v := .null) rfl ?_
  refine va_astqN hx hb hK hP hD hS 2 1 rfl rfl (by unfold vp_in; decide) dX3_become_68 (fun H locs hP hD hS => ?_)
  have hP : va_P (dC, dI) vwCl [(td, .inr (3, [.ref r1, .ref r2, .ref r3, .ref r4, .ref r5, .int 0, .int 0, .int 0])), (r1, .inl (kr1, 2, .inr (.inr (.inr (.inr f2))))), (r2, .inl (kr2, 12, .inr (.inr (.inr (.inr (va_up (fun _ => none) (Int32.toNatClampNeg 0) none)))))), (r3, .inl (kr3, 4, .inl (fun _ => 0))), (r4, .inl (kr4, 4, .inl (fun _ => 0))), (r5, .inl (kr5, 4, .inl (fun _ => 0))), (pg, .inr (3, [.ref s1, .ref s2, .ref s3, .ref s4, .ref s5, .int 0, .int 0, .int 0])), (s1, .inl (ls1, 2, .inr (.inr (.inr (.inr (fun _ => none)))))), (s2, .inl (ls2, 12, .inr (.inr (.inr (.inr (fun _ => none)))))), (s3, .inl (ls3, 4, .inl (fun _ => 0))), (s4, .inl (ls4, 4, .inl (fun _ => 0))), (s5, .inl (ls5, 4, .inl (fun _ => 0)))] H := hP
  have hD : va_D A [(td, .inr (3, [.ref r1, .ref r2, .ref r3, .ref r4, .ref r5, .int 0, .int 0, .int 0])), (r1, .inl (kr1, 2, .inr (.inr (.inr (.inr f2))))), (r2, .inl (kr2, 12, .inr (.inr (.inr (.inr (va_up (fun _ => none) (Int32.toNatClampNeg 0) none)))))), (r3, .inl (kr3, 4, .inl (fun _ => 0))), (r4, .inl (kr4, 4, .inl (fun _ => 0))), (r5, .inl (kr5, 4, .inl (fun _ => 0))), (pg, .inr (3, [.ref s1, .ref s2, .ref s3, .ref s4, .ref s5, .int 0, .int 0, .int 0])), (s1, .inl (ls1, 2, .inr (.inr (.inr (.inr (fun _ => none)))))), (s2, .inl (ls2, 12, .inr (.inr (.inr (.inr (fun _ => none)))))), (s3, .inl (ls3, 4, .inl (fun _ => 0))), (s4, .inl (ls4, 4, .inl (fun _ => 0))), (s5, .inl (ls5, 4, .inl (fun _ => 0)))] := hD
  generalize (va_up (fun _ => none) (Int32.toNatClampNeg 0) none : Nat → Option Nat) = f3 at hP hD
  refine lv_iinc (v := 1) (lv' := [(2, .int 1), (0, .ref td), (1, .ref pg)]) hx hb dX3_become_69 hl (k := 0) rfl (by decide) (by decide) rfl (fun ls hl => ?_)
  refine lv_goto (tgt := 51) hx hb dX3_become_72 (by decide) ?_
  refine lv_iload_n hx hb dX3_become_51 rfl (lv_at hl 0 rfl) ?_
  refine lv_bipush (v := 12) hx hb dX3_become_52 (by decide) ?_
  refine lv_icmp_ge (tgt := 75) hx hb dX3_become_54 (by decide) (fun cc => absurd cc (by decide)) (fun _ => ?_)
  refine lv_aload_n hx hb dX3_become_57 rfl (lv_at hl 1 rfl) ?_
  refine va_get (D := (dC, dI)) (ci := 3) (v := .ref r2) (C := RX3) (T := TX3) (N := 8) hx hb hts hin3 hown hK hP 0 rfl rfl 1 (by decide) (ho (.fieldLink RX3 19 "NearEnough$Program" "steps" "[LNearEnough$Step;") (List.mem_of_getElem? (i := 4) rfl)) (fun _ h9 => h9) rfl dX3_become_58 ?_
  refine lv_iload_n hx hb dX3_become_61 rfl (lv_at hl 0 rfl) ?_
  refine lv_aload_n hx hb dX3_become_62 rfl (lv_at hl 2 rfl) ?_
  refine va_get (D := (dC, dI)) (ci := 3) (v := .ref s2) (C := RX3) (T := TX3) (N := 8) hx hb hts hin3 hown hK hP 6 rfl rfl 1 (by decide) (ho (.fieldLink RX3 19 "NearEnough$Program" "steps" "[LNearEnough$Step;") (List.mem_of_getElem? (i := 4) rfl)) (fun _ h9 => h9) rfl dX3_become_63 ?_
  refine lv_iload_n hx hb dX3_become_66 rfl (lv_at hl 0 rfl) ?_
  refine va_aldq hx hb hK hP 8 6 rfl rfl (by unfold vp_in; decide) dX3_become_67 ?_
  refine zv (v := .null) rfl ?_
  refine va_astqN hx hb hK hP hD hS 2 1 rfl rfl (by unfold vp_in; decide) dX3_become_68 (fun H locs hP hD hS => ?_)
  have hP : va_P (dC, dI) vwCl [(td, .inr (3, [.ref r1, .ref r2, .ref r3, .ref r4, .ref r5, .int 0, .int 0, .int 0])), (r1, .inl (kr1, 2, .inr (.inr (.inr (.inr f2))))), (r2, .inl (kr2, 12, .inr (.inr (.inr (.inr (va_up f3 (Int32.toNatClampNeg 1) none)))))), (r3, .inl (kr3, 4, .inl (fun _ => 0))), (r4, .inl (kr4, 4, .inl (fun _ => 0))), (r5, .inl (kr5, 4, .inl (fun _ => 0))), (pg, .inr (3, [.ref s1, .ref s2, .ref s3, .ref s4, .ref s5, .int 0, .int 0, .int 0])), (s1, .inl (ls1, 2, .inr (.inr (.inr (.inr (fun _ => none)))))), (s2, .inl (ls2, 12, .inr (.inr (.inr (.inr (fun _ => none)))))), (s3, .inl (ls3, 4, .inl (fun _ => 0))), (s4, .inl (ls4, 4, .inl (fun _ => 0))), (s5, .inl (ls5, 4, .inl (fun _ => 0)))] H := hP
  have hD : va_D A [(td, .inr (3, [.ref r1, .ref r2, .ref r3, .ref r4, .ref r5, .int 0, .int 0, .int 0])), (r1, .inl (kr1, 2, .inr (.inr (.inr (.inr f2))))), (r2, .inl (kr2, 12, .inr (.inr (.inr (.inr (va_up f3 (Int32.toNatClampNeg 1) none)))))), (r3, .inl (kr3, 4, .inl (fun _ => 0))), (r4, .inl (kr4, 4, .inl (fun _ => 0))), (r5, .inl (kr5, 4, .inl (fun _ => 0))), (pg, .inr (3, [.ref s1, .ref s2, .ref s3, .ref s4, .ref s5, .int 0, .int 0, .int 0])), (s1, .inl (ls1, 2, .inr (.inr (.inr (.inr (fun _ => none)))))), (s2, .inl (ls2, 12, .inr (.inr (.inr (.inr (fun _ => none)))))), (s3, .inl (ls3, 4, .inl (fun _ => 0))), (s4, .inl (ls4, 4, .inl (fun _ => 0))), (s5, .inl (ls5, 4, .inl (fun _ => 0)))] := hD
  generalize (va_up f3 (Int32.toNatClampNeg 1) none : Nat → Option Nat) = f4 at hP hD
  refine lv_iinc (v := 2) (lv' := [(2, .int 2), (0, .ref td), (1, .ref pg)]) hx hb dX3_become_69 hl (k := 0) rfl (by decide) (by decide) rfl (fun ls hl => ?_)
  refine lv_goto (tgt := 51) hx hb dX3_become_72 (by decide) ?_
  refine lv_iload_n hx hb dX3_become_51 rfl (lv_at hl 0 rfl) ?_
  refine lv_bipush (v := 12) hx hb dX3_become_52 (by decide) ?_
  refine lv_icmp_ge (tgt := 75) hx hb dX3_become_54 (by decide) (fun cc => absurd cc (by decide)) (fun _ => ?_)
  refine lv_aload_n hx hb dX3_become_57 rfl (lv_at hl 1 rfl) ?_
  refine va_get (D := (dC, dI)) (ci := 3) (v := .ref r2) (C := RX3) (T := TX3) (N := 8) hx hb hts hin3 hown hK hP 0 rfl rfl 1 (by decide) (ho (.fieldLink RX3 19 "NearEnough$Program" "steps" "[LNearEnough$Step;") (List.mem_of_getElem? (i := 4) rfl)) (fun _ h9 => h9) rfl dX3_become_58 ?_
  refine lv_iload_n hx hb dX3_become_61 rfl (lv_at hl 0 rfl) ?_
  refine lv_aload_n hx hb dX3_become_62 rfl (lv_at hl 2 rfl) ?_
  refine va_get (D := (dC, dI)) (ci := 3) (v := .ref s2) (C := RX3) (T := TX3) (N := 8) hx hb hts hin3 hown hK hP 6 rfl rfl 1 (by decide) (ho (.fieldLink RX3 19 "NearEnough$Program" "steps" "[LNearEnough$Step;") (List.mem_of_getElem? (i := 4) rfl)) (fun _ h9 => h9) rfl dX3_become_63 ?_
  refine lv_iload_n hx hb dX3_become_66 rfl (lv_at hl 0 rfl) ?_
  refine va_aldq hx hb hK hP 8 6 rfl rfl (by unfold vp_in; decide) dX3_become_67 ?_
  refine zv (v := .null) rfl ?_
  refine va_astqN hx hb hK hP hD hS 2 1 rfl rfl (by unfold vp_in; decide) dX3_become_68 (fun H locs hP hD hS => ?_)
  have hP : va_P (dC, dI) vwCl [(td, .inr (3, [.ref r1, .ref r2, .ref r3, .ref r4, .ref r5, .int 0, .int 0, .int 0])), (r1, .inl (kr1, 2, .inr (.inr (.inr (.inr f2))))), (r2, .inl (kr2, 12, .inr (.inr (.inr (.inr (va_up f4 (Int32.toNatClampNeg 2) none)))))), (r3, .inl (kr3, 4, .inl (fun _ => 0))), (r4, .inl (kr4, 4, .inl (fun _ => 0))), (r5, .inl (kr5, 4, .inl (fun _ => 0))), (pg, .inr (3, [.ref s1, .ref s2, .ref s3, .ref s4, .ref s5, .int 0, .int 0, .int 0])), (s1, .inl (ls1, 2, .inr (.inr (.inr (.inr (fun _ => none)))))), (s2, .inl (ls2, 12, .inr (.inr (.inr (.inr (fun _ => none)))))), (s3, .inl (ls3, 4, .inl (fun _ => 0))), (s4, .inl (ls4, 4, .inl (fun _ => 0))), (s5, .inl (ls5, 4, .inl (fun _ => 0)))] H := hP
  have hD : va_D A [(td, .inr (3, [.ref r1, .ref r2, .ref r3, .ref r4, .ref r5, .int 0, .int 0, .int 0])), (r1, .inl (kr1, 2, .inr (.inr (.inr (.inr f2))))), (r2, .inl (kr2, 12, .inr (.inr (.inr (.inr (va_up f4 (Int32.toNatClampNeg 2) none)))))), (r3, .inl (kr3, 4, .inl (fun _ => 0))), (r4, .inl (kr4, 4, .inl (fun _ => 0))), (r5, .inl (kr5, 4, .inl (fun _ => 0))), (pg, .inr (3, [.ref s1, .ref s2, .ref s3, .ref s4, .ref s5, .int 0, .int 0, .int 0])), (s1, .inl (ls1, 2, .inr (.inr (.inr (.inr (fun _ => none)))))), (s2, .inl (ls2, 12, .inr (.inr (.inr (.inr (fun _ => none)))))), (s3, .inl (ls3, 4, .inl (fun _ => 0))), (s4, .inl (ls4, 4, .inl (fun _ => 0))), (s5, .inl (ls5, 4, .inl (fun _ => 0)))] := hD
  generalize (va_up f4 (Int32.toNatClampNeg 2) none : Nat → Option Nat) = f5 at hP hD
  refine lv_iinc (v := 3) (lv' := [(2, .int 3), (0, .ref td), (1, .ref pg)]) hx hb dX3_become_69 hl (k := 0) rfl (by decide) (by decide) rfl (fun ls hl => ?_)
  refine lv_goto (tgt := 51) hx hb dX3_become_72 (by decide) ?_
  refine lv_iload_n hx hb dX3_become_51 rfl (lv_at hl 0 rfl) ?_
  refine lv_bipush (v := 12) hx hb dX3_become_52 (by decide) ?_
  refine lv_icmp_ge (tgt := 75) hx hb dX3_become_54 (by decide) (fun cc => absurd cc (by decide)) (fun _ => ?_)
  refine lv_aload_n hx hb dX3_become_57 rfl (lv_at hl 1 rfl) ?_
  refine va_get (D := (dC, dI)) (ci := 3) (v := .ref r2) (C := RX3) (T := TX3) (N := 8) hx hb hts hin3 hown hK hP 0 rfl rfl 1 (by decide) (ho (.fieldLink RX3 19 "NearEnough$Program" "steps" "[LNearEnough$Step;") (List.mem_of_getElem? (i := 4) rfl)) (fun _ h9 => h9) rfl dX3_become_58 ?_
  refine lv_iload_n hx hb dX3_become_61 rfl (lv_at hl 0 rfl) ?_
  refine lv_aload_n hx hb dX3_become_62 rfl (lv_at hl 2 rfl) ?_
  refine va_get (D := (dC, dI)) (ci := 3) (v := .ref s2) (C := RX3) (T := TX3) (N := 8) hx hb hts hin3 hown hK hP 6 rfl rfl 1 (by decide) (ho (.fieldLink RX3 19 "NearEnough$Program" "steps" "[LNearEnough$Step;") (List.mem_of_getElem? (i := 4) rfl)) (fun _ h9 => h9) rfl dX3_become_63 ?_
  refine lv_iload_n hx hb dX3_become_66 rfl (lv_at hl 0 rfl) ?_
  refine va_aldq hx hb hK hP 8 6 rfl rfl (by unfold vp_in; decide) dX3_become_67 ?_
  refine zv (v := .null) rfl ?_
  refine va_astqN hx hb hK hP hD hS 2 1 rfl rfl (by unfold vp_in; decide) dX3_become_68 (fun H locs hP hD hS => ?_)
  have hP : va_P (dC, dI) vwCl [(td, .inr (3, [.ref r1, .ref r2, .ref r3, .ref r4, .ref r5, .int 0, .int 0, .int 0])), (r1, .inl (kr1, 2, .inr (.inr (.inr (.inr f2))))), (r2, .inl (kr2, 12, .inr (.inr (.inr (.inr (va_up f5 (Int32.toNatClampNeg 3) none)))))), (r3, .inl (kr3, 4, .inl (fun _ => 0))), (r4, .inl (kr4, 4, .inl (fun _ => 0))), (r5, .inl (kr5, 4, .inl (fun _ => 0))), (pg, .inr (3, [.ref s1, .ref s2, .ref s3, .ref s4, .ref s5, .int 0, .int 0, .int 0])), (s1, .inl (ls1, 2, .inr (.inr (.inr (.inr (fun _ => none)))))), (s2, .inl (ls2, 12, .inr (.inr (.inr (.inr (fun _ => none)))))), (s3, .inl (ls3, 4, .inl (fun _ => 0))), (s4, .inl (ls4, 4, .inl (fun _ => 0))), (s5, .inl (ls5, 4, .inl (fun _ => 0)))] H := hP
  have hD : va_D A [(td, .inr (3, [.ref r1, .ref r2, .ref r3, .ref r4, .ref r5, .int 0, .int 0, .int 0])), (r1, .inl (kr1, 2, .inr (.inr (.inr (.inr f2))))), (r2, .inl (kr2, 12, .inr (.inr (.inr (.inr (va_up f5 (Int32.toNatClampNeg 3) none)))))), (r3, .inl (kr3, 4, .inl (fun _ => 0))), (r4, .inl (kr4, 4, .inl (fun _ => 0))), (r5, .inl (kr5, 4, .inl (fun _ => 0))), (pg, .inr (3, [.ref s1, .ref s2, .ref s3, .ref s4, .ref s5, .int 0, .int 0, .int 0])), (s1, .inl (ls1, 2, .inr (.inr (.inr (.inr (fun _ => none)))))), (s2, .inl (ls2, 12, .inr (.inr (.inr (.inr (fun _ => none)))))), (s3, .inl (ls3, 4, .inl (fun _ => 0))), (s4, .inl (ls4, 4, .inl (fun _ => 0))), (s5, .inl (ls5, 4, .inl (fun _ => 0)))] := hD
  generalize (va_up f5 (Int32.toNatClampNeg 3) none : Nat → Option Nat) = f6 at hP hD
  refine lv_iinc (v := 4) (lv' := [(2, .int 4), (0, .ref td), (1, .ref pg)]) hx hb dX3_become_69 hl (k := 0) rfl (by decide) (by decide) rfl (fun ls hl => ?_)
  refine lv_goto (tgt := 51) hx hb dX3_become_72 (by decide) ?_
  refine lv_iload_n hx hb dX3_become_51 rfl (lv_at hl 0 rfl) ?_
  refine lv_bipush (v := 12) hx hb dX3_become_52 (by decide) ?_
  refine lv_icmp_ge (tgt := 75) hx hb dX3_become_54 (by decide) (fun cc => absurd cc (by decide)) (fun _ => ?_)
  refine lv_aload_n hx hb dX3_become_57 rfl (lv_at hl 1 rfl) ?_
  refine va_get (D := (dC, dI)) (ci := 3) (v := .ref r2) (C := RX3) (T := TX3) (N := 8) hx hb hts hin3 hown hK hP 0 rfl rfl 1 (by decide) (ho (.fieldLink RX3 19 "NearEnough$Program" "steps" "[LNearEnough$Step;") (List.mem_of_getElem? (i := 4) rfl)) (fun _ h9 => h9) rfl dX3_become_58 ?_
  refine lv_iload_n hx hb dX3_become_61 rfl (lv_at hl 0 rfl) ?_
  refine lv_aload_n hx hb dX3_become_62 rfl (lv_at hl 2 rfl) ?_
  refine va_get (D := (dC, dI)) (ci := 3) (v := .ref s2) (C := RX3) (T := TX3) (N := 8) hx hb hts hin3 hown hK hP 6 rfl rfl 1 (by decide) (ho (.fieldLink RX3 19 "NearEnough$Program" "steps" "[LNearEnough$Step;") (List.mem_of_getElem? (i := 4) rfl)) (fun _ h9 => h9) rfl dX3_become_63 ?_
  refine lv_iload_n hx hb dX3_become_66 rfl (lv_at hl 0 rfl) ?_
  refine va_aldq hx hb hK hP 8 6 rfl rfl (by unfold vp_in; decide) dX3_become_67 ?_
  refine zv (v := .null) rfl ?_
  refine va_astqN hx hb hK hP hD hS 2 1 rfl rfl (by unfold vp_in; decide) dX3_become_68 (fun H locs hP hD hS => ?_)
  have hP : va_P (dC, dI) vwCl [(td, .inr (3, [.ref r1, .ref r2, .ref r3, .ref r4, .ref r5, .int 0, .int 0, .int 0])), (r1, .inl (kr1, 2, .inr (.inr (.inr (.inr f2))))), (r2, .inl (kr2, 12, .inr (.inr (.inr (.inr (va_up f6 (Int32.toNatClampNeg 4) none)))))), (r3, .inl (kr3, 4, .inl (fun _ => 0))), (r4, .inl (kr4, 4, .inl (fun _ => 0))), (r5, .inl (kr5, 4, .inl (fun _ => 0))), (pg, .inr (3, [.ref s1, .ref s2, .ref s3, .ref s4, .ref s5, .int 0, .int 0, .int 0])), (s1, .inl (ls1, 2, .inr (.inr (.inr (.inr (fun _ => none)))))), (s2, .inl (ls2, 12, .inr (.inr (.inr (.inr (fun _ => none)))))), (s3, .inl (ls3, 4, .inl (fun _ => 0))), (s4, .inl (ls4, 4, .inl (fun _ => 0))), (s5, .inl (ls5, 4, .inl (fun _ => 0)))] H := hP
  have hD : va_D A [(td, .inr (3, [.ref r1, .ref r2, .ref r3, .ref r4, .ref r5, .int 0, .int 0, .int 0])), (r1, .inl (kr1, 2, .inr (.inr (.inr (.inr f2))))), (r2, .inl (kr2, 12, .inr (.inr (.inr (.inr (va_up f6 (Int32.toNatClampNeg 4) none)))))), (r3, .inl (kr3, 4, .inl (fun _ => 0))), (r4, .inl (kr4, 4, .inl (fun _ => 0))), (r5, .inl (kr5, 4, .inl (fun _ => 0))), (pg, .inr (3, [.ref s1, .ref s2, .ref s3, .ref s4, .ref s5, .int 0, .int 0, .int 0])), (s1, .inl (ls1, 2, .inr (.inr (.inr (.inr (fun _ => none)))))), (s2, .inl (ls2, 12, .inr (.inr (.inr (.inr (fun _ => none)))))), (s3, .inl (ls3, 4, .inl (fun _ => 0))), (s4, .inl (ls4, 4, .inl (fun _ => 0))), (s5, .inl (ls5, 4, .inl (fun _ => 0)))] := hD
  generalize (va_up f6 (Int32.toNatClampNeg 4) none : Nat → Option Nat) = f7 at hP hD
  refine lv_iinc (v := 5) (lv' := [(2, .int 5), (0, .ref td), (1, .ref pg)]) hx hb dX3_become_69 hl (k := 0) rfl (by decide) (by decide) rfl (fun ls hl => ?_)
  refine lv_goto (tgt := 51) hx hb dX3_become_72 (by decide) ?_
  refine lv_iload_n hx hb dX3_become_51 rfl (lv_at hl 0 rfl) ?_
  refine lv_bipush (v := 12) hx hb dX3_become_52 (by decide) ?_
  refine lv_icmp_ge (tgt := 75) hx hb dX3_become_54 (by decide) (fun cc => absurd cc (by decide)) (fun _ => ?_)
  refine lv_aload_n hx hb dX3_become_57 rfl (lv_at hl 1 rfl) ?_
  refine va_get (D := (dC, dI)) (ci := 3) (v := .ref r2) (C := RX3) (T := TX3) (N := 8) hx hb hts hin3 hown hK hP 0 rfl rfl 1 (by decide) (ho (.fieldLink RX3 19 "NearEnough$Program" "steps" "[LNearEnough$Step;") (List.mem_of_getElem? (i := 4) rfl)) (fun _ h9 => h9) rfl dX3_become_58 ?_
  refine lv_iload_n hx hb dX3_become_61 rfl (lv_at hl 0 rfl) ?_
  refine lv_aload_n hx hb dX3_become_62 rfl (lv_at hl 2 rfl) ?_
  refine va_get (D := (dC, dI)) (ci := 3) (v := .ref s2) (C := RX3) (T := TX3) (N := 8) hx hb hts hin3 hown hK hP 6 rfl rfl 1 (by decide) (ho (.fieldLink RX3 19 "NearEnough$Program" "steps" "[LNearEnough$Step;") (List.mem_of_getElem? (i := 4) rfl)) (fun _ h9 => h9) rfl dX3_become_63 ?_
  refine lv_iload_n hx hb dX3_become_66 rfl (lv_at hl 0 rfl) ?_
  refine va_aldq hx hb hK hP 8 6 rfl rfl (by unfold vp_in; decide) dX3_become_67 ?_
  refine zv (v := .null) rfl ?_
  refine va_astqN hx hb hK hP hD hS 2 1 rfl rfl (by unfold vp_in; decide) dX3_become_68 (fun H locs hP hD hS => ?_)
  have hP : va_P (dC, dI) vwCl [(td, .inr (3, [.ref r1, .ref r2, .ref r3, .ref r4, .ref r5, .int 0, .int 0, .int 0])), (r1, .inl (kr1, 2, .inr (.inr (.inr (.inr f2))))), (r2, .inl (kr2, 12, .inr (.inr (.inr (.inr (va_up f7 (Int32.toNatClampNeg 5) none)))))), (r3, .inl (kr3, 4, .inl (fun _ => 0))), (r4, .inl (kr4, 4, .inl (fun _ => 0))), (r5, .inl (kr5, 4, .inl (fun _ => 0))), (pg, .inr (3, [.ref s1, .ref s2, .ref s3, .ref s4, .ref s5, .int 0, .int 0, .int 0])), (s1, .inl (ls1, 2, .inr (.inr (.inr (.inr (fun _ => none)))))), (s2, .inl (ls2, 12, .inr (.inr (.inr (.inr (fun _ => none)))))), (s3, .inl (ls3, 4, .inl (fun _ => 0))), (s4, .inl (ls4, 4, .inl (fun _ => 0))), (s5, .inl (ls5, 4, .inl (fun _ => 0)))] H := hP
  have hD : va_D A [(td, .inr (3, [.ref r1, .ref r2, .ref r3, .ref r4, .ref r5, .int 0, .int 0, .int 0])), (r1, .inl (kr1, 2, .inr (.inr (.inr (.inr f2))))), (r2, .inl (kr2, 12, .inr (.inr (.inr (.inr (va_up f7 (Int32.toNatClampNeg 5) none)))))), (r3, .inl (kr3, 4, .inl (fun _ => 0))), (r4, .inl (kr4, 4, .inl (fun _ => 0))), (r5, .inl (kr5, 4, .inl (fun _ => 0))), (pg, .inr (3, [.ref s1, .ref s2, .ref s3, .ref s4, .ref s5, .int 0, .int 0, .int 0])), (s1, .inl (ls1, 2, .inr (.inr (.inr (.inr (fun _ => none)))))), (s2, .inl (ls2, 12, .inr (.inr (.inr (.inr (fun _ => none)))))), (s3, .inl (ls3, 4, .inl (fun _ => 0))), (s4, .inl (ls4, 4, .inl (fun _ => 0))), (s5, .inl (ls5, 4, .inl (fun _ => 0)))] := hD
  generalize (va_up f7 (Int32.toNatClampNeg 5) none : Nat → Option Nat) = f8 at hP hD
  refine lv_iinc (v := 6) (lv' := [(2, .int 6), (0, .ref td), (1, .ref pg)]) hx hb dX3_become_69 hl (k := 0) rfl (by decide) (by decide) rfl (fun ls hl => ?_)
  refine lv_goto (tgt := 51) hx hb dX3_become_72 (by decide) ?_
  refine lv_iload_n hx hb dX3_become_51 rfl (lv_at hl 0 rfl) ?_
  refine lv_bipush (v := 12) hx hb dX3_become_52 (by decide) ?_
  refine lv_icmp_ge (tgt := 75) hx hb dX3_become_54 (by decide) (fun cc => absurd cc (by decide)) (fun _ => ?_)
  refine lv_aload_n hx hb dX3_become_57 rfl (lv_at hl 1 rfl) ?_
  refine va_get (D := (dC, dI)) (ci := 3) (v := .ref r2) (C := RX3) (T := TX3) (N := 8) hx hb hts hin3 hown hK hP 0 rfl rfl 1 (by decide) (ho (.fieldLink RX3 19 "NearEnough$Program" "steps" "[LNearEnough$Step;") (List.mem_of_getElem? (i := 4) rfl)) (fun _ h9 => h9) rfl dX3_become_58 ?_
  refine lv_iload_n hx hb dX3_become_61 rfl (lv_at hl 0 rfl) ?_
  refine lv_aload_n hx hb dX3_become_62 rfl (lv_at hl 2 rfl) ?_
  refine va_get (D := (dC, dI)) (ci := 3) (v := .ref s2) (C := RX3) (T := TX3) (N := 8) hx hb hts hin3 hown hK hP 6 rfl rfl 1 (by decide) (ho (.fieldLink RX3 19 "NearEnough$Program" "steps" "[LNearEnough$Step;") (List.mem_of_getElem? (i := 4) rfl)) (fun _ h9 => h9) rfl dX3_become_63 ?_
  refine lv_iload_n hx hb dX3_become_66 rfl (lv_at hl 0 rfl) ?_
  refine va_aldq hx hb hK hP 8 6 rfl rfl (by unfold vp_in; decide) dX3_become_67 ?_
  refine zv (v := .null) rfl ?_
  refine va_astqN hx hb hK hP hD hS 2 1 rfl rfl (by unfold vp_in; decide) dX3_become_68 (fun H locs hP hD hS => ?_)
  have hP : va_P (dC, dI) vwCl [(td, .inr (3, [.ref r1, .ref r2, .ref r3, .ref r4, .ref r5, .int 0, .int 0, .int 0])), (r1, .inl (kr1, 2, .inr (.inr (.inr (.inr f2))))), (r2, .inl (kr2, 12, .inr (.inr (.inr (.inr (va_up f8 (Int32.toNatClampNeg 6) none)))))), (r3, .inl (kr3, 4, .inl (fun _ => 0))), (r4, .inl (kr4, 4, .inl (fun _ => 0))), (r5, .inl (kr5, 4, .inl (fun _ => 0))), (pg, .inr (3, [.ref s1, .ref s2, .ref s3, .ref s4, .ref s5, .int 0, .int 0, .int 0])), (s1, .inl (ls1, 2, .inr (.inr (.inr (.inr (fun _ => none)))))), (s2, .inl (ls2, 12, .inr (.inr (.inr (.inr (fun _ => none)))))), (s3, .inl (ls3, 4, .inl (fun _ => 0))), (s4, .inl (ls4, 4, .inl (fun _ => 0))), (s5, .inl (ls5, 4, .inl (fun _ => 0)))] H := hP
  have hD : va_D A [(td, .inr (3, [.ref r1, .ref r2, .ref r3, .ref r4, .ref r5, .int 0, .int 0, .int 0])), (r1, .inl (kr1, 2, .inr (.inr (.inr (.inr f2))))), (r2, .inl (kr2, 12, .inr (.inr (.inr (.inr (va_up f8 (Int32.toNatClampNeg 6) none)))))), (r3, .inl (kr3, 4, .inl (fun _ => 0))), (r4, .inl (kr4, 4, .inl (fun _ => 0))), (r5, .inl (kr5, 4, .inl (fun _ => 0))), (pg, .inr (3, [.ref s1, .ref s2, .ref s3, .ref s4, .ref s5, .int 0, .int 0, .int 0])), (s1, .inl (ls1, 2, .inr (.inr (.inr (.inr (fun _ => none)))))), (s2, .inl (ls2, 12, .inr (.inr (.inr (.inr (fun _ => none)))))), (s3, .inl (ls3, 4, .inl (fun _ => 0))), (s4, .inl (ls4, 4, .inl (fun _ => 0))), (s5, .inl (ls5, 4, .inl (fun _ => 0)))] := hD
  generalize (va_up f8 (Int32.toNatClampNeg 6) none : Nat → Option Nat) = f9 at hP hD
  refine lv_iinc (v := 7) (lv' := [(2, .int 7), (0, .ref td), (1, .ref pg)]) hx hb dX3_become_69 hl (k := 0) rfl (by decide) (by decide) rfl (fun ls hl => ?_)
  refine lv_goto (tgt := 51) hx hb dX3_become_72 (by decide) ?_
  refine lv_iload_n hx hb dX3_become_51 rfl (lv_at hl 0 rfl) ?_
  refine lv_bipush (v := 12) hx hb dX3_become_52 (by decide) ?_
  refine lv_icmp_ge (tgt := 75) hx hb dX3_become_54 (by decide) (fun cc => absurd cc (by decide)) (fun _ => ?_)
  refine lv_aload_n hx hb dX3_become_57 rfl (lv_at hl 1 rfl) ?_
  refine va_get (D := (dC, dI)) (ci := 3) (v := .ref r2) (C := RX3) (T := TX3) (N := 8) hx hb hts hin3 hown hK hP 0 rfl rfl 1 (by decide) (ho (.fieldLink RX3 19 "NearEnough$Program" "steps" "[LNearEnough$Step;") (List.mem_of_getElem? (i := 4) rfl)) (fun _ h9 => h9) rfl dX3_become_58 ?_
  refine lv_iload_n hx hb dX3_become_61 rfl (lv_at hl 0 rfl) ?_
  refine lv_aload_n hx hb dX3_become_62 rfl (lv_at hl 2 rfl) ?_
  refine va_get (D := (dC, dI)) (ci := 3) (v := .ref s2) (C := RX3) (T := TX3) (N := 8) hx hb hts hin3 hown hK hP 6 rfl rfl 1 (by decide) (ho (.fieldLink RX3 19 "NearEnough$Program" "steps" "[LNearEnough$Step;") (List.mem_of_getElem? (i := 4) rfl)) (fun _ h9 => h9) rfl dX3_become_63 ?_
  refine lv_iload_n hx hb dX3_become_66 rfl (lv_at hl 0 rfl) ?_
  refine va_aldq hx hb hK hP 8 6 rfl rfl (by unfold vp_in; decide) dX3_become_67 ?_
  refine zv (v := .null) rfl ?_
  refine va_astqN hx hb hK hP hD hS 2 1 rfl rfl (by unfold vp_in; decide) dX3_become_68 (fun H locs hP hD hS => ?_)
  have hP : va_P (dC, dI) vwCl [(td, .inr (3, [.ref r1, .ref r2, .ref r3, .ref r4, .ref r5, .int 0, .int 0, .int 0])), (r1, .inl (kr1, 2, .inr (.inr (.inr (.inr f2))))), (r2, .inl (kr2, 12, .inr (.inr (.inr (.inr (va_up f9 (Int32.toNatClampNeg 7) none)))))), (r3, .inl (kr3, 4, .inl (fun _ => 0))), (r4, .inl (kr4, 4, .inl (fun _ => 0))), (r5, .inl (kr5, 4, .inl (fun _ => 0))), (pg, .inr (3, [.ref s1, .ref s2, .ref s3, .ref s4, .ref s5, .int 0, .int 0, .int 0])), (s1, .inl (ls1, 2, .inr (.inr (.inr (.inr (fun _ => none)))))), (s2, .inl (ls2, 12, .inr (.inr (.inr (.inr (fun _ => none)))))), (s3, .inl (ls3, 4, .inl (fun _ => 0))), (s4, .inl (ls4, 4, .inl (fun _ => 0))), (s5, .inl (ls5, 4, .inl (fun _ => 0)))] H := hP
  have hD : va_D A [(td, .inr (3, [.ref r1, .ref r2, .ref r3, .ref r4, .ref r5, .int 0, .int 0, .int 0])), (r1, .inl (kr1, 2, .inr (.inr (.inr (.inr f2))))), (r2, .inl (kr2, 12, .inr (.inr (.inr (.inr (va_up f9 (Int32.toNatClampNeg 7) none)))))), (r3, .inl (kr3, 4, .inl (fun _ => 0))), (r4, .inl (kr4, 4, .inl (fun _ => 0))), (r5, .inl (kr5, 4, .inl (fun _ => 0))), (pg, .inr (3, [.ref s1, .ref s2, .ref s3, .ref s4, .ref s5, .int 0, .int 0, .int 0])), (s1, .inl (ls1, 2, .inr (.inr (.inr (.inr (fun _ => none)))))), (s2, .inl (ls2, 12, .inr (.inr (.inr (.inr (fun _ => none)))))), (s3, .inl (ls3, 4, .inl (fun _ => 0))), (s4, .inl (ls4, 4, .inl (fun _ => 0))), (s5, .inl (ls5, 4, .inl (fun _ => 0)))] := hD
  generalize (va_up f9 (Int32.toNatClampNeg 7) none : Nat → Option Nat) = f10 at hP hD
  refine lv_iinc (v := 8) (lv' := [(2, .int 8), (0, .ref td), (1, .ref pg)]) hx hb dX3_become_69 hl (k := 0) rfl (by decide) (by decide) rfl (fun ls hl => ?_)
  refine lv_goto (tgt := 51) hx hb dX3_become_72 (by decide) ?_
  refine lv_iload_n hx hb dX3_become_51 rfl (lv_at hl 0 rfl) ?_
  refine lv_bipush (v := 12) hx hb dX3_become_52 (by decide) ?_
  refine lv_icmp_ge (tgt := 75) hx hb dX3_become_54 (by decide) (fun cc => absurd cc (by decide)) (fun _ => ?_)
  refine lv_aload_n hx hb dX3_become_57 rfl (lv_at hl 1 rfl) ?_
  refine va_get (D := (dC, dI)) (ci := 3) (v := .ref r2) (C := RX3) (T := TX3) (N := 8) hx hb hts hin3 hown hK hP 0 rfl rfl 1 (by decide) (ho (.fieldLink RX3 19 "NearEnough$Program" "steps" "[LNearEnough$Step;") (List.mem_of_getElem? (i := 4) rfl)) (fun _ h9 => h9) rfl dX3_become_58 ?_
  refine lv_iload_n hx hb dX3_become_61 rfl (lv_at hl 0 rfl) ?_
  refine lv_aload_n hx hb dX3_become_62 rfl (lv_at hl 2 rfl) ?_
  refine va_get (D := (dC, dI)) (ci := 3) (v := .ref s2) (C := RX3) (T := TX3) (N := 8) hx hb hts hin3 hown hK hP 6 rfl rfl 1 (by decide) (ho (.fieldLink RX3 19 "NearEnough$Program" "steps" "[LNearEnough$Step;") (List.mem_of_getElem? (i := 4) rfl)) (fun _ h9 => h9) rfl dX3_become_63 ?_
  refine lv_iload_n hx hb dX3_become_66 rfl (lv_at hl 0 rfl) ?_
  refine va_aldq hx hb hK hP 8 6 rfl rfl (by unfold vp_in; decide) dX3_become_67 ?_
  refine zv (v := .null) rfl ?_
  refine va_astqN hx hb hK hP hD hS 2 1 rfl rfl (by unfold vp_in; decide) dX3_become_68 (fun H locs hP hD hS => ?_)
  have hP : va_P (dC, dI) vwCl [(td, .inr (3, [.ref r1, .ref r2, .ref r3, .ref r4, .ref r5, .int 0, .int 0, .int 0])), (r1, .inl (kr1, 2, .inr (.inr (.inr (.inr f2))))), (r2, .inl (kr2, 12, .inr (.inr (.inr (.inr (va_up f10 (Int32.toNatClampNeg 8) none)))))), (r3, .inl (kr3, 4, .inl (fun _ => 0))), (r4, .inl (kr4, 4, .inl (fun _ => 0))), (r5, .inl (kr5, 4, .inl (fun _ => 0))), (pg, .inr (3, [.ref s1, .ref s2, .ref s3, .ref s4, .ref s5, .int 0, .int 0, .int 0])), (s1, .inl (ls1, 2, .inr (.inr (.inr (.inr (fun _ => none)))))), (s2, .inl (ls2, 12, .inr (.inr (.inr (.inr (fun _ => none)))))), (s3, .inl (ls3, 4, .inl (fun _ => 0))), (s4, .inl (ls4, 4, .inl (fun _ => 0))), (s5, .inl (ls5, 4, .inl (fun _ => 0)))] H := hP
  have hD : va_D A [(td, .inr (3, [.ref r1, .ref r2, .ref r3, .ref r4, .ref r5, .int 0, .int 0, .int 0])), (r1, .inl (kr1, 2, .inr (.inr (.inr (.inr f2))))), (r2, .inl (kr2, 12, .inr (.inr (.inr (.inr (va_up f10 (Int32.toNatClampNeg 8) none)))))), (r3, .inl (kr3, 4, .inl (fun _ => 0))), (r4, .inl (kr4, 4, .inl (fun _ => 0))), (r5, .inl (kr5, 4, .inl (fun _ => 0))), (pg, .inr (3, [.ref s1, .ref s2, .ref s3, .ref s4, .ref s5, .int 0, .int 0, .int 0])), (s1, .inl (ls1, 2, .inr (.inr (.inr (.inr (fun _ => none)))))), (s2, .inl (ls2, 12, .inr (.inr (.inr (.inr (fun _ => none)))))), (s3, .inl (ls3, 4, .inl (fun _ => 0))), (s4, .inl (ls4, 4, .inl (fun _ => 0))), (s5, .inl (ls5, 4, .inl (fun _ => 0)))] := hD
  generalize (va_up f10 (Int32.toNatClampNeg 8) none : Nat → Option Nat) = f11 at hP hD
  refine lv_iinc (v := 9) (lv' := [(2, .int 9), (0, .ref td), (1, .ref pg)]) hx hb dX3_become_69 hl (k := 0) rfl (by decide) (by decide) rfl (fun ls hl => ?_)
  refine lv_goto (tgt := 51) hx hb dX3_become_72 (by decide) ?_
  refine lv_iload_n hx hb dX3_become_51 rfl (lv_at hl 0 rfl) ?_
  refine lv_bipush (v := 12) hx hb dX3_become_52 (by decide) ?_
  refine lv_icmp_ge (tgt := 75) hx hb dX3_become_54 (by decide) (fun cc => absurd cc (by decide)) (fun _ => ?_)
  refine lv_aload_n hx hb dX3_become_57 rfl (lv_at hl 1 rfl) ?_
  refine va_get (D := (dC, dI)) (ci := 3) (v := .ref r2) (C := RX3) (T := TX3) (N := 8) hx hb hts hin3 hown hK hP 0 rfl rfl 1 (by decide) (ho (.fieldLink RX3 19 "NearEnough$Program" "steps" "[LNearEnough$Step;") (List.mem_of_getElem? (i := 4) rfl)) (fun _ h9 => h9) rfl dX3_become_58 ?_
  refine lv_iload_n hx hb dX3_become_61 rfl (lv_at hl 0 rfl) ?_
  refine lv_aload_n hx hb dX3_become_62 rfl (lv_at hl 2 rfl) ?_
  refine va_get (D := (dC, dI)) (ci := 3) (v := .ref s2) (C := RX3) (T := TX3) (N := 8) hx hb hts hin3 hown hK hP 6 rfl rfl 1 (by decide) (ho (.fieldLink RX3 19 "NearEnough$Program" "steps" "[LNearEnough$Step;") (List.mem_of_getElem? (i := 4) rfl)) (fun _ h9 => h9) rfl dX3_become_63 ?_
  refine lv_iload_n hx hb dX3_become_66 rfl (lv_at hl 0 rfl) ?_
  refine va_aldq hx hb hK hP 8 6 rfl rfl (by unfold vp_in; decide) dX3_become_67 ?_
  refine zv (v := .null) rfl ?_
  refine va_astqN hx hb hK hP hD hS 2 1 rfl rfl (by unfold vp_in; decide) dX3_become_68 (fun H locs hP hD hS => ?_)
  have hP : va_P (dC, dI) vwCl [(td, .inr (3, [.ref r1, .ref r2, .ref r3, .ref r4, .ref r5, .int 0, .int 0, .int 0])), (r1, .inl (kr1, 2, .inr (.inr (.inr (.inr f2))))), (r2, .inl (kr2, 12, .inr (.inr (.inr (.inr (va_up f11 (Int32.toNatClampNeg 9) none)))))), (r3, .inl (kr3, 4, .inl (fun _ => 0))), (r4, .inl (kr4, 4, .inl (fun _ => 0))), (r5, .inl (kr5, 4, .inl (fun _ => 0))), (pg, .inr (3, [.ref s1, .ref s2, .ref s3, .ref s4, .ref s5, .int 0, .int 0, .int 0])), (s1, .inl (ls1, 2, .inr (.inr (.inr (.inr (fun _ => none)))))), (s2, .inl (ls2, 12, .inr (.inr (.inr (.inr (fun _ => none)))))), (s3, .inl (ls3, 4, .inl (fun _ => 0))), (s4, .inl (ls4, 4, .inl (fun _ => 0))), (s5, .inl (ls5, 4, .inl (fun _ => 0)))] H := hP
  have hD : va_D A [(td, .inr (3, [.ref r1, .ref r2, .ref r3, .ref r4, .ref r5, .int 0, .int 0, .int 0])), (r1, .inl (kr1, 2, .inr (.inr (.inr (.inr f2))))), (r2, .inl (kr2, 12, .inr (.inr (.inr (.inr (va_up f11 (Int32.toNatClampNeg 9) none)))))), (r3, .inl (kr3, 4, .inl (fun _ => 0))), (r4, .inl (kr4, 4, .inl (fun _ => 0))), (r5, .inl (kr5, 4, .inl (fun _ => 0))), (pg, .inr (3, [.ref s1, .ref s2, .ref s3, .ref s4, .ref s5, .int 0, .int 0, .int 0])), (s1, .inl (ls1, 2, .inr (.inr (.inr (.inr (fun _ => none)))))), (s2, .inl (ls2, 12, .inr (.inr (.inr (.inr (fun _ => none)))))), (s3, .inl (ls3, 4, .inl (fun _ => 0))), (s4, .inl (ls4, 4, .inl (fun _ => 0))), (s5, .inl (ls5, 4, .inl (fun _ => 0)))] := hD
  generalize (va_up f11 (Int32.toNatClampNeg 9) none : Nat → Option Nat) = f12 at hP hD
  refine lv_iinc (v := 10) (lv' := [(2, .int 10), (0, .ref td), (1, .ref pg)]) hx hb dX3_become_69 hl (k := 0) rfl (by decide) (by decide) rfl (fun ls hl => ?_)
  refine lv_goto (tgt := 51) hx hb dX3_become_72 (by decide) ?_
  refine lv_iload_n hx hb dX3_become_51 rfl (lv_at hl 0 rfl) ?_
  refine lv_bipush (v := 12) hx hb dX3_become_52 (by decide) ?_
  refine lv_icmp_ge (tgt := 75) hx hb dX3_become_54 (by decide) (fun cc => absurd cc (by decide)) (fun _ => ?_)
  refine lv_aload_n hx hb dX3_become_57 rfl (lv_at hl 1 rfl) ?_
  refine va_get (D := (dC, dI)) (ci := 3) (v := .ref r2) (C := RX3) (T := TX3) (N := 8) hx hb hts hin3 hown hK hP 0 rfl rfl 1 (by decide) (ho (.fieldLink RX3 19 "NearEnough$Program" "steps" "[LNearEnough$Step;") (List.mem_of_getElem? (i := 4) rfl)) (fun _ h9 => h9) rfl dX3_become_58 ?_
  refine lv_iload_n hx hb dX3_become_61 rfl (lv_at hl 0 rfl) ?_
  refine lv_aload_n hx hb dX3_become_62 rfl (lv_at hl 2 rfl) ?_
  refine va_get (D := (dC, dI)) (ci := 3) (v := .ref s2) (C := RX3) (T := TX3) (N := 8) hx hb hts hin3 hown hK hP 6 rfl rfl 1 (by decide) (ho (.fieldLink RX3 19 "NearEnough$Program" "steps" "[LNearEnough$Step;") (List.mem_of_getElem? (i := 4) rfl)) (fun _ h9 => h9) rfl dX3_become_63 ?_
  refine lv_iload_n hx hb dX3_become_66 rfl (lv_at hl 0 rfl) ?_
  refine va_aldq hx hb hK hP 8 6 rfl rfl (by unfold vp_in; decide) dX3_become_67 ?_
  refine zv (v := .null) rfl ?_
  refine va_astqN hx hb hK hP hD hS 2 1 rfl rfl (by unfold vp_in; decide) dX3_become_68 (fun H locs hP hD hS => ?_)
  have hP : va_P (dC, dI) vwCl [(td, .inr (3, [.ref r1, .ref r2, .ref r3, .ref r4, .ref r5, .int 0, .int 0, .int 0])), (r1, .inl (kr1, 2, .inr (.inr (.inr (.inr f2))))), (r2, .inl (kr2, 12, .inr (.inr (.inr (.inr (va_up f12 (Int32.toNatClampNeg 10) none)))))), (r3, .inl (kr3, 4, .inl (fun _ => 0))), (r4, .inl (kr4, 4, .inl (fun _ => 0))), (r5, .inl (kr5, 4, .inl (fun _ => 0))), (pg, .inr (3, [.ref s1, .ref s2, .ref s3, .ref s4, .ref s5, .int 0, .int 0, .int 0])), (s1, .inl (ls1, 2, .inr (.inr (.inr (.inr (fun _ => none)))))), (s2, .inl (ls2, 12, .inr (.inr (.inr (.inr (fun _ => none)))))), (s3, .inl (ls3, 4, .inl (fun _ => 0))), (s4, .inl (ls4, 4, .inl (fun _ => 0))), (s5, .inl (ls5, 4, .inl (fun _ => 0)))] H := hP
  have hD : va_D A [(td, .inr (3, [.ref r1, .ref r2, .ref r3, .ref r4, .ref r5, .int 0, .int 0, .int 0])), (r1, .inl (kr1, 2, .inr (.inr (.inr (.inr f2))))), (r2, .inl (kr2, 12, .inr (.inr (.inr (.inr (va_up f12 (Int32.toNatClampNeg 10) none)))))), (r3, .inl (kr3, 4, .inl (fun _ => 0))), (r4, .inl (kr4, 4, .inl (fun _ => 0))), (r5, .inl (kr5, 4, .inl (fun _ => 0))), (pg, .inr (3, [.ref s1, .ref s2, .ref s3, .ref s4, .ref s5, .int 0, .int 0, .int 0])), (s1, .inl (ls1, 2, .inr (.inr (.inr (.inr (fun _ => none)))))), (s2, .inl (ls2, 12, .inr (.inr (.inr (.inr (fun _ => none)))))), (s3, .inl (ls3, 4, .inl (fun _ => 0))), (s4, .inl (ls4, 4, .inl (fun _ => 0))), (s5, .inl (ls5, 4, .inl (fun _ => 0)))] := hD
  generalize (va_up f12 (Int32.toNatClampNeg 10) none : Nat → Option Nat) = f13 at hP hD
  refine lv_iinc (v := 11) (lv' := [(2, .int 11), (0, .ref td), (1, .ref pg)]) hx hb dX3_become_69 hl (k := 0) rfl (by decide) (by decide) rfl (fun ls hl => ?_)
  refine lv_goto (tgt := 51) hx hb dX3_become_72 (by decide) ?_
  refine lv_iload_n hx hb dX3_become_51 rfl (lv_at hl 0 rfl) ?_
  refine lv_bipush (v := 12) hx hb dX3_become_52 (by decide) ?_
  refine lv_icmp_ge (tgt := 75) hx hb dX3_become_54 (by decide) (fun cc => absurd cc (by decide)) (fun _ => ?_)
  refine lv_aload_n hx hb dX3_become_57 rfl (lv_at hl 1 rfl) ?_
  refine va_get (D := (dC, dI)) (ci := 3) (v := .ref r2) (C := RX3) (T := TX3) (N := 8) hx hb hts hin3 hown hK hP 0 rfl rfl 1 (by decide) (ho (.fieldLink RX3 19 "NearEnough$Program" "steps" "[LNearEnough$Step;") (List.mem_of_getElem? (i := 4) rfl)) (fun _ h9 => h9) rfl dX3_become_58 ?_
  refine lv_iload_n hx hb dX3_become_61 rfl (lv_at hl 0 rfl) ?_
  refine lv_aload_n hx hb dX3_become_62 rfl (lv_at hl 2 rfl) ?_
  refine va_get (D := (dC, dI)) (ci := 3) (v := .ref s2) (C := RX3) (T := TX3) (N := 8) hx hb hts hin3 hown hK hP 6 rfl rfl 1 (by decide) (ho (.fieldLink RX3 19 "NearEnough$Program" "steps" "[LNearEnough$Step;") (List.mem_of_getElem? (i := 4) rfl)) (fun _ h9 => h9) rfl dX3_become_63 ?_
  refine lv_iload_n hx hb dX3_become_66 rfl (lv_at hl 0 rfl) ?_
  refine va_aldq hx hb hK hP 8 6 rfl rfl (by unfold vp_in; decide) dX3_become_67 ?_
  refine zv (v := .null) rfl ?_
  refine va_astqN hx hb hK hP hD hS 2 1 rfl rfl (by unfold vp_in; decide) dX3_become_68 (fun H locs hP hD hS => ?_)
  have hP : va_P (dC, dI) vwCl [(td, .inr (3, [.ref r1, .ref r2, .ref r3, .ref r4, .ref r5, .int 0, .int 0, .int 0])), (r1, .inl (kr1, 2, .inr (.inr (.inr (.inr f2))))), (r2, .inl (kr2, 12, .inr (.inr (.inr (.inr (va_up f13 (Int32.toNatClampNeg 11) none)))))), (r3, .inl (kr3, 4, .inl (fun _ => 0))), (r4, .inl (kr4, 4, .inl (fun _ => 0))), (r5, .inl (kr5, 4, .inl (fun _ => 0))), (pg, .inr (3, [.ref s1, .ref s2, .ref s3, .ref s4, .ref s5, .int 0, .int 0, .int 0])), (s1, .inl (ls1, 2, .inr (.inr (.inr (.inr (fun _ => none)))))), (s2, .inl (ls2, 12, .inr (.inr (.inr (.inr (fun _ => none)))))), (s3, .inl (ls3, 4, .inl (fun _ => 0))), (s4, .inl (ls4, 4, .inl (fun _ => 0))), (s5, .inl (ls5, 4, .inl (fun _ => 0)))] H := hP
  have hD : va_D A [(td, .inr (3, [.ref r1, .ref r2, .ref r3, .ref r4, .ref r5, .int 0, .int 0, .int 0])), (r1, .inl (kr1, 2, .inr (.inr (.inr (.inr f2))))), (r2, .inl (kr2, 12, .inr (.inr (.inr (.inr (va_up f13 (Int32.toNatClampNeg 11) none)))))), (r3, .inl (kr3, 4, .inl (fun _ => 0))), (r4, .inl (kr4, 4, .inl (fun _ => 0))), (r5, .inl (kr5, 4, .inl (fun _ => 0))), (pg, .inr (3, [.ref s1, .ref s2, .ref s3, .ref s4, .ref s5, .int 0, .int 0, .int 0])), (s1, .inl (ls1, 2, .inr (.inr (.inr (.inr (fun _ => none)))))), (s2, .inl (ls2, 12, .inr (.inr (.inr (.inr (fun _ => none)))))), (s3, .inl (ls3, 4, .inl (fun _ => 0))), (s4, .inl (ls4, 4, .inl (fun _ => 0))), (s5, .inl (ls5, 4, .inl (fun _ => 0)))] := hD
  generalize (va_up f13 (Int32.toNatClampNeg 11) none : Nat → Option Nat) = f14 at hP hD
  refine lv_iinc (v := 12) (lv' := [(2, .int 12), (0, .ref td), (1, .ref pg)]) hx hb dX3_become_69 hl (k := 0) rfl (by decide) (by decide) rfl (fun ls hl => ?_)
  refine lv_goto (tgt := 51) hx hb dX3_become_72 (by decide) ?_
  refine lv_iload_n hx hb dX3_become_51 rfl (lv_at hl 0 rfl) ?_
  refine lv_bipush (v := 12) hx hb dX3_become_52 (by decide) ?_
  refine lv_icmp_ge (tgt := 75) hx hb dX3_become_54 (by decide) (fun _ => ?_) (fun cc => absurd (by decide) cc)
  refine lv_aload_n hx hb dX3_become_75 rfl (lv_at hl 2 rfl) ?_
  refine va_get (D := (dC, dI)) (ci := 3) (v := .ref s3) (C := RX3) (T := TX3) (N := 8) hx hb hts hin3 hown hK hP 6 rfl rfl 2 (by decide) (ho (.fieldLink RX3 23 "NearEnough$Program" "endStep" "[I") (List.mem_of_getElem? (i := 5) rfl)) (fun _ h9 => h9) rfl dX3_become_76 ?_
  refine lv_iconst (v := 0) hx hb dX3_become_79 (by decide) ?_
  refine lv_aload_n hx hb dX3_become_80 rfl (lv_at hl 1 rfl) ?_
  refine va_get (D := (dC, dI)) (ci := 3) (v := .ref r3) (C := RX3) (T := TX3) (N := 8) hx hb hts hin3 hown hK hP 0 rfl rfl 2 (by decide) (ho (.fieldLink RX3 23 "NearEnough$Program" "endStep" "[I") (List.mem_of_getElem? (i := 5) rfl)) (fun _ h9 => h9) rfl dX3_become_81 ?_
  refine lv_iconst (v := 0) hx hb dX3_become_84 (by decide) ?_
  refine lv_iconst (v := 4) hx hb dX3_become_85 (by decide) ?_
  refine va_copyi (ty := .int) hx hb (hml.trans hl.1.symm) hown (ho (.methodLink RX3 43 arraycopyName) (List.mem_of_getElem? (i := 6) rfl)) (ho (.native arraycopyName) (List.mem_of_getElem? (i := 7) rfl)) (ho (.static arraycopyName) (List.mem_of_getElem? (i := 8) rfl)) (ho (.initialized "java/lang/System") (List.mem_of_getElem? (i := 9) rfl)) hK hP hD hS 9 3 7 2 rfl rfl rfl rfl rfl (by decide) (by decide) (by decide) (by decide) (by decide) (fun _ _ => rfl) (Nat.le_of_ble_eq_true rfl) (Nat.le_of_ble_eq_true rfl) dX3_become_86 (fun H locs hP hD hS => ?_)
  have hP : va_P (dC, dI) vwCl [(td, .inr (3, [.ref r1, .ref r2, .ref r3, .ref r4, .ref r5, .int 0, .int 0, .int 0])), (r1, .inl (kr1, 2, .inr (.inr (.inr (.inr f2))))), (r2, .inl (kr2, 12, .inr (.inr (.inr (.inr f14))))), (r3, .inl (kr3, 4, .inl (va_cpy (fun _ => 0) (fun _ => 0) (Int32.toNatClampNeg 0) (Int32.toNatClampNeg 0) (Int32.toNatClampNeg 4)))), (r4, .inl (kr4, 4, .inl (fun _ => 0))), (r5, .inl (kr5, 4, .inl (fun _ => 0))), (pg, .inr (3, [.ref s1, .ref s2, .ref s3, .ref s4, .ref s5, .int 0, .int 0, .int 0])), (s1, .inl (ls1, 2, .inr (.inr (.inr (.inr (fun _ => none)))))), (s2, .inl (ls2, 12, .inr (.inr (.inr (.inr (fun _ => none)))))), (s3, .inl (ls3, 4, .inl (fun _ => 0))), (s4, .inl (ls4, 4, .inl (fun _ => 0))), (s5, .inl (ls5, 4, .inl (fun _ => 0)))] H := hP
  have hD : va_D A [(td, .inr (3, [.ref r1, .ref r2, .ref r3, .ref r4, .ref r5, .int 0, .int 0, .int 0])), (r1, .inl (kr1, 2, .inr (.inr (.inr (.inr f2))))), (r2, .inl (kr2, 12, .inr (.inr (.inr (.inr f14))))), (r3, .inl (kr3, 4, .inl (va_cpy (fun _ => 0) (fun _ => 0) (Int32.toNatClampNeg 0) (Int32.toNatClampNeg 0) (Int32.toNatClampNeg 4)))), (r4, .inl (kr4, 4, .inl (fun _ => 0))), (r5, .inl (kr5, 4, .inl (fun _ => 0))), (pg, .inr (3, [.ref s1, .ref s2, .ref s3, .ref s4, .ref s5, .int 0, .int 0, .int 0])), (s1, .inl (ls1, 2, .inr (.inr (.inr (.inr (fun _ => none)))))), (s2, .inl (ls2, 12, .inr (.inr (.inr (.inr (fun _ => none)))))), (s3, .inl (ls3, 4, .inl (fun _ => 0))), (s4, .inl (ls4, 4, .inl (fun _ => 0))), (s5, .inl (ls5, 4, .inl (fun _ => 0)))] := hD
  generalize (va_cpy (fun _ => 0) (fun _ => 0) (Int32.toNatClampNeg 0) (Int32.toNatClampNeg 0) (Int32.toNatClampNeg 4) : Nat → Int32) = f15 at hP hD
  refine lv_aload_n hx hb dX3_become_89 rfl (lv_at hl 2 rfl) ?_
  refine va_get (D := (dC, dI)) (ci := 3) (v := .ref s4) (C := RX3) (T := TX3) (N := 8) hx hb hts hin3 hown hK hP 6 rfl rfl 3 (by decide) (ho (.fieldLink RX3 27 "NearEnough$Program" "endOff" "[I") (List.mem_of_getElem? (i := 10) rfl)) (fun _ h9 => h9) rfl dX3_become_90 ?_
  refine lv_iconst (v := 0) hx hb dX3_become_93 (by decide) ?_
  refine lv_aload_n hx hb dX3_become_94 rfl (lv_at hl 1 rfl) ?_
  refine va_get (D := (dC, dI)) (ci := 3) (v := .ref r4) (C := RX3) (T := TX3) (N := 8) hx hb hts hin3 hown hK hP 0 rfl rfl 3 (by decide) (ho (.fieldLink RX3 27 "NearEnough$Program" "endOff" "[I") (List.mem_of_getElem? (i := 10) rfl)) (fun _ h9 => h9) rfl dX3_become_95 ?_
  refine lv_iconst (v := 0) hx hb dX3_become_98 (by decide) ?_
  refine lv_iconst (v := 4) hx hb dX3_become_99 (by decide) ?_
  refine va_copyi (ty := .int) hx hb (hml.trans hl.1.symm) hown (ho (.methodLink RX3 43 arraycopyName) (List.mem_of_getElem? (i := 6) rfl)) (ho (.native arraycopyName) (List.mem_of_getElem? (i := 7) rfl)) (ho (.static arraycopyName) (List.mem_of_getElem? (i := 8) rfl)) (ho (.initialized "java/lang/System") (List.mem_of_getElem? (i := 9) rfl)) hK hP hD hS 10 4 8 3 rfl rfl rfl rfl rfl (by decide) (by decide) (by decide) (by decide) (by decide) (fun _ _ => rfl) (Nat.le_of_ble_eq_true rfl) (Nat.le_of_ble_eq_true rfl) dX3_become_100 (fun H locs hP hD hS => ?_)
  have hP : va_P (dC, dI) vwCl [(td, .inr (3, [.ref r1, .ref r2, .ref r3, .ref r4, .ref r5, .int 0, .int 0, .int 0])), (r1, .inl (kr1, 2, .inr (.inr (.inr (.inr f2))))), (r2, .inl (kr2, 12, .inr (.inr (.inr (.inr f14))))), (r3, .inl (kr3, 4, .inl f15)), (r4, .inl (kr4, 4, .inl (va_cpy (fun _ => 0) (fun _ => 0) (Int32.toNatClampNeg 0) (Int32.toNatClampNeg 0) (Int32.toNatClampNeg 4)))), (r5, .inl (kr5, 4, .inl (fun _ => 0))), (pg, .inr (3, [.ref s1, .ref s2, .ref s3, .ref s4, .ref s5, .int 0, .int 0, .int 0])), (s1, .inl (ls1, 2, .inr (.inr (.inr (.inr (fun _ => none)))))), (s2, .inl (ls2, 12, .inr (.inr (.inr (.inr (fun _ => none)))))), (s3, .inl (ls3, 4, .inl (fun _ => 0))), (s4, .inl (ls4, 4, .inl (fun _ => 0))), (s5, .inl (ls5, 4, .inl (fun _ => 0)))] H := hP
  have hD : va_D A [(td, .inr (3, [.ref r1, .ref r2, .ref r3, .ref r4, .ref r5, .int 0, .int 0, .int 0])), (r1, .inl (kr1, 2, .inr (.inr (.inr (.inr f2))))), (r2, .inl (kr2, 12, .inr (.inr (.inr (.inr f14))))), (r3, .inl (kr3, 4, .inl f15)), (r4, .inl (kr4, 4, .inl (va_cpy (fun _ => 0) (fun _ => 0) (Int32.toNatClampNeg 0) (Int32.toNatClampNeg 0) (Int32.toNatClampNeg 4)))), (r5, .inl (kr5, 4, .inl (fun _ => 0))), (pg, .inr (3, [.ref s1, .ref s2, .ref s3, .ref s4, .ref s5, .int 0, .int 0, .int 0])), (s1, .inl (ls1, 2, .inr (.inr (.inr (.inr (fun _ => none)))))), (s2, .inl (ls2, 12, .inr (.inr (.inr (.inr (fun _ => none)))))), (s3, .inl (ls3, 4, .inl (fun _ => 0))), (s4, .inl (ls4, 4, .inl (fun _ => 0))), (s5, .inl (ls5, 4, .inl (fun _ => 0)))] := hD
  generalize (va_cpy (fun _ => 0) (fun _ => 0) (Int32.toNatClampNeg 0) (Int32.toNatClampNeg 0) (Int32.toNatClampNeg 4) : Nat → Int32) = f16 at hP hD
  refine lv_aload_n hx hb dX3_become_103 rfl (lv_at hl 2 rfl) ?_
  refine va_get (D := (dC, dI)) (ci := 3) (v := .ref s5) (C := RX3) (T := TX3) (N := 8) hx hb hts hin3 hown hK hP 6 rfl rfl 4 (by decide) (ho (.fieldLink RX3 30 "NearEnough$Program" "endKind" "[I") (List.mem_of_getElem? (i := 11) rfl)) (fun _ h9 => h9) rfl dX3_become_104 ?_
  refine lv_iconst (v := 0) hx hb dX3_become_107 (by decide) ?_
  refine lv_aload_n hx hb dX3_become_108 rfl (lv_at hl 1 rfl) ?_
  refine va_get (D := (dC, dI)) (ci := 3) (v := .ref r5) (C := RX3) (T := TX3) (N := 8) hx hb hts hin3 hown hK hP 0 rfl rfl 4 (by decide) (ho (.fieldLink RX3 30 "NearEnough$Program" "endKind" "[I") (List.mem_of_getElem? (i := 11) rfl)) (fun _ h9 => h9) rfl dX3_become_109 ?_
  refine lv_iconst (v := 0) hx hb dX3_become_112 (by decide) ?_
  refine lv_iconst (v := 4) hx hb dX3_become_113 (by decide) ?_
  refine va_copyi (ty := .int) hx hb (hml.trans hl.1.symm) hown (ho (.methodLink RX3 43 arraycopyName) (List.mem_of_getElem? (i := 6) rfl)) (ho (.native arraycopyName) (List.mem_of_getElem? (i := 7) rfl)) (ho (.static arraycopyName) (List.mem_of_getElem? (i := 8) rfl)) (ho (.initialized "java/lang/System") (List.mem_of_getElem? (i := 9) rfl)) hK hP hD hS 11 5 9 4 rfl rfl rfl rfl rfl (by decide) (by decide) (by decide) (by decide) (by decide) (fun _ _ => rfl) (Nat.le_of_ble_eq_true rfl) (Nat.le_of_ble_eq_true rfl) dX3_become_114 (fun H locs hP hD hS => ?_)
  have hP : va_P (dC, dI) vwCl [(td, .inr (3, [.ref r1, .ref r2, .ref r3, .ref r4, .ref r5, .int 0, .int 0, .int 0])), (r1, .inl (kr1, 2, .inr (.inr (.inr (.inr f2))))), (r2, .inl (kr2, 12, .inr (.inr (.inr (.inr f14))))), (r3, .inl (kr3, 4, .inl f15)), (r4, .inl (kr4, 4, .inl f16)), (r5, .inl (kr5, 4, .inl (va_cpy (fun _ => 0) (fun _ => 0) (Int32.toNatClampNeg 0) (Int32.toNatClampNeg 0) (Int32.toNatClampNeg 4)))), (pg, .inr (3, [.ref s1, .ref s2, .ref s3, .ref s4, .ref s5, .int 0, .int 0, .int 0])), (s1, .inl (ls1, 2, .inr (.inr (.inr (.inr (fun _ => none)))))), (s2, .inl (ls2, 12, .inr (.inr (.inr (.inr (fun _ => none)))))), (s3, .inl (ls3, 4, .inl (fun _ => 0))), (s4, .inl (ls4, 4, .inl (fun _ => 0))), (s5, .inl (ls5, 4, .inl (fun _ => 0)))] H := hP
  have hD : va_D A [(td, .inr (3, [.ref r1, .ref r2, .ref r3, .ref r4, .ref r5, .int 0, .int 0, .int 0])), (r1, .inl (kr1, 2, .inr (.inr (.inr (.inr f2))))), (r2, .inl (kr2, 12, .inr (.inr (.inr (.inr f14))))), (r3, .inl (kr3, 4, .inl f15)), (r4, .inl (kr4, 4, .inl f16)), (r5, .inl (kr5, 4, .inl (va_cpy (fun _ => 0) (fun _ => 0) (Int32.toNatClampNeg 0) (Int32.toNatClampNeg 0) (Int32.toNatClampNeg 4)))), (pg, .inr (3, [.ref s1, .ref s2, .ref s3, .ref s4, .ref s5, .int 0, .int 0, .int 0])), (s1, .inl (ls1, 2, .inr (.inr (.inr (.inr (fun _ => none)))))), (s2, .inl (ls2, 12, .inr (.inr (.inr (.inr (fun _ => none)))))), (s3, .inl (ls3, 4, .inl (fun _ => 0))), (s4, .inl (ls4, 4, .inl (fun _ => 0))), (s5, .inl (ls5, 4, .inl (fun _ => 0)))] := hD
  generalize (va_cpy (fun _ => 0) (fun _ => 0) (Int32.toNatClampNeg 0) (Int32.toNatClampNeg 0) (Int32.toNatClampNeg 4) : Nat → Int32) = f17 at hP hD
  refine W.widen (k := 0) (n := 0) (Nat.le_of_ble_eq_true rfl) (Nat.le_of_ble_eq_true rfl) ?_
  exact W.vret hx hb hr (fun t ht hW => ⟨⟨(), rfl, trivial, wEn_of (hP.sub [0] rfl) (hK.sub [] rfl) (hD.sub [0] (by decide) rfl) ht hW⟩, hS.F ht⟩) hS.2.2 dX3_become_117
def ow_c_program : List Cond := [.classLink RX11 94 RX4, .instantiable RX4 4, .initialized RX4, .fieldLink RX11 9 "NearEnough" "tape" "[B", .fieldLink RX11 13 "NearEnough" "bytes" "I", .methodLink RX11 96 yX4_init, .instanceMethod yX4_init, .fieldLink RX11 102 "NearEnough$Reader" "fault" "I", .fieldLink RX11 17 "NearEnough" "faultNumber" "I", .fieldLink RX11 105 "NearEnough$Reader" "faultPlace" "I", .fieldLink RX11 20 "NearEnough" "faultPlace" "I", .fieldLink RX11 26 "NearEnough" "told" "LNearEnough$Program;", .fieldLink RX11 106 "NearEnough$Reader" "told" "LNearEnough$Program;", .fieldLink RX11 33 "NearEnough" "sheets" "LNearEnough$Sheets;", .fieldLink RX11 111 "NearEnough$Sheets" "count" "I", .fieldLink RX11 40 "NearEnough" "changes" "LNearEnough$Changes;", .fieldLink RX11 72 "NearEnough" "guards" "I", .fieldLink RX11 75 "NearEnough" "left" "I", .fieldLink RX11 123 "NearEnough$Program" "stepCount" "I"]
def vs_c_program : List Cond := .code yX11_program cX11_program 2 (some .int) :: (ow_c_program ++ (vs_c_Reader_init ++ (([.methodLink RX11 99 yX4_readAll, .instanceMethod yX4_readAll, .selects RX4 yX4_readAll yX4_readAll, .initialized RX4] : List Cond) ++ (vs_c_readAll ++ (([.methodLink RX11 107 yX3_become, .instanceMethod yX3_become, .selects RX3 yX3_become yX3_become, .initialized RX3] : List Cond) ++ (vs_c_become ++ (([.methodLink RX11 114 yX0_clear, .instanceMethod yX0_clear, .selects RX0 yX0_clear yX0_clear, .initialized RX0] : List Cond) ++ (vs_c_clear ++ (([.methodLink RX11 117 yX11_forgetFront, .instanceMethod yX11_forgetFront, .selects RX11 yX11_forgetFront yX11_forgetFront, .initialized RX11] : List Cond) ++ (vs_c_forgetFront ++ (([.methodLink RX11 120 yX11_forgetPlan, .instanceMethod yX11_forgetPlan, .selects RX11 yX11_forgetPlan yX11_forgetPlan, .initialized RX11] : List Cond) ++ (vs_c_forgetPlan ++ (wsX30 ++ (wsX40 ++ (wsX70 ++ (wsX110))))))))))))))))
theorem vg_c_program : vs_c_program.all goodWord = true := by decide +kernel
theorem gd_c_program_96_c_Reader_init : GoodIn vs_c_program (vs_c_Reader_init) := (goodIn_sub (fun w h => (List.mem_cons_of_mem _ (List.mem_append_right _ (List.mem_append_left _ h)))) vg_c_Reader_init)
theorem gd_c_program_99_c_readAll : GoodIn vs_c_program (wsV RX11 99 RX4 yX4_readAll vs_c_readAll) := goodIn_app (goodIn_sub (fun w h => (List.mem_cons_of_mem _ (List.mem_append_right _ (List.mem_append_right _ (List.mem_append_left _ h))))) (by decide +kernel)) (goodIn_sub (fun w h => (List.mem_cons_of_mem _ (List.mem_append_right _ (List.mem_append_right _ (List.mem_append_right _ (List.mem_append_left _ h)))))) vg_c_readAll)
theorem gd_c_program_107_c_become : GoodIn vs_c_program (wsV RX11 107 RX3 yX3_become vs_c_become) := goodIn_app (goodIn_sub (fun w h => (List.mem_cons_of_mem _ (List.mem_append_right _ (List.mem_append_right _ (List.mem_append_right _ (List.mem_append_right _ (List.mem_append_left _ h))))))) (by decide +kernel)) (goodIn_sub (fun w h => (List.mem_cons_of_mem _ (List.mem_append_right _ (List.mem_append_right _ (List.mem_append_right _ (List.mem_append_right _ (List.mem_append_right _ (List.mem_append_left _ h)))))))) vg_c_become)
theorem gd_c_program_114_c_clear : GoodIn vs_c_program (wsV RX11 114 RX0 yX0_clear vs_c_clear) := goodIn_app (goodIn_sub (fun w h => (List.mem_cons_of_mem _ (List.mem_append_right _ (List.mem_append_right _ (List.mem_append_right _ (List.mem_append_right _ (List.mem_append_right _ (List.mem_append_right _ (List.mem_append_left _ h))))))))) (by decide +kernel)) (goodIn_sub (fun w h => (List.mem_cons_of_mem _ (List.mem_append_right _ (List.mem_append_right _ (List.mem_append_right _ (List.mem_append_right _ (List.mem_append_right _ (List.mem_append_right _ (List.mem_append_right _ (List.mem_append_left _ h)))))))))) vg_c_clear)
theorem gd_c_program_117_c_forgetFront : GoodIn vs_c_program (wsV RX11 117 RX11 yX11_forgetFront vs_c_forgetFront) := goodIn_app (goodIn_sub (fun w h => (List.mem_cons_of_mem _ (List.mem_append_right _ (List.mem_append_right _ (List.mem_append_right _ (List.mem_append_right _ (List.mem_append_right _ (List.mem_append_right _ (List.mem_append_right _ (List.mem_append_right _ (List.mem_append_left _ h))))))))))) (by decide +kernel)) (goodIn_sub (fun w h => (List.mem_cons_of_mem _ (List.mem_append_right _ (List.mem_append_right _ (List.mem_append_right _ (List.mem_append_right _ (List.mem_append_right _ (List.mem_append_right _ (List.mem_append_right _ (List.mem_append_right _ (List.mem_append_right _ (List.mem_append_left _ h)))))))))))) vg_c_forgetFront)
theorem gd_c_program_120_c_forgetPlan : GoodIn vs_c_program (wsV RX11 120 RX11 yX11_forgetPlan vs_c_forgetPlan) := goodIn_app (goodIn_sub (fun w h => (List.mem_cons_of_mem _ (List.mem_append_right _ (List.mem_append_right _ (List.mem_append_right _ (List.mem_append_right _ (List.mem_append_right _ (List.mem_append_right _ (List.mem_append_right _ (List.mem_append_right _ (List.mem_append_right _ (List.mem_append_right _ (List.mem_append_left _ h))))))))))))) (by decide +kernel)) (goodIn_sub (fun w h => (List.mem_cons_of_mem _ (List.mem_append_right _ (List.mem_append_right _ (List.mem_append_right _ (List.mem_append_right _ (List.mem_append_right _ (List.mem_append_right _ (List.mem_append_right _ (List.mem_append_right _ (List.mem_append_right _ (List.mem_append_right _ (List.mem_append_right _ (List.mem_append_left _ h)))))))))))))) vg_c_forgetPlan)
set_option maxHeartbeats 4000000 in
set_option maxRecDepth 100000 in
theorem c_program (l : Launch) (dC : Nat → ClassId) (dI : Nat → Nat → Nat) (h0 : Nat) (tp : Nat) (td : Nat) (sh : Nat) (ch : Nat) (sw : Nat) (wk : Nat) (g1 : Nat) (g2 : Nat) (g3 : Nat) (tl : Nat) (r1 : Nat) (r2 : Nat) (r3 : Nat) (r4 : Nat) (r5 : Nat) (kr1 : ClassId) (kr2 : ClassId) (kr3 : ClassId) (kr4 : ClassId) (kr5 : ClassId) (kt : ClassId) (sn : Nat) (sk : Nat) (a1 : Nat) (a2 : Nat) (a3 : Nat) (a4 : Nat) (a5 : Nat) (kc : ClassId) (sz : Nat) : Met l yX11_program vs_c_program ({ frames := 3, cells := 8, slots := 45, locals := 82 }) (va_Pc [.ref h0] (wSt dC dI [(h0, .inr (11, [.ref tp, .int 0, .int 0, .int (-1), .ref td, .ref sh, .ref ch, .ref sw, .ref wk, .ref g1, .ref g2, .ref g3, .int 0, .int 0, .ref tl, .null, .null])), (tp, .inl (kt, 1000, .inl (fun _ => 0))), (td, .inr (3, [.ref r1, .ref r2, .ref r3, .ref r4, .ref r5, .int 0, .int 0, .int 0])), (r1, .inl (kr1, 2, .inr (.inr (.inr (.inr (fun _ => none)))))), (r2, .inl (kr2, 12, .inr (.inr (.inr (.inr (fun _ => none)))))), (r3, .inl (kr3, 4, .inl (fun _ => 0))), (r4, .inl (kr4, 4, .inl (fun _ => 0))), (r5, .inl (kr5, 4, .inl (fun _ => 0))), (sh, .inr (7, [.ref sn, .ref sk, .int 0])), (ch, .inr (0, [.ref a1, .ref a2, .ref a3, .ref a4, .ref a5, .int 0, .int 0])), (a5, .inl (kc, 12, .inl (fun _ => 0)))] [(kt, .byte), (kr1, .object RX5), (kr2, .object RX9), (kr3, .int), (kr4, .int), (kr5, .int), (kc, .int)] sz)) (va_Qi (fun (r : Int32) (_ : Unit) => r = 0) (fun (u : Unit) => wEn dC dI (va_A [(h0, .inr (11, [.ref tp, .int 0, .int 0, .int (-1), .ref td, .ref sh, .ref ch, .ref sw, .ref wk, .ref g1, .ref g2, .ref g3, .int 0, .int 0, .ref tl, .null, .null])), (tp, .inl (kt, 1000, .inl (fun _ => 0))), (td, .inr (3, [.ref r1, .ref r2, .ref r3, .ref r4, .ref r5, .int 0, .int 0, .int 0])), (r1, .inl (kr1, 2, .inr (.inr (.inr (.inr (fun _ => none)))))), (r2, .inl (kr2, 12, .inr (.inr (.inr (.inr (fun _ => none)))))), (r3, .inl (kr3, 4, .inl (fun _ => 0))), (r4, .inl (kr4, 4, .inl (fun _ => 0))), (r5, .inl (kr5, 4, .inl (fun _ => 0))), (sh, .inr (7, [.ref sn, .ref sk, .int 0])), (ch, .inr (0, [.ref a1, .ref a2, .ref a3, .ref a4, .ref a5, .int 0, .int 0])), (a5, .inl (kc, 12, .inl (fun _ => 0)))] sz) [] []) (va_A [(h0, .inr (11, [.ref tp, .int 0, .int 0, .int (-1), .ref td, .ref sh, .ref ch, .ref sw, .ref wk, .ref g1, .ref g2, .ref g3, .int 0, .int 0, .ref tl, .null, .null])), (tp, .inl (kt, 1000, .inl (fun _ => 0))), (td, .inr (3, [.ref r1, .ref r2, .ref r3, .ref r4, .ref r5, .int 0, .int 0, .int 0])), (r1, .inl (kr1, 2, .inr (.inr (.inr (.inr (fun _ => none)))))), (r2, .inl (kr2, 12, .inr (.inr (.inr (.inr (fun _ => none)))))), (r3, .inl (kr3, 4, .inl (fun _ => 0))), (r4, .inl (kr4, 4, .inl (fun _ => 0))), (r5, .inl (kr5, 4, .inl (fun _ => 0))), (sh, .inr (7, [.ref sn, .ref sk, .int 0])), (ch, .inr (0, [.ref a1, .ref a2, .ref a3, .ref a4, .ref a5, .int 0, .int 0])), (a5, .inl (kc, 12, .inl (fun _ => 0)))] sz)) 8 45 (va_A [(h0, .inr (11, [.ref tp, .int 0, .int 0, .int (-1), .ref td, .ref sh, .ref ch, .ref sw, .ref wk, .ref g1, .ref g2, .ref g3, .int 0, .int 0, .ref tl, .null, .null])), (tp, .inl (kt, 1000, .inl (fun _ => 0))), (td, .inr (3, [.ref r1, .ref r2, .ref r3, .ref r4, .ref r5, .int 0, .int 0, .int 0])), (r1, .inl (kr1, 2, .inr (.inr (.inr (.inr (fun _ => none)))))), (r2, .inl (kr2, 12, .inr (.inr (.inr (.inr (fun _ => none)))))), (r3, .inl (kr3, 4, .inl (fun _ => 0))), (r4, .inl (kr4, 4, .inl (fun _ => 0))), (r5, .inl (kr5, 4, .inl (fun _ => 0))), (sh, .inr (7, [.ref sn, .ref sk, .int 0])), (ch, .inr (0, [.ref a1, .ref a2, .ref a3, .ref a4, .ref a5, .int 0, .int 0])), (a5, .inl (kc, 12, .inl (fun _ => 0)))] sz) := by
  refine Met.ofW (cc := cX11_program) (maxL := 2) (ret := (some .int)) (by decide) rfl ?_
  intro p e s m args below meth c s₁ B hml hv
  obtain ⟨rfl, hsz, hP, hK, hD0, hE⟩ := hv
  have hx := B.exec
  have hb := B.bytes
  have hr := B.returns
  have hts := atoms_spec (ws := vs_c_program) B.pre
  have hown : s.vm.findClass RX11 = some m.cls := findClass_of_methodNamed B.named
  have hlocks := B.notSynchronized
  subst hsz
  have hD := hD0.self (sz := s.heap.size)
  generalize hAe : va_A [(h0, .inr (11, [.ref tp, .int 0, .int 0, .int (-1), .ref td, .ref sh, .ref ch, .ref sw, .ref wk, .ref g1, .ref g2, .ref g3, .int 0, .int 0, .ref tl, .null, .null])), (tp, .inl (kt, 1000, .inl (fun _ => 0))), (td, .inr (3, [.ref r1, .ref r2, .ref r3, .ref r4, .ref r5, .int 0, .int 0, .int 0])), (r1, .inl (kr1, 2, .inr (.inr (.inr (.inr (fun _ => none)))))), (r2, .inl (kr2, 12, .inr (.inr (.inr (.inr (fun _ => none)))))), (r3, .inl (kr3, 4, .inl (fun _ => 0))), (r4, .inl (kr4, 4, .inl (fun _ => 0))), (r5, .inl (kr5, 4, .inl (fun _ => 0))), (sh, .inr (7, [.ref sn, .ref sk, .int 0])), (ch, .inr (0, [.ref a1, .ref a2, .ref a3, .ref a4, .ref a5, .int 0, .int 0])), (a5, .inl (kc, 12, .inl (fun _ => 0)))] s.heap.size = A at hD ⊢
  have hA : ∀ q : Nat, s.heap.size ≤ q → A q := fun q h => by rw [← hAe]; exact Or.inr h
  have hl := lv_entry ([.ref h0]) (n := 2) (Nat.le_of_ble_eq_true rfl)
  rw [lg_entry_eq]
  generalize (lg_sl ([.ref h0]) ++ List.replicate (2 - (lg_sl ([.ref h0])).length) Slot.unset).toArray = ls at hl ⊢
  have hl : lv_has ls 2 [(0, .ref h0)] := hl
  refine zH (A := A) (ws := [(h0, .inr (11, [.ref tp, .int 0, .int 0, .int (-1), .ref td, .ref sh, .ref ch, .ref sw, .ref wk, .ref g1, .ref g2, .ref g3, .int 0, .int 0, .ref tl, .null, .null])), (tp, .inl (kt, 1000, .inl (fun _ => 0))), (td, .inr (3, [.ref r1, .ref r2, .ref r3, .ref r4, .ref r5, .int 0, .int 0, .int 0])), (r1, .inl (kr1, 2, .inr (.inr (.inr (.inr (fun _ => none)))))), (r2, .inl (kr2, 12, .inr (.inr (.inr (.inr (fun _ => none)))))), (r3, .inl (kr3, 4, .inl (fun _ => 0))), (r4, .inl (kr4, 4, .inl (fun _ => 0))), (r5, .inl (kr5, 4, .inl (fun _ => 0))), (sh, .inr (7, [.ref sn, .ref sk, .int 0])), (ch, .inr (0, [.ref a1, .ref a2, .ref a3, .ref a4, .ref a5, .int 0, .int 0])), (a5, .inl (kc, 12, .inl (fun _ => 0)))]) (fun H hP hS => ?_) hP
  have ho := fun w (h : w ∈ ow_c_program) => hts w (List.mem_cons_of_mem _ (List.mem_append_left _ h))
  have hin3 : ∀ w ∈ u_ws RX3 TX3 8, w ∈ vs_c_program := fun w h => (List.mem_cons_of_mem _ (List.mem_append_right _ (List.mem_append_right _ (List.mem_append_right _ (List.mem_append_right _ (List.mem_append_right _ (List.mem_append_right _ (List.mem_append_right _ (List.mem_append_right _ (List.mem_append_right _ (List.mem_append_right _ (List.mem_append_right _ (List.mem_append_right _ (List.mem_append_left _ h))))))))))))))
  have hin4 : ∀ w ∈ u_ws RX4 TX4 4, w ∈ vs_c_program := fun w h => (List.mem_cons_of_mem _ (List.mem_append_right _ (List.mem_append_right _ (List.mem_append_right _ (List.mem_append_right _ (List.mem_append_right _ (List.mem_append_right _ (List.mem_append_right _ (List.mem_append_right _ (List.mem_append_right _ (List.mem_append_right _ (List.mem_append_right _ (List.mem_append_right _ (List.mem_append_right _ (List.mem_append_left _ h)))))))))))))))
  have hin7 : ∀ w ∈ u_ws RX7 TX7 3, w ∈ vs_c_program := fun w h => (List.mem_cons_of_mem _ (List.mem_append_right _ (List.mem_append_right _ (List.mem_append_right _ (List.mem_append_right _ (List.mem_append_right _ (List.mem_append_right _ (List.mem_append_right _ (List.mem_append_right _ (List.mem_append_right _ (List.mem_append_right _ (List.mem_append_right _ (List.mem_append_right _ (List.mem_append_right _ (List.mem_append_right _ (List.mem_append_left _ h))))))))))))))))
  have hin11 : ∀ w ∈ u_ws RX11 TX11 17, w ∈ vs_c_program := fun w h => (List.mem_cons_of_mem _ (List.mem_append_right _ (List.mem_append_right _ (List.mem_append_right _ (List.mem_append_right _ (List.mem_append_right _ (List.mem_append_right _ (List.mem_append_right _ (List.mem_append_right _ (List.mem_append_right _ (List.mem_append_right _ (List.mem_append_right _ (List.mem_append_right _ (List.mem_append_right _ (List.mem_append_right _ (List.mem_append_right _ h))))))))))))))))
  refine va_new (ci := 4) (fs := [.null, .null, .int 0, .int 0]) (C := RX4) (T := TX4) (N := 4) hx hb hts hin4 tyX4 tyX4_ok hown (ho (.classLink RX11 94 RX4) (List.mem_of_getElem? (i := 0) rfl)) (ho (.instantiable RX4 4) (List.mem_of_getElem? (i := 1) rfl)) (ho (.initialized RX4) (List.mem_of_getElem? (i := 2) rfl)) hK hP hD hS hA rfl (by decide) (Nat.le_of_ble_eq_true rfl) (Nat.le_of_ble_eq_true rfl) dX11_program_0 (fun q1 H hP hD hS => ?_)
  have hP : va_P (dC, dI) vwCl [(h0, .inr (11, [.ref tp, .int 0, .int 0, .int (-1), .ref td, .ref sh, .ref ch, .ref sw, .ref wk, .ref g1, .ref g2, .ref g3, .int 0, .int 0, .ref tl, .null, .null])), (tp, .inl (kt, 1000, .inl (fun _ => 0))), (td, .inr (3, [.ref r1, .ref r2, .ref r3, .ref r4, .ref r5, .int 0, .int 0, .int 0])), (r1, .inl (kr1, 2, .inr (.inr (.inr (.inr (fun _ => none)))))), (r2, .inl (kr2, 12, .inr (.inr (.inr (.inr (fun _ => none)))))), (r3, .inl (kr3, 4, .inl (fun _ => 0))), (r4, .inl (kr4, 4, .inl (fun _ => 0))), (r5, .inl (kr5, 4, .inl (fun _ => 0))), (sh, .inr (7, [.ref sn, .ref sk, .int 0])), (ch, .inr (0, [.ref a1, .ref a2, .ref a3, .ref a4, .ref a5, .int 0, .int 0])), (a5, .inl (kc, 12, .inl (fun _ => 0))), (q1, .inr (4, [.null, .null, .int 0, .int 0]))] H := hP
  have hD : va_D A [(h0, .inr (11, [.ref tp, .int 0, .int 0, .int (-1), .ref td, .ref sh, .ref ch, .ref sw, .ref wk, .ref g1, .ref g2, .ref g3, .int 0, .int 0, .ref tl, .null, .null])), (tp, .inl (kt, 1000, .inl (fun _ => 0))), (td, .inr (3, [.ref r1, .ref r2, .ref r3, .ref r4, .ref r5, .int 0, .int 0, .int 0])), (r1, .inl (kr1, 2, .inr (.inr (.inr (.inr (fun _ => none)))))), (r2, .inl (kr2, 12, .inr (.inr (.inr (.inr (fun _ => none)))))), (r3, .inl (kr3, 4, .inl (fun _ => 0))), (r4, .inl (kr4, 4, .inl (fun _ => 0))), (r5, .inl (kr5, 4, .inl (fun _ => 0))), (sh, .inr (7, [.ref sn, .ref sk, .int 0])), (ch, .inr (0, [.ref a1, .ref a2, .ref a3, .ref a4, .ref a5, .int 0, .int 0])), (a5, .inl (kc, 12, .inl (fun _ => 0))), (q1, .inr (4, [.null, .null, .int 0, .int 0]))] := hD
  refine W.widen (k := 1) (n := 4) (Nat.le_of_ble_eq_true rfl) (Nat.le_of_ble_eq_true rfl) ?_
  refine lv_dup hx hb dX11_program_3 rfl ?_
  refine lv_aload_n hx hb dX11_program_4 rfl (lv_at hl 0 rfl) ?_
  refine va_get (D := (dC, dI)) (ci := 11) (v := .ref tp) (C := RX11) (T := TX11) (N := 17) hx hb hts hin11 hown hK hP 0 rfl rfl 0 (by decide) (ho (.fieldLink RX11 9 "NearEnough" "tape" "[B") (List.mem_of_getElem? (i := 3) rfl)) (fun _ h9 => h9) rfl dX11_program_5 ?_
  refine lv_aload_n hx hb dX11_program_8 rfl (lv_at hl 0 rfl) ?_
  refine va_get (D := (dC, dI)) (ci := 11) (v := .int 0) (C := RX11) (T := TX11) (N := 17) hx hb hts hin11 hown hK hP 0 rfl rfl 1 (by decide) (ho (.fieldLink RX11 13 "NearEnough" "bytes" "I") (List.mem_of_getElem? (i := 4) rfl)) (fun _ h9 => h9) rfl dX11_program_9 ?_
  have hPc := hP.sub (ws' := [(q1, .inr (4, [.null, .null, .int 0, .int 0])), (tp, .inl (kt, 1000, .inl (fun _ => 0)))]) [11, 1] rfl
  have hDc := hD.sub (ws' := [(q1, .inr (4, [.null, .null, .int 0, .int 0])), (tp, .inl (kt, 1000, .inl (fun _ => 0)))]) [11, 1] (by decide) rfl
  have hKc := hK.sub (tys' := [(kt, .byte)]) [0] rfl
  refine zz_v (wr := [(h0, .inr (11, [.ref tp, .int 0, .int 0, .int (-1), .ref td, .ref sh, .ref ch, .ref sw, .ref wk, .ref g1, .ref g2, .ref g3, .int 0, .int 0, .ref tl, .null, .null])), (td, .inr (3, [.ref r1, .ref r2, .ref r3, .ref r4, .ref r5, .int 0, .int 0, .int 0])), (r1, .inl (kr1, 2, .inr (.inr (.inr (.inr (fun _ => none)))))), (r2, .inl (kr2, 12, .inr (.inr (.inr (.inr (fun _ => none)))))), (r3, .inl (kr3, 4, .inl (fun _ => 0))), (r4, .inl (kr4, 4, .inl (fun _ => 0))), (r5, .inl (kr5, 4, .inl (fun _ => 0))), (sh, .inr (7, [.ref sn, .ref sk, .int 0])), (ch, .inr (0, [.ref a1, .ref a2, .ref a3, .ref a4, .ref a5, .int 0, .int 0])), (a5, .inl (kc, 12, .inl (fun _ => 0)))]) (va_runI (As := [.ref tp, .int 0]) (rest := [.ref q1]) ⟨hx, hb, hml, hown, hts⟩ (c_Reader_init l dC dI q1 tp kt H.size) (cwI 2 hts gd_c_program_96_c_Reader_init rfl rfl rfl (ho (.initialized RX4) (List.mem_of_getElem? (i := 2) rfl)) (ho (.methodLink RX11 96 yX4_init) (List.mem_of_getElem? (i := 5) rfl)) (ho (.instanceMethod yX4_init) (List.mem_of_getElem? (i := 6) rfl)) rfl (by decide +kernel) ⟨Nat.le_of_ble_eq_true rfl, Nat.le_of_ble_eq_true rfl⟩) (preS hPc hKc hDc hE) rfl rfl hl.1 rfl (lv_room (Nat.le_of_ble_eq_true rfl)) dX11_program_12 ⟨Nat.le_of_ble_eq_true rfl, Nat.le_of_ble_eq_true rfl⟩) hK hP hD hS hA [11, 1] [0, 2, 3, 4, 5, 6, 7, 8, 9, 10] rfl rfl (by decide) (by decide) (fun u H locs hK hP hD hS => ?_)
  obtain ⟨s2, p3, s4, s5, s6, s7, s8, l9, l10, l11, l12, l13⟩ := u
  have hP : va_P (dC, dI) vwCl [(h0, .inr (11, [.ref tp, .int 0, .int 0, .int (-1), .ref td, .ref sh, .ref ch, .ref sw, .ref wk, .ref g1, .ref g2, .ref g3, .int 0, .int 0, .ref tl, .null, .null])), (td, .inr (3, [.ref r1, .ref r2, .ref r3, .ref r4, .ref r5, .int 0, .int 0, .int 0])), (r1, .inl (kr1, 2, .inr (.inr (.inr (.inr (fun _ => none)))))), (r2, .inl (kr2, 12, .inr (.inr (.inr (.inr (fun _ => none)))))), (r3, .inl (kr3, 4, .inl (fun _ => 0))), (r4, .inl (kr4, 4, .inl (fun _ => 0))), (r5, .inl (kr5, 4, .inl (fun _ => 0))), (sh, .inr (7, [.ref sn, .ref sk, .int 0])), (ch, .inr (0, [.ref a1, .ref a2, .ref a3, .ref a4, .ref a5, .int 0, .int 0])), (a5, .inl (kc, 12, .inl (fun _ => 0))), (q1, .inr (4, [.ref s2, .ref p3, .int 0, .int (-1)])), (tp, .inl (kt, 1000, .inl (fun _ => 0))), (s2, .inr (6, [.ref tp, .int 0, .int 0, .int 0, .int 0, .long 0, .int 0])), (p3, .inr (3, [.ref s4, .ref s5, .ref s6, .ref s7, .ref s8, .int 0, .int 0, .int 0])), (s4, .inl (l9, 2, .inr (.inr (.inr (.inr (fun _ => none)))))), (s5, .inl (l10, 12, .inr (.inr (.inr (.inr (fun _ => none)))))), (s6, .inl (l11, 4, .inl (fun _ => 0))), (s7, .inl (l12, 4, .inl (fun _ => 0))), (s8, .inl (l13, 4, .inl (fun _ => 0)))] H := hP
  have hD : va_D A [(h0, .inr (11, [.ref tp, .int 0, .int 0, .int (-1), .ref td, .ref sh, .ref ch, .ref sw, .ref wk, .ref g1, .ref g2, .ref g3, .int 0, .int 0, .ref tl, .null, .null])), (td, .inr (3, [.ref r1, .ref r2, .ref r3, .ref r4, .ref r5, .int 0, .int 0, .int 0])), (r1, .inl (kr1, 2, .inr (.inr (.inr (.inr (fun _ => none)))))), (r2, .inl (kr2, 12, .inr (.inr (.inr (.inr (fun _ => none)))))), (r3, .inl (kr3, 4, .inl (fun _ => 0))), (r4, .inl (kr4, 4, .inl (fun _ => 0))), (r5, .inl (kr5, 4, .inl (fun _ => 0))), (sh, .inr (7, [.ref sn, .ref sk, .int 0])), (ch, .inr (0, [.ref a1, .ref a2, .ref a3, .ref a4, .ref a5, .int 0, .int 0])), (a5, .inl (kc, 12, .inl (fun _ => 0))), (q1, .inr (4, [.ref s2, .ref p3, .int 0, .int (-1)])), (tp, .inl (kt, 1000, .inl (fun _ => 0))), (s2, .inr (6, [.ref tp, .int 0, .int 0, .int 0, .int 0, .long 0, .int 0])), (p3, .inr (3, [.ref s4, .ref s5, .ref s6, .ref s7, .ref s8, .int 0, .int 0, .int 0])), (s4, .inl (l9, 2, .inr (.inr (.inr (.inr (fun _ => none)))))), (s5, .inl (l10, 12, .inr (.inr (.inr (.inr (fun _ => none)))))), (s6, .inl (l11, 4, .inl (fun _ => 0))), (s7, .inl (l12, 4, .inl (fun _ => 0))), (s8, .inl (l13, 4, .inl (fun _ => 0)))] := hD
  have hK : va_K (dC, dI) vwCl [(kt, .byte), (kr1, .object RX5), (kr2, .object RX9), (kr3, .int), (kr4, .int), (kr5, .int), (kc, .int), (l9, .object RX5), (l10, .object RX9), (l11, .int), (l12, .int), (l13, .int)] s := hK
  refine W.widen (k := 8) (n := 45) (Nat.le_of_ble_eq_true rfl) (Nat.le_of_ble_eq_true rfl) ?_
  refine lv_astore_n (lv' := [(1, .ref q1), (0, .ref h0)]) hx hb dX11_program_15 rfl hl (by decide) rfl (fun ls hl => ?_)
  refine lv_aload_n hx hb dX11_program_16 rfl (lv_at hl 0 rfl) ?_
  have hPc := hP.sub (ws' := [(q1, .inr (4, [.ref s2, .ref p3, .int 0, .int (-1)])), (s2, .inr (6, [.ref tp, .int 0, .int 0, .int 0, .int 0, .long 0, .int 0]))]) [10, 12] rfl
  have hDc := hD.sub (ws' := [(q1, .inr (4, [.ref s2, .ref p3, .int 0, .int (-1)])), (s2, .inr (6, [.ref tp, .int 0, .int 0, .int 0, .int 0, .long 0, .int 0]))]) [10, 12] (by decide) rfl
  have hKc := hK.sub (tys' := []) [] rfl
  refine zz_v (wr := [(h0, .inr (11, [.ref tp, .int 0, .int 0, .int (-1), .ref td, .ref sh, .ref ch, .ref sw, .ref wk, .ref g1, .ref g2, .ref g3, .int 0, .int 0, .ref tl, .null, .null])), (td, .inr (3, [.ref r1, .ref r2, .ref r3, .ref r4, .ref r5, .int 0, .int 0, .int 0])), (r1, .inl (kr1, 2, .inr (.inr (.inr (.inr (fun _ => none)))))), (r2, .inl (kr2, 12, .inr (.inr (.inr (.inr (fun _ => none)))))), (r3, .inl (kr3, 4, .inl (fun _ => 0))), (r4, .inl (kr4, 4, .inl (fun _ => 0))), (r5, .inl (kr5, 4, .inl (fun _ => 0))), (sh, .inr (7, [.ref sn, .ref sk, .int 0])), (ch, .inr (0, [.ref a1, .ref a2, .ref a3, .ref a4, .ref a5, .int 0, .int 0])), (a5, .inl (kc, 12, .inl (fun _ => 0))), (tp, .inl (kt, 1000, .inl (fun _ => 0))), (p3, .inr (3, [.ref s4, .ref s5, .ref s6, .ref s7, .ref s8, .int 0, .int 0, .int 0])), (s4, .inl (l9, 2, .inr (.inr (.inr (.inr (fun _ => none)))))), (s5, .inl (l10, 12, .inr (.inr (.inr (.inr (fun _ => none)))))), (s6, .inl (l11, 4, .inl (fun _ => 0))), (s7, .inl (l12, 4, .inl (fun _ => 0))), (s8, .inl (l13, 4, .inl (fun _ => 0)))]) (va_runV (As := []) (rest := []) ⟨hx, hb, hml, hown, hts⟩ (c_readAll l dC dI q1 s2 p3 tp H.size) (cwV 0 hts gd_c_program_99_c_readAll rfl rfl rfl (by decide +kernel) ⟨Nat.le_of_ble_eq_true rfl, Nat.le_of_ble_eq_true rfl⟩) (preV hPc hKc hDc hE (ci := 4) (q0 := 0) rfl rfl) rfl rfl hl.1 rfl (lv_room (Nat.le_of_ble_eq_true rfl)) dX11_program_17 ⟨Nat.le_of_ble_eq_true rfl, Nat.le_of_ble_eq_true rfl⟩) hK hP hD hS hA [10, 12] [0, 1, 2, 3, 4, 5, 6, 7, 8, 9, 11, 13, 14, 15, 16, 17, 18] rfl rfl (by decide) (by decide) (fun u H locs hK hP hD hS => ?_)
  have hP : va_P (dC, dI) vwCl [(h0, .inr (11, [.ref tp, .int 0, .int 0, .int (-1), .ref td, .ref sh, .ref ch, .ref sw, .ref wk, .ref g1, .ref g2, .ref g3, .int 0, .int 0, .ref tl, .null, .null])), (td, .inr (3, [.ref r1, .ref r2, .ref r3, .ref r4, .ref r5, .int 0, .int 0, .int 0])), (r1, .inl (kr1, 2, .inr (.inr (.inr (.inr (fun _ => none)))))), (r2, .inl (kr2, 12, .inr (.inr (.inr (.inr (fun _ => none)))))), (r3, .inl (kr3, 4, .inl (fun _ => 0))), (r4, .inl (kr4, 4, .inl (fun _ => 0))), (r5, .inl (kr5, 4, .inl (fun _ => 0))), (sh, .inr (7, [.ref sn, .ref sk, .int 0])), (ch, .inr (0, [.ref a1, .ref a2, .ref a3, .ref a4, .ref a5, .int 0, .int 0])), (a5, .inl (kc, 12, .inl (fun _ => 0))), (tp, .inl (kt, 1000, .inl (fun _ => 0))), (p3, .inr (3, [.ref s4, .ref s5, .ref s6, .ref s7, .ref s8, .int 0, .int 0, .int 0])), (s4, .inl (l9, 2, .inr (.inr (.inr (.inr (fun _ => none)))))), (s5, .inl (l10, 12, .inr (.inr (.inr (.inr (fun _ => none)))))), (s6, .inl (l11, 4, .inl (fun _ => 0))), (s7, .inl (l12, 4, .inl (fun _ => 0))), (s8, .inl (l13, 4, .inl (fun _ => 0))), (q1, .inr (4, [.ref s2, .ref p3, .int 0, .int (-1)])), (s2, .inr (6, [.ref tp, .int 0, .int 0, .int 5, .int 0, .long 0, .int 0]))] H := hP
  have hD : va_D A [(h0, .inr (11, [.ref tp, .int 0, .int 0, .int (-1), .ref td, .ref sh, .ref ch, .ref sw, .ref wk, .ref g1, .ref g2, .ref g3, .int 0, .int 0, .ref tl, .null, .null])), (td, .inr (3, [.ref r1, .ref r2, .ref r3, .ref r4, .ref r5, .int 0, .int 0, .int 0])), (r1, .inl (kr1, 2, .inr (.inr (.inr (.inr (fun _ => none)))))), (r2, .inl (kr2, 12, .inr (.inr (.inr (.inr (fun _ => none)))))), (r3, .inl (kr3, 4, .inl (fun _ => 0))), (r4, .inl (kr4, 4, .inl (fun _ => 0))), (r5, .inl (kr5, 4, .inl (fun _ => 0))), (sh, .inr (7, [.ref sn, .ref sk, .int 0])), (ch, .inr (0, [.ref a1, .ref a2, .ref a3, .ref a4, .ref a5, .int 0, .int 0])), (a5, .inl (kc, 12, .inl (fun _ => 0))), (tp, .inl (kt, 1000, .inl (fun _ => 0))), (p3, .inr (3, [.ref s4, .ref s5, .ref s6, .ref s7, .ref s8, .int 0, .int 0, .int 0])), (s4, .inl (l9, 2, .inr (.inr (.inr (.inr (fun _ => none)))))), (s5, .inl (l10, 12, .inr (.inr (.inr (.inr (fun _ => none)))))), (s6, .inl (l11, 4, .inl (fun _ => 0))), (s7, .inl (l12, 4, .inl (fun _ => 0))), (s8, .inl (l13, 4, .inl (fun _ => 0))), (q1, .inr (4, [.ref s2, .ref p3, .int 0, .int (-1)])), (s2, .inr (6, [.ref tp, .int 0, .int 0, .int 5, .int 0, .long 0, .int 0]))] := hD
  have hK : va_K (dC, dI) vwCl [(kt, .byte), (kr1, .object RX5), (kr2, .object RX9), (kr3, .int), (kr4, .int), (kr5, .int), (kc, .int), (l9, .object RX5), (l10, .object RX9), (l11, .int), (l12, .int), (l13, .int)] s := hK
  refine W.widen (k := 8) (n := 45) (Nat.le_of_ble_eq_true rfl) (Nat.le_of_ble_eq_true rfl) ?_
  refine lv_aload_n hx hb dX11_program_20 rfl (lv_at hl 1 rfl) ?_
  refine lv_aload_n hx hb dX11_program_21 rfl (lv_at hl 0 rfl) ?_
  refine va_get (D := (dC, dI)) (ci := 4) (v := .int 0) (C := RX4) (T := TX4) (N := 4) hx hb hts hin4 hown hK hP 17 rfl rfl 2 (by decide) (ho (.fieldLink RX11 102 "NearEnough$Reader" "fault" "I") (List.mem_of_getElem? (i := 7) rfl)) (fun _ h9 => h9) rfl dX11_program_22 ?_
  refine va_put (D := (dC, dI)) (ci := 11) (v := .int 0) (ty := tyX11 2) (C := RX11) (T := TX11) (N := 17) hx hb hts hin11 tyX11 tyX11_ok nmX11 hown hK hP hD hS 0 rfl rfl 2 (by decide) (ho (.fieldLink RX11 17 "NearEnough" "faultNumber" "I") (List.mem_of_getElem? (i := 8) rfl)) (fun _ h9 => h9) rfl (by decide +kernel) rfl rfl (Nat.le_of_ble_eq_true rfl) dX11_program_25 (fun H locs hP hD hS => ?_)
  have hP : va_P (dC, dI) vwCl [(h0, .inr (11, [.ref tp, .int 0, .int 0, .int (-1), .ref td, .ref sh, .ref ch, .ref sw, .ref wk, .ref g1, .ref g2, .ref g3, .int 0, .int 0, .ref tl, .null, .null])), (td, .inr (3, [.ref r1, .ref r2, .ref r3, .ref r4, .ref r5, .int 0, .int 0, .int 0])), (r1, .inl (kr1, 2, .inr (.inr (.inr (.inr (fun _ => none)))))), (r2, .inl (kr2, 12, .inr (.inr (.inr (.inr (fun _ => none)))))), (r3, .inl (kr3, 4, .inl (fun _ => 0))), (r4, .inl (kr4, 4, .inl (fun _ => 0))), (r5, .inl (kr5, 4, .inl (fun _ => 0))), (sh, .inr (7, [.ref sn, .ref sk, .int 0])), (ch, .inr (0, [.ref a1, .ref a2, .ref a3, .ref a4, .ref a5, .int 0, .int 0])), (a5, .inl (kc, 12, .inl (fun _ => 0))), (tp, .inl (kt, 1000, .inl (fun _ => 0))), (p3, .inr (3, [.ref s4, .ref s5, .ref s6, .ref s7, .ref s8, .int 0, .int 0, .int 0])), (s4, .inl (l9, 2, .inr (.inr (.inr (.inr (fun _ => none)))))), (s5, .inl (l10, 12, .inr (.inr (.inr (.inr (fun _ => none)))))), (s6, .inl (l11, 4, .inl (fun _ => 0))), (s7, .inl (l12, 4, .inl (fun _ => 0))), (s8, .inl (l13, 4, .inl (fun _ => 0))), (q1, .inr (4, [.ref s2, .ref p3, .int 0, .int (-1)])), (s2, .inr (6, [.ref tp, .int 0, .int 0, .int 5, .int 0, .long 0, .int 0]))] H := hP
  have hD : va_D A [(h0, .inr (11, [.ref tp, .int 0, .int 0, .int (-1), .ref td, .ref sh, .ref ch, .ref sw, .ref wk, .ref g1, .ref g2, .ref g3, .int 0, .int 0, .ref tl, .null, .null])), (td, .inr (3, [.ref r1, .ref r2, .ref r3, .ref r4, .ref r5, .int 0, .int 0, .int 0])), (r1, .inl (kr1, 2, .inr (.inr (.inr (.inr (fun _ => none)))))), (r2, .inl (kr2, 12, .inr (.inr (.inr (.inr (fun _ => none)))))), (r3, .inl (kr3, 4, .inl (fun _ => 0))), (r4, .inl (kr4, 4, .inl (fun _ => 0))), (r5, .inl (kr5, 4, .inl (fun _ => 0))), (sh, .inr (7, [.ref sn, .ref sk, .int 0])), (ch, .inr (0, [.ref a1, .ref a2, .ref a3, .ref a4, .ref a5, .int 0, .int 0])), (a5, .inl (kc, 12, .inl (fun _ => 0))), (tp, .inl (kt, 1000, .inl (fun _ => 0))), (p3, .inr (3, [.ref s4, .ref s5, .ref s6, .ref s7, .ref s8, .int 0, .int 0, .int 0])), (s4, .inl (l9, 2, .inr (.inr (.inr (.inr (fun _ => none)))))), (s5, .inl (l10, 12, .inr (.inr (.inr (.inr (fun _ => none)))))), (s6, .inl (l11, 4, .inl (fun _ => 0))), (s7, .inl (l12, 4, .inl (fun _ => 0))), (s8, .inl (l13, 4, .inl (fun _ => 0))), (q1, .inr (4, [.ref s2, .ref p3, .int 0, .int (-1)])), (s2, .inr (6, [.ref tp, .int 0, .int 0, .int 5, .int 0, .long 0, .int 0]))] := hD
  refine lv_aload_n hx hb dX11_program_28 rfl (lv_at hl 1 rfl) ?_
  refine lv_aload_n hx hb dX11_program_29 rfl (lv_at hl 0 rfl) ?_
  refine va_get (D := (dC, dI)) (ci := 4) (v := .int (-1)) (C := RX4) (T := TX4) (N := 4) hx hb hts hin4 hown hK hP 17 rfl rfl 3 (by decide) (ho (.fieldLink RX11 105 "NearEnough$Reader" "faultPlace" "I") (List.mem_of_getElem? (i := 9) rfl)) (fun _ h9 => h9) rfl dX11_program_30 ?_
  refine va_put (D := (dC, dI)) (ci := 11) (v := .int (-1)) (ty := tyX11 3) (C := RX11) (T := TX11) (N := 17) hx hb hts hin11 tyX11 tyX11_ok nmX11 hown hK hP hD hS 0 rfl rfl 3 (by decide) (ho (.fieldLink RX11 20 "NearEnough" "faultPlace" "I") (List.mem_of_getElem? (i := 10) rfl)) (fun _ h9 => h9) rfl (by decide +kernel) rfl rfl (Nat.le_of_ble_eq_true rfl) dX11_program_33 (fun H locs hP hD hS => ?_)
  have hP : va_P (dC, dI) vwCl [(h0, .inr (11, [.ref tp, .int 0, .int 0, .int (-1), .ref td, .ref sh, .ref ch, .ref sw, .ref wk, .ref g1, .ref g2, .ref g3, .int 0, .int 0, .ref tl, .null, .null])), (td, .inr (3, [.ref r1, .ref r2, .ref r3, .ref r4, .ref r5, .int 0, .int 0, .int 0])), (r1, .inl (kr1, 2, .inr (.inr (.inr (.inr (fun _ => none)))))), (r2, .inl (kr2, 12, .inr (.inr (.inr (.inr (fun _ => none)))))), (r3, .inl (kr3, 4, .inl (fun _ => 0))), (r4, .inl (kr4, 4, .inl (fun _ => 0))), (r5, .inl (kr5, 4, .inl (fun _ => 0))), (sh, .inr (7, [.ref sn, .ref sk, .int 0])), (ch, .inr (0, [.ref a1, .ref a2, .ref a3, .ref a4, .ref a5, .int 0, .int 0])), (a5, .inl (kc, 12, .inl (fun _ => 0))), (tp, .inl (kt, 1000, .inl (fun _ => 0))), (p3, .inr (3, [.ref s4, .ref s5, .ref s6, .ref s7, .ref s8, .int 0, .int 0, .int 0])), (s4, .inl (l9, 2, .inr (.inr (.inr (.inr (fun _ => none)))))), (s5, .inl (l10, 12, .inr (.inr (.inr (.inr (fun _ => none)))))), (s6, .inl (l11, 4, .inl (fun _ => 0))), (s7, .inl (l12, 4, .inl (fun _ => 0))), (s8, .inl (l13, 4, .inl (fun _ => 0))), (q1, .inr (4, [.ref s2, .ref p3, .int 0, .int (-1)])), (s2, .inr (6, [.ref tp, .int 0, .int 0, .int 5, .int 0, .long 0, .int 0]))] H := hP
  have hD : va_D A [(h0, .inr (11, [.ref tp, .int 0, .int 0, .int (-1), .ref td, .ref sh, .ref ch, .ref sw, .ref wk, .ref g1, .ref g2, .ref g3, .int 0, .int 0, .ref tl, .null, .null])), (td, .inr (3, [.ref r1, .ref r2, .ref r3, .ref r4, .ref r5, .int 0, .int 0, .int 0])), (r1, .inl (kr1, 2, .inr (.inr (.inr (.inr (fun _ => none)))))), (r2, .inl (kr2, 12, .inr (.inr (.inr (.inr (fun _ => none)))))), (r3, .inl (kr3, 4, .inl (fun _ => 0))), (r4, .inl (kr4, 4, .inl (fun _ => 0))), (r5, .inl (kr5, 4, .inl (fun _ => 0))), (sh, .inr (7, [.ref sn, .ref sk, .int 0])), (ch, .inr (0, [.ref a1, .ref a2, .ref a3, .ref a4, .ref a5, .int 0, .int 0])), (a5, .inl (kc, 12, .inl (fun _ => 0))), (tp, .inl (kt, 1000, .inl (fun _ => 0))), (p3, .inr (3, [.ref s4, .ref s5, .ref s6, .ref s7, .ref s8, .int 0, .int 0, .int 0])), (s4, .inl (l9, 2, .inr (.inr (.inr (.inr (fun _ => none)))))), (s5, .inl (l10, 12, .inr (.inr (.inr (.inr (fun _ => none)))))), (s6, .inl (l11, 4, .inl (fun _ => 0))), (s7, .inl (l12, 4, .inl (fun _ => 0))), (s8, .inl (l13, 4, .inl (fun _ => 0))), (q1, .inr (4, [.ref s2, .ref p3, .int 0, .int (-1)])), (s2, .inr (6, [.ref tp, .int 0, .int 0, .int 5, .int 0, .long 0, .int 0]))] := hD
  refine lv_aload_n hx hb dX11_program_36 rfl (lv_at hl 1 rfl) ?_
  refine va_get (D := (dC, dI)) (ci := 11) (v := .int 0) (C := RX11) (T := TX11) (N := 17) hx hb hts hin11 hown hK hP 0 rfl rfl 2 (by decide) (ho (.fieldLink RX11 17 "NearEnough" "faultNumber" "I") (List.mem_of_getElem? (i := 8) rfl)) (fun _ h9 => h9) rfl dX11_program_37 ?_
  refine lv_if_eq (tgt := 45) hx hb dX11_program_40 (by decide) (fun _ => ?_) (fun cc => absurd (by decide) cc)
  refine lv_aload_n hx hb dX11_program_45 rfl (lv_at hl 1 rfl) ?_
  refine va_get (D := (dC, dI)) (ci := 11) (v := .ref td) (C := RX11) (T := TX11) (N := 17) hx hb hts hin11 hown hK hP 0 rfl rfl 4 (by decide) (ho (.fieldLink RX11 26 "NearEnough" "told" "LNearEnough$Program;") (List.mem_of_getElem? (i := 11) rfl)) (fun _ h9 => h9) rfl dX11_program_46 ?_
  refine lv_aload_n hx hb dX11_program_49 rfl (lv_at hl 0 rfl) ?_
  refine va_get (D := (dC, dI)) (ci := 4) (v := .ref p3) (C := RX4) (T := TX4) (N := 4) hx hb hts hin4 hown hK hP 17 rfl rfl 1 (by decide) (ho (.fieldLink RX11 106 "NearEnough$Reader" "told" "LNearEnough$Program;") (List.mem_of_getElem? (i := 12) rfl)) (fun _ h9 => h9) rfl dX11_program_50 ?_
  have hPc := hP.sub (ws' := [(td, .inr (3, [.ref r1, .ref r2, .ref r3, .ref r4, .ref r5, .int 0, .int 0, .int 0])), (r1, .inl (kr1, 2, .inr (.inr (.inr (.inr (fun _ => none)))))), (r2, .inl (kr2, 12, .inr (.inr (.inr (.inr (fun _ => none)))))), (r3, .inl (kr3, 4, .inl (fun _ => 0))), (r4, .inl (kr4, 4, .inl (fun _ => 0))), (r5, .inl (kr5, 4, .inl (fun _ => 0))), (p3, .inr (3, [.ref s4, .ref s5, .ref s6, .ref s7, .ref s8, .int 0, .int 0, .int 0])), (s4, .inl (l9, 2, .inr (.inr (.inr (.inr (fun _ => none)))))), (s5, .inl (l10, 12, .inr (.inr (.inr (.inr (fun _ => none)))))), (s6, .inl (l11, 4, .inl (fun _ => 0))), (s7, .inl (l12, 4, .inl (fun _ => 0))), (s8, .inl (l13, 4, .inl (fun _ => 0)))]) [1, 2, 3, 4, 5, 6, 11, 12, 13, 14, 15, 16] rfl
  have hDc := hD.sub (ws' := [(td, .inr (3, [.ref r1, .ref r2, .ref r3, .ref r4, .ref r5, .int 0, .int 0, .int 0])), (r1, .inl (kr1, 2, .inr (.inr (.inr (.inr (fun _ => none)))))), (r2, .inl (kr2, 12, .inr (.inr (.inr (.inr (fun _ => none)))))), (r3, .inl (kr3, 4, .inl (fun _ => 0))), (r4, .inl (kr4, 4, .inl (fun _ => 0))), (r5, .inl (kr5, 4, .inl (fun _ => 0))), (p3, .inr (3, [.ref s4, .ref s5, .ref s6, .ref s7, .ref s8, .int 0, .int 0, .int 0])), (s4, .inl (l9, 2, .inr (.inr (.inr (.inr (fun _ => none)))))), (s5, .inl (l10, 12, .inr (.inr (.inr (.inr (fun _ => none)))))), (s6, .inl (l11, 4, .inl (fun _ => 0))), (s7, .inl (l12, 4, .inl (fun _ => 0))), (s8, .inl (l13, 4, .inl (fun _ => 0)))]) [1, 2, 3, 4, 5, 6, 11, 12, 13, 14, 15, 16] (by decide) rfl
  have hKc := hK.sub (tys' := [(kr1, .object RX5), (kr2, .object RX9), (kr3, .int), (kr4, .int), (kr5, .int), (l9, .object RX5), (l10, .object RX9), (l11, .int), (l12, .int), (l13, .int)]) [1, 2, 3, 4, 5, 7, 8, 9, 10, 11] rfl
  refine zz_v (wr := [(h0, .inr (11, [.ref tp, .int 0, .int 0, .int (-1), .ref td, .ref sh, .ref ch, .ref sw, .ref wk, .ref g1, .ref g2, .ref g3, .int 0, .int 0, .ref tl, .null, .null])), (sh, .inr (7, [.ref sn, .ref sk, .int 0])), (ch, .inr (0, [.ref a1, .ref a2, .ref a3, .ref a4, .ref a5, .int 0, .int 0])), (a5, .inl (kc, 12, .inl (fun _ => 0))), (tp, .inl (kt, 1000, .inl (fun _ => 0))), (q1, .inr (4, [.ref s2, .ref p3, .int 0, .int (-1)])), (s2, .inr (6, [.ref tp, .int 0, .int 0, .int 5, .int 0, .long 0, .int 0]))]) (va_runV (As := [.ref p3]) (rest := []) ⟨hx, hb, hml, hown, hts⟩ (c_become l dC dI td r1 r2 r3 r4 r5 p3 s4 s5 s6 s7 s8 kr1 kr2 kr3 kr4 kr5 l9 l10 l11 l12 l13 H.size) (cwV 1 hts gd_c_program_107_c_become rfl rfl rfl (by decide +kernel) ⟨Nat.le_of_ble_eq_true rfl, Nat.le_of_ble_eq_true rfl⟩) (preV hPc hKc hDc hE (ci := 3) (q0 := 0) rfl rfl) rfl rfl hl.1 rfl (lv_room (Nat.le_of_ble_eq_true rfl)) dX11_program_53 ⟨Nat.le_of_ble_eq_true rfl, Nat.le_of_ble_eq_true rfl⟩) hK hP hD hS hA [1, 2, 3, 4, 5, 6, 11, 12, 13, 14, 15, 16] [0, 7, 8, 9, 10, 17, 18] rfl rfl (by decide) (by decide) (fun u H locs hK hP hD hS => ?_)
  have hP : va_P (dC, dI) vwCl [(h0, .inr (11, [.ref tp, .int 0, .int 0, .int (-1), .ref td, .ref sh, .ref ch, .ref sw, .ref wk, .ref g1, .ref g2, .ref g3, .int 0, .int 0, .ref tl, .null, .null])), (sh, .inr (7, [.ref sn, .ref sk, .int 0])), (ch, .inr (0, [.ref a1, .ref a2, .ref a3, .ref a4, .ref a5, .int 0, .int 0])), (a5, .inl (kc, 12, .inl (fun _ => 0))), (tp, .inl (kt, 1000, .inl (fun _ => 0))), (q1, .inr (4, [.ref s2, .ref p3, .int 0, .int (-1)])), (s2, .inr (6, [.ref tp, .int 0, .int 0, .int 5, .int 0, .long 0, .int 0])), (td, .inr (3, [.ref r1, .ref r2, .ref r3, .ref r4, .ref r5, .int 0, .int 0, .int 0]))] H := hP
  have hD : va_D A [(h0, .inr (11, [.ref tp, .int 0, .int 0, .int (-1), .ref td, .ref sh, .ref ch, .ref sw, .ref wk, .ref g1, .ref g2, .ref g3, .int 0, .int 0, .ref tl, .null, .null])), (sh, .inr (7, [.ref sn, .ref sk, .int 0])), (ch, .inr (0, [.ref a1, .ref a2, .ref a3, .ref a4, .ref a5, .int 0, .int 0])), (a5, .inl (kc, 12, .inl (fun _ => 0))), (tp, .inl (kt, 1000, .inl (fun _ => 0))), (q1, .inr (4, [.ref s2, .ref p3, .int 0, .int (-1)])), (s2, .inr (6, [.ref tp, .int 0, .int 0, .int 5, .int 0, .long 0, .int 0])), (td, .inr (3, [.ref r1, .ref r2, .ref r3, .ref r4, .ref r5, .int 0, .int 0, .int 0]))] := hD
  have hK : va_K (dC, dI) vwCl [(kt, .byte), (kr1, .object RX5), (kr2, .object RX9), (kr3, .int), (kr4, .int), (kr5, .int), (kc, .int), (l9, .object RX5), (l10, .object RX9), (l11, .int), (l12, .int), (l13, .int)] s := hK
  refine W.widen (k := 8) (n := 45) (Nat.le_of_ble_eq_true rfl) (Nat.le_of_ble_eq_true rfl) ?_
  refine lv_aload_n hx hb dX11_program_56 rfl (lv_at hl 1 rfl) ?_
  refine lv_iconst (v := 0) hx hb dX11_program_57 (by decide) ?_
  refine va_put (D := (dC, dI)) (ci := 11) (v := .int 0) (ty := tyX11 1) (C := RX11) (T := TX11) (N := 17) hx hb hts hin11 tyX11 tyX11_ok nmX11 hown hK hP hD hS 0 rfl rfl 1 (by decide) (ho (.fieldLink RX11 13 "NearEnough" "bytes" "I") (List.mem_of_getElem? (i := 4) rfl)) (fun _ h9 => h9) rfl (by decide +kernel) rfl rfl (Nat.le_of_ble_eq_true rfl) dX11_program_58 (fun H locs hP hD hS => ?_)
  have hP : va_P (dC, dI) vwCl [(h0, .inr (11, [.ref tp, .int 0, .int 0, .int (-1), .ref td, .ref sh, .ref ch, .ref sw, .ref wk, .ref g1, .ref g2, .ref g3, .int 0, .int 0, .ref tl, .null, .null])), (sh, .inr (7, [.ref sn, .ref sk, .int 0])), (ch, .inr (0, [.ref a1, .ref a2, .ref a3, .ref a4, .ref a5, .int 0, .int 0])), (a5, .inl (kc, 12, .inl (fun _ => 0))), (tp, .inl (kt, 1000, .inl (fun _ => 0))), (q1, .inr (4, [.ref s2, .ref p3, .int 0, .int (-1)])), (s2, .inr (6, [.ref tp, .int 0, .int 0, .int 5, .int 0, .long 0, .int 0])), (td, .inr (3, [.ref r1, .ref r2, .ref r3, .ref r4, .ref r5, .int 0, .int 0, .int 0]))] H := hP
  have hD : va_D A [(h0, .inr (11, [.ref tp, .int 0, .int 0, .int (-1), .ref td, .ref sh, .ref ch, .ref sw, .ref wk, .ref g1, .ref g2, .ref g3, .int 0, .int 0, .ref tl, .null, .null])), (sh, .inr (7, [.ref sn, .ref sk, .int 0])), (ch, .inr (0, [.ref a1, .ref a2, .ref a3, .ref a4, .ref a5, .int 0, .int 0])), (a5, .inl (kc, 12, .inl (fun _ => 0))), (tp, .inl (kt, 1000, .inl (fun _ => 0))), (q1, .inr (4, [.ref s2, .ref p3, .int 0, .int (-1)])), (s2, .inr (6, [.ref tp, .int 0, .int 0, .int 5, .int 0, .long 0, .int 0])), (td, .inr (3, [.ref r1, .ref r2, .ref r3, .ref r4, .ref r5, .int 0, .int 0, .int 0]))] := hD
  refine lv_aload_n hx hb dX11_program_61 rfl (lv_at hl 1 rfl) ?_
  refine va_get (D := (dC, dI)) (ci := 11) (v := .ref sh) (C := RX11) (T := TX11) (N := 17) hx hb hts hin11 hown hK hP 0 rfl rfl 5 (by decide) (ho (.fieldLink RX11 33 "NearEnough" "sheets" "LNearEnough$Sheets;") (List.mem_of_getElem? (i := 13) rfl)) (fun _ h9 => h9) rfl dX11_program_62 ?_
  refine lv_iconst (v := 0) hx hb dX11_program_65 (by decide) ?_
  refine va_put (D := (dC, dI)) (ci := 7) (v := .int 0) (ty := tyX7 2) (C := RX7) (T := TX7) (N := 3) hx hb hts hin7 tyX7 tyX7_ok nmX7 hown hK hP hD hS 1 rfl rfl 2 (by decide) (ho (.fieldLink RX11 111 "NearEnough$Sheets" "count" "I") (List.mem_of_getElem? (i := 14) rfl)) (fun _ h9 => h9) rfl (by decide +kernel) rfl rfl (Nat.le_of_ble_eq_true rfl) dX11_program_66 (fun H locs hP hD hS => ?_)
  have hP : va_P (dC, dI) vwCl [(h0, .inr (11, [.ref tp, .int 0, .int 0, .int (-1), .ref td, .ref sh, .ref ch, .ref sw, .ref wk, .ref g1, .ref g2, .ref g3, .int 0, .int 0, .ref tl, .null, .null])), (sh, .inr (7, [.ref sn, .ref sk, .int 0])), (ch, .inr (0, [.ref a1, .ref a2, .ref a3, .ref a4, .ref a5, .int 0, .int 0])), (a5, .inl (kc, 12, .inl (fun _ => 0))), (tp, .inl (kt, 1000, .inl (fun _ => 0))), (q1, .inr (4, [.ref s2, .ref p3, .int 0, .int (-1)])), (s2, .inr (6, [.ref tp, .int 0, .int 0, .int 5, .int 0, .long 0, .int 0])), (td, .inr (3, [.ref r1, .ref r2, .ref r3, .ref r4, .ref r5, .int 0, .int 0, .int 0]))] H := hP
  have hD : va_D A [(h0, .inr (11, [.ref tp, .int 0, .int 0, .int (-1), .ref td, .ref sh, .ref ch, .ref sw, .ref wk, .ref g1, .ref g2, .ref g3, .int 0, .int 0, .ref tl, .null, .null])), (sh, .inr (7, [.ref sn, .ref sk, .int 0])), (ch, .inr (0, [.ref a1, .ref a2, .ref a3, .ref a4, .ref a5, .int 0, .int 0])), (a5, .inl (kc, 12, .inl (fun _ => 0))), (tp, .inl (kt, 1000, .inl (fun _ => 0))), (q1, .inr (4, [.ref s2, .ref p3, .int 0, .int (-1)])), (s2, .inr (6, [.ref tp, .int 0, .int 0, .int 5, .int 0, .long 0, .int 0])), (td, .inr (3, [.ref r1, .ref r2, .ref r3, .ref r4, .ref r5, .int 0, .int 0, .int 0]))] := hD
  refine lv_aload_n hx hb dX11_program_69 rfl (lv_at hl 1 rfl) ?_
  refine va_get (D := (dC, dI)) (ci := 11) (v := .ref ch) (C := RX11) (T := TX11) (N := 17) hx hb hts hin11 hown hK hP 0 rfl rfl 6 (by decide) (ho (.fieldLink RX11 40 "NearEnough" "changes" "LNearEnough$Changes;") (List.mem_of_getElem? (i := 15) rfl)) (fun _ h9 => h9) rfl dX11_program_70 ?_
  have hPc := hP.sub (ws' := [(ch, .inr (0, [.ref a1, .ref a2, .ref a3, .ref a4, .ref a5, .int 0, .int 0])), (a5, .inl (kc, 12, .inl (fun _ => 0)))]) [2, 3] rfl
  have hDc := hD.sub (ws' := [(ch, .inr (0, [.ref a1, .ref a2, .ref a3, .ref a4, .ref a5, .int 0, .int 0])), (a5, .inl (kc, 12, .inl (fun _ => 0)))]) [2, 3] (by decide) rfl
  have hKc := hK.sub (tys' := [(kc, .int)]) [6] rfl
  refine zz_v (wr := [(h0, .inr (11, [.ref tp, .int 0, .int 0, .int (-1), .ref td, .ref sh, .ref ch, .ref sw, .ref wk, .ref g1, .ref g2, .ref g3, .int 0, .int 0, .ref tl, .null, .null])), (sh, .inr (7, [.ref sn, .ref sk, .int 0])), (tp, .inl (kt, 1000, .inl (fun _ => 0))), (q1, .inr (4, [.ref s2, .ref p3, .int 0, .int (-1)])), (s2, .inr (6, [.ref tp, .int 0, .int 0, .int 5, .int 0, .long 0, .int 0])), (td, .inr (3, [.ref r1, .ref r2, .ref r3, .ref r4, .ref r5, .int 0, .int 0, .int 0]))]) (va_runV (As := []) (rest := []) ⟨hx, hb, hml, hown, hts⟩ (c_clear l dC dI ch a1 a2 a3 a4 a5 kc (fun _ => 0) 0 H.size) (cwV 0 hts gd_c_program_114_c_clear rfl rfl rfl (by decide +kernel) ⟨Nat.le_of_ble_eq_true rfl, Nat.le_of_ble_eq_true rfl⟩) (preV hPc hKc hDc hE (ci := 0) (q0 := 0) rfl rfl) rfl rfl hl.1 rfl (lv_room (Nat.le_of_ble_eq_true rfl)) dX11_program_73 ⟨Nat.le_of_ble_eq_true rfl, Nat.le_of_ble_eq_true rfl⟩) hK hP hD hS hA [2, 3] [0, 1, 4, 5, 6, 7] rfl rfl (by decide) (by decide) (fun f14 H locs hK hP hD hS => ?_)
  have hP : va_P (dC, dI) vwCl [(h0, .inr (11, [.ref tp, .int 0, .int 0, .int (-1), .ref td, .ref sh, .ref ch, .ref sw, .ref wk, .ref g1, .ref g2, .ref g3, .int 0, .int 0, .ref tl, .null, .null])), (sh, .inr (7, [.ref sn, .ref sk, .int 0])), (tp, .inl (kt, 1000, .inl (fun _ => 0))), (q1, .inr (4, [.ref s2, .ref p3, .int 0, .int (-1)])), (s2, .inr (6, [.ref tp, .int 0, .int 0, .int 5, .int 0, .long 0, .int 0])), (td, .inr (3, [.ref r1, .ref r2, .ref r3, .ref r4, .ref r5, .int 0, .int 0, .int 0])), (ch, .inr (0, [.ref a1, .ref a2, .ref a3, .ref a4, .ref a5, .int 0, .int 0])), (a5, .inl (kc, 12, .inl f14))] H := hP
  have hD : va_D A [(h0, .inr (11, [.ref tp, .int 0, .int 0, .int (-1), .ref td, .ref sh, .ref ch, .ref sw, .ref wk, .ref g1, .ref g2, .ref g3, .int 0, .int 0, .ref tl, .null, .null])), (sh, .inr (7, [.ref sn, .ref sk, .int 0])), (tp, .inl (kt, 1000, .inl (fun _ => 0))), (q1, .inr (4, [.ref s2, .ref p3, .int 0, .int (-1)])), (s2, .inr (6, [.ref tp, .int 0, .int 0, .int 5, .int 0, .long 0, .int 0])), (td, .inr (3, [.ref r1, .ref r2, .ref r3, .ref r4, .ref r5, .int 0, .int 0, .int 0])), (ch, .inr (0, [.ref a1, .ref a2, .ref a3, .ref a4, .ref a5, .int 0, .int 0])), (a5, .inl (kc, 12, .inl f14))] := hD
  have hK : va_K (dC, dI) vwCl [(kt, .byte), (kr1, .object RX5), (kr2, .object RX9), (kr3, .int), (kr4, .int), (kr5, .int), (kc, .int), (l9, .object RX5), (l10, .object RX9), (l11, .int), (l12, .int), (l13, .int)] s := hK
  refine W.widen (k := 8) (n := 45) (Nat.le_of_ble_eq_true rfl) (Nat.le_of_ble_eq_true rfl) ?_
  refine lv_aload_n hx hb dX11_program_76 rfl (lv_at hl 1 rfl) ?_
  refine lv_iconst (v := 0) hx hb dX11_program_77 (by decide) ?_
  refine va_put (D := (dC, dI)) (ci := 11) (v := .int 0) (ty := tyX11 12) (C := RX11) (T := TX11) (N := 17) hx hb hts hin11 tyX11 tyX11_ok nmX11 hown hK hP hD hS 0 rfl rfl 12 (by decide) (ho (.fieldLink RX11 72 "NearEnough" "guards" "I") (List.mem_of_getElem? (i := 16) rfl)) (fun _ h9 => h9) rfl (by decide +kernel) rfl rfl (Nat.le_of_ble_eq_true rfl) dX11_program_78 (fun H locs hP hD hS => ?_)
  have hP : va_P (dC, dI) vwCl [(h0, .inr (11, [.ref tp, .int 0, .int 0, .int (-1), .ref td, .ref sh, .ref ch, .ref sw, .ref wk, .ref g1, .ref g2, .ref g3, .int 0, .int 0, .ref tl, .null, .null])), (sh, .inr (7, [.ref sn, .ref sk, .int 0])), (tp, .inl (kt, 1000, .inl (fun _ => 0))), (q1, .inr (4, [.ref s2, .ref p3, .int 0, .int (-1)])), (s2, .inr (6, [.ref tp, .int 0, .int 0, .int 5, .int 0, .long 0, .int 0])), (td, .inr (3, [.ref r1, .ref r2, .ref r3, .ref r4, .ref r5, .int 0, .int 0, .int 0])), (ch, .inr (0, [.ref a1, .ref a2, .ref a3, .ref a4, .ref a5, .int 0, .int 0])), (a5, .inl (kc, 12, .inl f14))] H := hP
  have hD : va_D A [(h0, .inr (11, [.ref tp, .int 0, .int 0, .int (-1), .ref td, .ref sh, .ref ch, .ref sw, .ref wk, .ref g1, .ref g2, .ref g3, .int 0, .int 0, .ref tl, .null, .null])), (sh, .inr (7, [.ref sn, .ref sk, .int 0])), (tp, .inl (kt, 1000, .inl (fun _ => 0))), (q1, .inr (4, [.ref s2, .ref p3, .int 0, .int (-1)])), (s2, .inr (6, [.ref tp, .int 0, .int 0, .int 5, .int 0, .long 0, .int 0])), (td, .inr (3, [.ref r1, .ref r2, .ref r3, .ref r4, .ref r5, .int 0, .int 0, .int 0])), (ch, .inr (0, [.ref a1, .ref a2, .ref a3, .ref a4, .ref a5, .int 0, .int 0])), (a5, .inl (kc, 12, .inl f14))] := hD
  refine lv_aload_n hx hb dX11_program_81 rfl (lv_at hl 1 rfl) ?_
  refine lv_iconst (v := 0) hx hb dX11_program_82 (by decide) ?_
  refine va_put (D := (dC, dI)) (ci := 11) (v := .int 0) (ty := tyX11 13) (C := RX11) (T := TX11) (N := 17) hx hb hts hin11 tyX11 tyX11_ok nmX11 hown hK hP hD hS 0 rfl rfl 13 (by decide) (ho (.fieldLink RX11 75 "NearEnough" "left" "I") (List.mem_of_getElem? (i := 17) rfl)) (fun _ h9 => h9) rfl (by decide +kernel) rfl rfl (Nat.le_of_ble_eq_true rfl) dX11_program_83 (fun H locs hP hD hS => ?_)
  have hP : va_P (dC, dI) vwCl [(h0, .inr (11, [.ref tp, .int 0, .int 0, .int (-1), .ref td, .ref sh, .ref ch, .ref sw, .ref wk, .ref g1, .ref g2, .ref g3, .int 0, .int 0, .ref tl, .null, .null])), (sh, .inr (7, [.ref sn, .ref sk, .int 0])), (tp, .inl (kt, 1000, .inl (fun _ => 0))), (q1, .inr (4, [.ref s2, .ref p3, .int 0, .int (-1)])), (s2, .inr (6, [.ref tp, .int 0, .int 0, .int 5, .int 0, .long 0, .int 0])), (td, .inr (3, [.ref r1, .ref r2, .ref r3, .ref r4, .ref r5, .int 0, .int 0, .int 0])), (ch, .inr (0, [.ref a1, .ref a2, .ref a3, .ref a4, .ref a5, .int 0, .int 0])), (a5, .inl (kc, 12, .inl f14))] H := hP
  have hD : va_D A [(h0, .inr (11, [.ref tp, .int 0, .int 0, .int (-1), .ref td, .ref sh, .ref ch, .ref sw, .ref wk, .ref g1, .ref g2, .ref g3, .int 0, .int 0, .ref tl, .null, .null])), (sh, .inr (7, [.ref sn, .ref sk, .int 0])), (tp, .inl (kt, 1000, .inl (fun _ => 0))), (q1, .inr (4, [.ref s2, .ref p3, .int 0, .int (-1)])), (s2, .inr (6, [.ref tp, .int 0, .int 0, .int 5, .int 0, .long 0, .int 0])), (td, .inr (3, [.ref r1, .ref r2, .ref r3, .ref r4, .ref r5, .int 0, .int 0, .int 0])), (ch, .inr (0, [.ref a1, .ref a2, .ref a3, .ref a4, .ref a5, .int 0, .int 0])), (a5, .inl (kc, 12, .inl f14))] := hD
  refine lv_aload_n hx hb dX11_program_86 rfl (lv_at hl 1 rfl) ?_
  have hPc := hP.sub (ws' := [(h0, .inr (11, [.ref tp, .int 0, .int 0, .int (-1), .ref td, .ref sh, .ref ch, .ref sw, .ref wk, .ref g1, .ref g2, .ref g3, .int 0, .int 0, .ref tl, .null, .null]))]) [0] rfl
  have hDc := hD.sub (ws' := [(h0, .inr (11, [.ref tp, .int 0, .int 0, .int (-1), .ref td, .ref sh, .ref ch, .ref sw, .ref wk, .ref g1, .ref g2, .ref g3, .int 0, .int 0, .ref tl, .null, .null]))]) [0] (by decide) rfl
  have hKc := hK.sub (tys' := []) [] rfl
  refine zz_v (wr := [(sh, .inr (7, [.ref sn, .ref sk, .int 0])), (tp, .inl (kt, 1000, .inl (fun _ => 0))), (q1, .inr (4, [.ref s2, .ref p3, .int 0, .int (-1)])), (s2, .inr (6, [.ref tp, .int 0, .int 0, .int 5, .int 0, .long 0, .int 0])), (td, .inr (3, [.ref r1, .ref r2, .ref r3, .ref r4, .ref r5, .int 0, .int 0, .int 0])), (ch, .inr (0, [.ref a1, .ref a2, .ref a3, .ref a4, .ref a5, .int 0, .int 0])), (a5, .inl (kc, 12, .inl f14))]) (va_runV (As := []) (rest := []) ⟨hx, hb, hml, hown, hts⟩ (c_forgetFront l dC dI h0 tp td sh ch sw wk g1 g2 g3 tl H.size) (cwV 0 hts gd_c_program_117_c_forgetFront rfl rfl rfl (by decide +kernel) ⟨Nat.le_of_ble_eq_true rfl, Nat.le_of_ble_eq_true rfl⟩) (preV hPc hKc hDc hE (ci := 11) (q0 := 0) rfl rfl) rfl rfl hl.1 rfl (lv_room (Nat.le_of_ble_eq_true rfl)) dX11_program_87 ⟨Nat.le_of_ble_eq_true rfl, Nat.le_of_ble_eq_true rfl⟩) hK hP hD hS hA [0] [1, 2, 3, 4, 5, 6, 7] rfl rfl (by decide) (by decide) (fun u H locs hK hP hD hS => ?_)
  have hP : va_P (dC, dI) vwCl [(sh, .inr (7, [.ref sn, .ref sk, .int 0])), (tp, .inl (kt, 1000, .inl (fun _ => 0))), (q1, .inr (4, [.ref s2, .ref p3, .int 0, .int (-1)])), (s2, .inr (6, [.ref tp, .int 0, .int 0, .int 5, .int 0, .long 0, .int 0])), (td, .inr (3, [.ref r1, .ref r2, .ref r3, .ref r4, .ref r5, .int 0, .int 0, .int 0])), (ch, .inr (0, [.ref a1, .ref a2, .ref a3, .ref a4, .ref a5, .int 0, .int 0])), (a5, .inl (kc, 12, .inl f14)), (h0, .inr (11, [.ref tp, .int 0, .int 0, .int (-1), .ref td, .ref sh, .ref ch, .ref sw, .ref wk, .ref g1, .ref g2, .ref g3, .int 0, .int 0, .ref tl, .null, .null]))] H := hP
  have hD : va_D A [(sh, .inr (7, [.ref sn, .ref sk, .int 0])), (tp, .inl (kt, 1000, .inl (fun _ => 0))), (q1, .inr (4, [.ref s2, .ref p3, .int 0, .int (-1)])), (s2, .inr (6, [.ref tp, .int 0, .int 0, .int 5, .int 0, .long 0, .int 0])), (td, .inr (3, [.ref r1, .ref r2, .ref r3, .ref r4, .ref r5, .int 0, .int 0, .int 0])), (ch, .inr (0, [.ref a1, .ref a2, .ref a3, .ref a4, .ref a5, .int 0, .int 0])), (a5, .inl (kc, 12, .inl f14)), (h0, .inr (11, [.ref tp, .int 0, .int 0, .int (-1), .ref td, .ref sh, .ref ch, .ref sw, .ref wk, .ref g1, .ref g2, .ref g3, .int 0, .int 0, .ref tl, .null, .null]))] := hD
  have hK : va_K (dC, dI) vwCl [(kt, .byte), (kr1, .object RX5), (kr2, .object RX9), (kr3, .int), (kr4, .int), (kr5, .int), (kc, .int), (l9, .object RX5), (l10, .object RX9), (l11, .int), (l12, .int), (l13, .int)] s := hK
  refine W.widen (k := 8) (n := 45) (Nat.le_of_ble_eq_true rfl) (Nat.le_of_ble_eq_true rfl) ?_
  refine lv_aload_n hx hb dX11_program_90 rfl (lv_at hl 1 rfl) ?_
  have hPc := hP.sub (ws' := [(h0, .inr (11, [.ref tp, .int 0, .int 0, .int (-1), .ref td, .ref sh, .ref ch, .ref sw, .ref wk, .ref g1, .ref g2, .ref g3, .int 0, .int 0, .ref tl, .null, .null]))]) [7] rfl
  have hDc := hD.sub (ws' := [(h0, .inr (11, [.ref tp, .int 0, .int 0, .int (-1), .ref td, .ref sh, .ref ch, .ref sw, .ref wk, .ref g1, .ref g2, .ref g3, .int 0, .int 0, .ref tl, .null, .null]))]) [7] (by decide) rfl
  have hKc := hK.sub (tys' := []) [] rfl
  refine zz_v (wr := [(sh, .inr (7, [.ref sn, .ref sk, .int 0])), (tp, .inl (kt, 1000, .inl (fun _ => 0))), (q1, .inr (4, [.ref s2, .ref p3, .int 0, .int (-1)])), (s2, .inr (6, [.ref tp, .int 0, .int 0, .int 5, .int 0, .long 0, .int 0])), (td, .inr (3, [.ref r1, .ref r2, .ref r3, .ref r4, .ref r5, .int 0, .int 0, .int 0])), (ch, .inr (0, [.ref a1, .ref a2, .ref a3, .ref a4, .ref a5, .int 0, .int 0])), (a5, .inl (kc, 12, .inl f14))]) (va_runV (As := []) (rest := []) ⟨hx, hb, hml, hown, hts⟩ (c_forgetPlan l dC dI h0 tp td sh ch sw wk g1 g2 g3 tl H.size) (cwV 0 hts gd_c_program_120_c_forgetPlan rfl rfl rfl (by decide +kernel) ⟨Nat.le_of_ble_eq_true rfl, Nat.le_of_ble_eq_true rfl⟩) (preV hPc hKc hDc hE (ci := 11) (q0 := 0) rfl rfl) rfl rfl hl.1 rfl (lv_room (Nat.le_of_ble_eq_true rfl)) dX11_program_91 ⟨Nat.le_of_ble_eq_true rfl, Nat.le_of_ble_eq_true rfl⟩) hK hP hD hS hA [7] [0, 1, 2, 3, 4, 5, 6] rfl rfl (by decide) (by decide) (fun u H locs hK hP hD hS => ?_)
  have hP : va_P (dC, dI) vwCl [(sh, .inr (7, [.ref sn, .ref sk, .int 0])), (tp, .inl (kt, 1000, .inl (fun _ => 0))), (q1, .inr (4, [.ref s2, .ref p3, .int 0, .int (-1)])), (s2, .inr (6, [.ref tp, .int 0, .int 0, .int 5, .int 0, .long 0, .int 0])), (td, .inr (3, [.ref r1, .ref r2, .ref r3, .ref r4, .ref r5, .int 0, .int 0, .int 0])), (ch, .inr (0, [.ref a1, .ref a2, .ref a3, .ref a4, .ref a5, .int 0, .int 0])), (a5, .inl (kc, 12, .inl f14)), (h0, .inr (11, [.ref tp, .int 0, .int 0, .int (-1), .ref td, .ref sh, .ref ch, .ref sw, .ref wk, .ref g1, .ref g2, .ref g3, .int 0, .int 0, .ref tl, .null, .null]))] H := hP
  have hD : va_D A [(sh, .inr (7, [.ref sn, .ref sk, .int 0])), (tp, .inl (kt, 1000, .inl (fun _ => 0))), (q1, .inr (4, [.ref s2, .ref p3, .int 0, .int (-1)])), (s2, .inr (6, [.ref tp, .int 0, .int 0, .int 5, .int 0, .long 0, .int 0])), (td, .inr (3, [.ref r1, .ref r2, .ref r3, .ref r4, .ref r5, .int 0, .int 0, .int 0])), (ch, .inr (0, [.ref a1, .ref a2, .ref a3, .ref a4, .ref a5, .int 0, .int 0])), (a5, .inl (kc, 12, .inl f14)), (h0, .inr (11, [.ref tp, .int 0, .int 0, .int (-1), .ref td, .ref sh, .ref ch, .ref sw, .ref wk, .ref g1, .ref g2, .ref g3, .int 0, .int 0, .ref tl, .null, .null]))] := hD
  have hK : va_K (dC, dI) vwCl [(kt, .byte), (kr1, .object RX5), (kr2, .object RX9), (kr3, .int), (kr4, .int), (kr5, .int), (kc, .int), (l9, .object RX5), (l10, .object RX9), (l11, .int), (l12, .int), (l13, .int)] s := hK
  refine W.widen (k := 8) (n := 45) (Nat.le_of_ble_eq_true rfl) (Nat.le_of_ble_eq_true rfl) ?_
  refine lv_aload_n hx hb dX11_program_94 rfl (lv_at hl 1 rfl) ?_
  refine va_get (D := (dC, dI)) (ci := 11) (v := .ref td) (C := RX11) (T := TX11) (N := 17) hx hb hts hin11 hown hK hP 7 rfl rfl 4 (by decide) (ho (.fieldLink RX11 26 "NearEnough" "told" "LNearEnough$Program;") (List.mem_of_getElem? (i := 11) rfl)) (fun _ h9 => h9) rfl dX11_program_95 ?_
  refine va_get (D := (dC, dI)) (ci := 3) (v := .int 0) (C := RX3) (T := TX3) (N := 8) hx hb hts hin3 hown hK hP 4 rfl rfl 6 (by decide) (ho (.fieldLink RX11 123 "NearEnough$Program" "stepCount" "I") (List.mem_of_getElem? (i := 18) rfl)) (fun _ h9 => h9) rfl dX11_program_98 ?_
  refine W.widen (k := 8) (n := 45) (Nat.le_of_ble_eq_true rfl) (Nat.le_of_ble_eq_true rfl) ?_
  exact W.iret (v := 0) hx hb hr (fun t ht hW => ⟨⟨0, (), rfl, rfl, wEn_of (hP.sub [] rfl) (hK.sub [] rfl) (hD.sub [] (by decide) rfl) ht hW⟩, hS.F ht⟩) hS.2.2 dX11_program_101
def ow_c_about : List Cond := [.fieldLink RX11 26 "NearEnough" "told" "LNearEnough$Program;", .fieldLink RX11 170 "NearEnough$Program" "rowCount" "I", .fieldLink RX11 123 "NearEnough$Program" "stepCount" "I", .fieldLink RX11 281 "NearEnough$Program" "endCount" "I", .fieldLink RX11 33 "NearEnough" "sheets" "LNearEnough$Sheets;", .fieldLink RX11 111 "NearEnough$Sheets" "count" "I", .fieldLink RX11 40 "NearEnough" "changes" "LNearEnough$Changes;", .fieldLink RX11 190 "NearEnough$Changes" "count" "I", .fieldLink RX11 72 "NearEnough" "guards" "I", .fieldLink RX11 75 "NearEnough" "left" "I", .fieldLink RX11 13 "NearEnough" "bytes" "I"]
def vs_c_about : List Cond := .code yX11_about cX11_about 2 (some .int) :: (ow_c_about ++ (wsX00 ++ (wsX30 ++ (wsX70 ++ (wsX110)))))
theorem vg_c_about : vs_c_about.all goodWord = true := by decide +kernel
set_option maxHeartbeats 4000000 in
set_option maxRecDepth 100000 in
theorem c_about (l : Launch) (dC : Nat → ClassId) (dI : Nat → Nat → Nat) (h0 : Nat) (tp : Nat) (td : Nat) (sh : Nat) (ch : Nat) (sw : Nat) (wk : Nat) (g1 : Nat) (g2 : Nat) (g3 : Nat) (tl : Nat) (r1 : Nat) (r2 : Nat) (r3 : Nat) (r4 : Nat) (r5 : Nat) (sn : Nat) (sk : Nat) (a1 : Nat) (a2 : Nat) (a3 : Nat) (a4 : Nat) (a5 : Nat) (p0 : Int32) (sz : Nat) : Met l yX11_about vs_c_about ({ frames := 0, cells := 0, slots := 0, locals := 0 }) (va_Pc [.ref h0, .int p0] (wSt dC dI [(h0, .inr (11, [.ref tp, .int 0, .int 0, .int (-1), .ref td, .ref sh, .ref ch, .ref sw, .ref wk, .ref g1, .ref g2, .ref g3, .int 0, .int 0, .ref tl, .null, .null])), (td, .inr (3, [.ref r1, .ref r2, .ref r3, .ref r4, .ref r5, .int 0, .int 0, .int 0])), (sh, .inr (7, [.ref sn, .ref sk, .int 0])), (ch, .inr (0, [.ref a1, .ref a2, .ref a3, .ref a4, .ref a5, .int 0, .int 0]))] [] sz)) (va_Qi (fun (r : Int32) (_ : Unit) => r = abt p0) (fun (u : Unit) => wEn dC dI (va_A [(h0, .inr (11, [.ref tp, .int 0, .int 0, .int (-1), .ref td, .ref sh, .ref ch, .ref sw, .ref wk, .ref g1, .ref g2, .ref g3, .int 0, .int 0, .ref tl, .null, .null])), (td, .inr (3, [.ref r1, .ref r2, .ref r3, .ref r4, .ref r5, .int 0, .int 0, .int 0])), (sh, .inr (7, [.ref sn, .ref sk, .int 0])), (ch, .inr (0, [.ref a1, .ref a2, .ref a3, .ref a4, .ref a5, .int 0, .int 0]))] sz) [] []) (va_A [(h0, .inr (11, [.ref tp, .int 0, .int 0, .int (-1), .ref td, .ref sh, .ref ch, .ref sw, .ref wk, .ref g1, .ref g2, .ref g3, .int 0, .int 0, .ref tl, .null, .null])), (td, .inr (3, [.ref r1, .ref r2, .ref r3, .ref r4, .ref r5, .int 0, .int 0, .int 0])), (sh, .inr (7, [.ref sn, .ref sk, .int 0])), (ch, .inr (0, [.ref a1, .ref a2, .ref a3, .ref a4, .ref a5, .int 0, .int 0]))] sz)) 0 0 (va_A [(h0, .inr (11, [.ref tp, .int 0, .int 0, .int (-1), .ref td, .ref sh, .ref ch, .ref sw, .ref wk, .ref g1, .ref g2, .ref g3, .int 0, .int 0, .ref tl, .null, .null])), (td, .inr (3, [.ref r1, .ref r2, .ref r3, .ref r4, .ref r5, .int 0, .int 0, .int 0])), (sh, .inr (7, [.ref sn, .ref sk, .int 0])), (ch, .inr (0, [.ref a1, .ref a2, .ref a3, .ref a4, .ref a5, .int 0, .int 0]))] sz) := by
  refine Met.ofW (cc := cX11_about) (maxL := 2) (ret := (some .int)) (by decide) rfl ?_
  intro p e s m args below meth c s₁ B hml hv
  obtain ⟨rfl, hsz, hP, hK, hD0, hE⟩ := hv
  have hx := B.exec
  have hb := B.bytes
  have hr := B.returns
  have hts := atoms_spec (ws := vs_c_about) B.pre
  have hown : s.vm.findClass RX11 = some m.cls := findClass_of_methodNamed B.named
  have hlocks := B.notSynchronized
  subst hsz
  have hD := hD0.self (sz := s.heap.size)
  generalize hAe : va_A [(h0, .inr (11, [.ref tp, .int 0, .int 0, .int (-1), .ref td, .ref sh, .ref ch, .ref sw, .ref wk, .ref g1, .ref g2, .ref g3, .int 0, .int 0, .ref tl, .null, .null])), (td, .inr (3, [.ref r1, .ref r2, .ref r3, .ref r4, .ref r5, .int 0, .int 0, .int 0])), (sh, .inr (7, [.ref sn, .ref sk, .int 0])), (ch, .inr (0, [.ref a1, .ref a2, .ref a3, .ref a4, .ref a5, .int 0, .int 0]))] s.heap.size = A at hD ⊢
  have hA : ∀ q : Nat, s.heap.size ≤ q → A q := fun q h => by rw [← hAe]; exact Or.inr h
  have hl := lv_entry ([.ref h0, .int p0]) (n := 2) (Nat.le_of_ble_eq_true rfl)
  rw [lg_entry_eq]
  generalize (lg_sl ([.ref h0, .int p0]) ++ List.replicate (2 - (lg_sl ([.ref h0, .int p0])).length) Slot.unset).toArray = ls at hl ⊢
  have hl : lv_has ls 2 [(0, .ref h0), (1, .int p0)] := hl
  refine zH (A := A) (ws := [(h0, .inr (11, [.ref tp, .int 0, .int 0, .int (-1), .ref td, .ref sh, .ref ch, .ref sw, .ref wk, .ref g1, .ref g2, .ref g3, .int 0, .int 0, .ref tl, .null, .null])), (td, .inr (3, [.ref r1, .ref r2, .ref r3, .ref r4, .ref r5, .int 0, .int 0, .int 0])), (sh, .inr (7, [.ref sn, .ref sk, .int 0])), (ch, .inr (0, [.ref a1, .ref a2, .ref a3, .ref a4, .ref a5, .int 0, .int 0]))]) (fun H hP hS => ?_) hP
  have ho := fun w (h : w ∈ ow_c_about) => hts w (List.mem_cons_of_mem _ (List.mem_append_left _ h))
  have hin0 : ∀ w ∈ u_ws RX0 TX0 7, w ∈ vs_c_about := fun w h => (List.mem_cons_of_mem _ (List.mem_append_right _ (List.mem_append_left _ h)))
  have hin3 : ∀ w ∈ u_ws RX3 TX3 8, w ∈ vs_c_about := fun w h => (List.mem_cons_of_mem _ (List.mem_append_right _ (List.mem_append_right _ (List.mem_append_left _ h))))
  have hin7 : ∀ w ∈ u_ws RX7 TX7 3, w ∈ vs_c_about := fun w h => (List.mem_cons_of_mem _ (List.mem_append_right _ (List.mem_append_right _ (List.mem_append_right _ (List.mem_append_left _ h)))))
  have hin11 : ∀ w ∈ u_ws RX11 TX11 17, w ∈ vs_c_about := fun w h => (List.mem_cons_of_mem _ (List.mem_append_right _ (List.mem_append_right _ (List.mem_append_right _ (List.mem_append_right _ h)))))
  refine lv_iload_n hx hb dX11_about_0 rfl (lv_at hl 1 rfl) ?_
  by_cases c_lo : p0 < 0
  · refine lv_tableOut (tgt := 103) hx hb dX11_about_1 (Or.inl (Int32.lt_iff_toInt_lt.mp c_lo)) (by decide) ?_
    refine lv_iconst (v := (-1)) hx hb dX11_about_103 (by decide) ?_
    refine W.widen (k := 0) (n := 0) (Nat.le_of_ble_eq_true rfl) (Nat.le_of_ble_eq_true rfl) ?_
    exact W.iret (v := (-1)) hx hb hr (fun t ht hW => ⟨⟨(-1), (), rfl, (by first | exact (if_pos c_lo).symm | (show _ = abt _; unfold abt; rw [if_neg c_lo]; exact (if_pos c_hi).symm) | decide), wEn_of (hP.sub [] rfl) (hK.sub [] rfl) (hD.sub [] (by decide) rfl) ht hW⟩, hS.F ht⟩) hS.2.2 dX11_about_104
  · by_cases c_hi : 7 < p0
    · refine lv_tableOut (tgt := 103) hx hb dX11_about_1 (Or.inr (Int32.lt_iff_toInt_lt.mp c_hi)) (by decide) ?_
      refine lv_iconst (v := (-1)) hx hb dX11_about_103 (by decide) ?_
      refine W.widen (k := 0) (n := 0) (Nat.le_of_ble_eq_true rfl) (Nat.le_of_ble_eq_true rfl) ?_
      exact W.iret (v := (-1)) hx hb hr (fun t ht hW => ⟨⟨(-1), (), rfl, (by first | exact (if_pos c_lo).symm | (show _ = abt _; unfold abt; rw [if_neg c_lo]; exact (if_pos c_hi).symm) | decide), wEn_of (hP.sub [] rfl) (hK.sub [] rfl) (hD.sub [] (by decide) rfl) ht hW⟩, hS.F ht⟩) hS.2.2 dX11_about_104
    · obtain ⟨j9, hj9, ej9⟩ := in_span (n := 7) (by decide) c_lo c_hi
      subst ej9
      rcases (show j9 = 0 ∨ j9 = 1 ∨ j9 = 2 ∨ j9 = 3 ∨ j9 = 4 ∨ j9 = 5 ∨ j9 = 6 ∨ j9 = 7 by omega) with rfl | rfl | rfl | rfl | rfl | rfl | rfl | rfl
      · refine lv_tableIn (tgt := 48) (off := 47) hx hb dX11_about_1 (by decide) (by decide) (by decide) (by decide) ?_
        refine lv_aload_n hx hb dX11_about_48 rfl (lv_at hl 0 rfl) ?_
        refine va_get (D := (dC, dI)) (ci := 11) (v := .ref td) (C := RX11) (T := TX11) (N := 17) hx hb hts hin11 hown hK hP 0 rfl rfl 4 (by decide) (ho (.fieldLink RX11 26 "NearEnough" "told" "LNearEnough$Program;") (List.mem_of_getElem? (i := 0) rfl)) (fun _ h9 => h9) rfl dX11_about_49 ?_
        refine va_get (D := (dC, dI)) (ci := 3) (v := .int 0) (C := RX3) (T := TX3) (N := 8) hx hb hts hin3 hown hK hP 1 rfl rfl 5 (by decide) (ho (.fieldLink RX11 170 "NearEnough$Program" "rowCount" "I") (List.mem_of_getElem? (i := 1) rfl)) (fun _ h9 => h9) rfl dX11_about_52 ?_
        refine W.widen (k := 0) (n := 0) (Nat.le_of_ble_eq_true rfl) (Nat.le_of_ble_eq_true rfl) ?_
        exact W.iret (v := 0) hx hb hr (fun t ht hW => ⟨⟨0, (), rfl, (by first | exact (if_pos c_lo).symm | (show _ = abt _; unfold abt; rw [if_neg c_lo]; exact (if_pos c_hi).symm) | decide), wEn_of (hP.sub [] rfl) (hK.sub [] rfl) (hD.sub [] (by decide) rfl) ht hW⟩, hS.F ht⟩) hS.2.2 dX11_about_55
      · refine lv_tableIn (tgt := 56) (off := 55) hx hb dX11_about_1 (by decide) (by decide) (by decide) (by decide) ?_
        refine lv_aload_n hx hb dX11_about_56 rfl (lv_at hl 0 rfl) ?_
        refine va_get (D := (dC, dI)) (ci := 11) (v := .ref td) (C := RX11) (T := TX11) (N := 17) hx hb hts hin11 hown hK hP 0 rfl rfl 4 (by decide) (ho (.fieldLink RX11 26 "NearEnough" "told" "LNearEnough$Program;") (List.mem_of_getElem? (i := 0) rfl)) (fun _ h9 => h9) rfl dX11_about_57 ?_
        refine va_get (D := (dC, dI)) (ci := 3) (v := .int 0) (C := RX3) (T := TX3) (N := 8) hx hb hts hin3 hown hK hP 1 rfl rfl 6 (by decide) (ho (.fieldLink RX11 123 "NearEnough$Program" "stepCount" "I") (List.mem_of_getElem? (i := 2) rfl)) (fun _ h9 => h9) rfl dX11_about_60 ?_
        refine W.widen (k := 0) (n := 0) (Nat.le_of_ble_eq_true rfl) (Nat.le_of_ble_eq_true rfl) ?_
        exact W.iret (v := 0) hx hb hr (fun t ht hW => ⟨⟨0, (), rfl, (by first | exact (if_pos c_lo).symm | (show _ = abt _; unfold abt; rw [if_neg c_lo]; exact (if_pos c_hi).symm) | decide), wEn_of (hP.sub [] rfl) (hK.sub [] rfl) (hD.sub [] (by decide) rfl) ht hW⟩, hS.F ht⟩) hS.2.2 dX11_about_63
      · refine lv_tableIn (tgt := 64) (off := 63) hx hb dX11_about_1 (by decide) (by decide) (by decide) (by decide) ?_
        refine lv_aload_n hx hb dX11_about_64 rfl (lv_at hl 0 rfl) ?_
        refine va_get (D := (dC, dI)) (ci := 11) (v := .ref td) (C := RX11) (T := TX11) (N := 17) hx hb hts hin11 hown hK hP 0 rfl rfl 4 (by decide) (ho (.fieldLink RX11 26 "NearEnough" "told" "LNearEnough$Program;") (List.mem_of_getElem? (i := 0) rfl)) (fun _ h9 => h9) rfl dX11_about_65 ?_
        refine va_get (D := (dC, dI)) (ci := 3) (v := .int 0) (C := RX3) (T := TX3) (N := 8) hx hb hts hin3 hown hK hP 1 rfl rfl 7 (by decide) (ho (.fieldLink RX11 281 "NearEnough$Program" "endCount" "I") (List.mem_of_getElem? (i := 3) rfl)) (fun _ h9 => h9) rfl dX11_about_68 ?_
        refine W.widen (k := 0) (n := 0) (Nat.le_of_ble_eq_true rfl) (Nat.le_of_ble_eq_true rfl) ?_
        exact W.iret (v := 0) hx hb hr (fun t ht hW => ⟨⟨0, (), rfl, (by first | exact (if_pos c_lo).symm | (show _ = abt _; unfold abt; rw [if_neg c_lo]; exact (if_pos c_hi).symm) | decide), wEn_of (hP.sub [] rfl) (hK.sub [] rfl) (hD.sub [] (by decide) rfl) ht hW⟩, hS.F ht⟩) hS.2.2 dX11_about_71
      · refine lv_tableIn (tgt := 72) (off := 71) hx hb dX11_about_1 (by decide) (by decide) (by decide) (by decide) ?_
        refine lv_aload_n hx hb dX11_about_72 rfl (lv_at hl 0 rfl) ?_
        refine va_get (D := (dC, dI)) (ci := 11) (v := .ref sh) (C := RX11) (T := TX11) (N := 17) hx hb hts hin11 hown hK hP 0 rfl rfl 5 (by decide) (ho (.fieldLink RX11 33 "NearEnough" "sheets" "LNearEnough$Sheets;") (List.mem_of_getElem? (i := 4) rfl)) (fun _ h9 => h9) rfl dX11_about_73 ?_
        refine va_get (D := (dC, dI)) (ci := 7) (v := .int 0) (C := RX7) (T := TX7) (N := 3) hx hb hts hin7 hown hK hP 2 rfl rfl 2 (by decide) (ho (.fieldLink RX11 111 "NearEnough$Sheets" "count" "I") (List.mem_of_getElem? (i := 5) rfl)) (fun _ h9 => h9) rfl dX11_about_76 ?_
        refine W.widen (k := 0) (n := 0) (Nat.le_of_ble_eq_true rfl) (Nat.le_of_ble_eq_true rfl) ?_
        exact W.iret (v := 0) hx hb hr (fun t ht hW => ⟨⟨0, (), rfl, (by first | exact (if_pos c_lo).symm | (show _ = abt _; unfold abt; rw [if_neg c_lo]; exact (if_pos c_hi).symm) | decide), wEn_of (hP.sub [] rfl) (hK.sub [] rfl) (hD.sub [] (by decide) rfl) ht hW⟩, hS.F ht⟩) hS.2.2 dX11_about_79
      · refine lv_tableIn (tgt := 80) (off := 79) hx hb dX11_about_1 (by decide) (by decide) (by decide) (by decide) ?_
        refine lv_aload_n hx hb dX11_about_80 rfl (lv_at hl 0 rfl) ?_
        refine va_get (D := (dC, dI)) (ci := 11) (v := .ref ch) (C := RX11) (T := TX11) (N := 17) hx hb hts hin11 hown hK hP 0 rfl rfl 6 (by decide) (ho (.fieldLink RX11 40 "NearEnough" "changes" "LNearEnough$Changes;") (List.mem_of_getElem? (i := 6) rfl)) (fun _ h9 => h9) rfl dX11_about_81 ?_
        refine va_get (D := (dC, dI)) (ci := 0) (v := .int 0) (C := RX0) (T := TX0) (N := 7) hx hb hts hin0 hown hK hP 3 rfl rfl 5 (by decide) (ho (.fieldLink RX11 190 "NearEnough$Changes" "count" "I") (List.mem_of_getElem? (i := 7) rfl)) (fun _ h9 => h9) rfl dX11_about_84 ?_
        refine W.widen (k := 0) (n := 0) (Nat.le_of_ble_eq_true rfl) (Nat.le_of_ble_eq_true rfl) ?_
        exact W.iret (v := 0) hx hb hr (fun t ht hW => ⟨⟨0, (), rfl, (by first | exact (if_pos c_lo).symm | (show _ = abt _; unfold abt; rw [if_neg c_lo]; exact (if_pos c_hi).symm) | decide), wEn_of (hP.sub [] rfl) (hK.sub [] rfl) (hD.sub [] (by decide) rfl) ht hW⟩, hS.F ht⟩) hS.2.2 dX11_about_87
      · refine lv_tableIn (tgt := 88) (off := 87) hx hb dX11_about_1 (by decide) (by decide) (by decide) (by decide) ?_
        refine lv_aload_n hx hb dX11_about_88 rfl (lv_at hl 0 rfl) ?_
        refine va_get (D := (dC, dI)) (ci := 11) (v := .int 0) (C := RX11) (T := TX11) (N := 17) hx hb hts hin11 hown hK hP 0 rfl rfl 12 (by decide) (ho (.fieldLink RX11 72 "NearEnough" "guards" "I") (List.mem_of_getElem? (i := 8) rfl)) (fun _ h9 => h9) rfl dX11_about_89 ?_
        refine W.widen (k := 0) (n := 0) (Nat.le_of_ble_eq_true rfl) (Nat.le_of_ble_eq_true rfl) ?_
        exact W.iret (v := 0) hx hb hr (fun t ht hW => ⟨⟨0, (), rfl, (by first | exact (if_pos c_lo).symm | (show _ = abt _; unfold abt; rw [if_neg c_lo]; exact (if_pos c_hi).symm) | decide), wEn_of (hP.sub [] rfl) (hK.sub [] rfl) (hD.sub [] (by decide) rfl) ht hW⟩, hS.F ht⟩) hS.2.2 dX11_about_92
      · refine lv_tableIn (tgt := 93) (off := 92) hx hb dX11_about_1 (by decide) (by decide) (by decide) (by decide) ?_
        refine lv_aload_n hx hb dX11_about_93 rfl (lv_at hl 0 rfl) ?_
        refine va_get (D := (dC, dI)) (ci := 11) (v := .int 0) (C := RX11) (T := TX11) (N := 17) hx hb hts hin11 hown hK hP 0 rfl rfl 13 (by decide) (ho (.fieldLink RX11 75 "NearEnough" "left" "I") (List.mem_of_getElem? (i := 9) rfl)) (fun _ h9 => h9) rfl dX11_about_94 ?_
        refine W.widen (k := 0) (n := 0) (Nat.le_of_ble_eq_true rfl) (Nat.le_of_ble_eq_true rfl) ?_
        exact W.iret (v := 0) hx hb hr (fun t ht hW => ⟨⟨0, (), rfl, (by first | exact (if_pos c_lo).symm | (show _ = abt _; unfold abt; rw [if_neg c_lo]; exact (if_pos c_hi).symm) | decide), wEn_of (hP.sub [] rfl) (hK.sub [] rfl) (hD.sub [] (by decide) rfl) ht hW⟩, hS.F ht⟩) hS.2.2 dX11_about_97
      · refine lv_tableIn (tgt := 98) (off := 97) hx hb dX11_about_1 (by decide) (by decide) (by decide) (by decide) ?_
        refine lv_aload_n hx hb dX11_about_98 rfl (lv_at hl 0 rfl) ?_
        refine va_get (D := (dC, dI)) (ci := 11) (v := .int 0) (C := RX11) (T := TX11) (N := 17) hx hb hts hin11 hown hK hP 0 rfl rfl 1 (by decide) (ho (.fieldLink RX11 13 "NearEnough" "bytes" "I") (List.mem_of_getElem? (i := 10) rfl)) (fun _ h9 => h9) rfl dX11_about_99 ?_
        refine W.widen (k := 0) (n := 0) (Nat.le_of_ble_eq_true rfl) (Nat.le_of_ble_eq_true rfl) ?_
        exact W.iret (v := 0) hx hb hr (fun t ht hW => ⟨⟨0, (), rfl, (by first | exact (if_pos c_lo).symm | (show _ = abt _; unfold abt; rw [if_neg c_lo]; exact (if_pos c_hi).symm) | decide), wEn_of (hP.sub [] rfl) (hK.sub [] rfl) (hD.sub [] (by decide) rfl) ht hW⟩, hS.F ht⟩) hS.2.2 dX11_about_102
