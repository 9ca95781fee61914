theorem dX1_forget_0 : decode cX1_forget 0 = .ok (.aload_n 0, 1) := by decide +kernel
theorem dX1_forget_1 : decode cX1_forget 1 = .ok (.iconst (-1), 1) := by decide +kernel
theorem dX1_forget_2 : decode cX1_forget 2 = .ok (.putfield 9, 3) := by decide +kernel
theorem dX1_forget_5 : decode cX1_forget 5 = .ok (.return_, 1) := by decide +kernel
theorem dX1_countNotFarther_0 : decode cX1_countNotFarther 0 = .ok (.iconst 0, 1) := by decide +kernel
theorem dX1_countNotFarther_1 : decode cX1_countNotFarther 1 = .ok (.istore_n 3, 1) := by decide +kernel
theorem dX1_countNotFarther_2 : decode cX1_countNotFarther 2 = .ok (.aload_n 0, 1) := by decide +kernel
theorem dX1_countNotFarther_3 : decode cX1_countNotFarther 3 = .ok (.getfield 23, 3) := by decide +kernel
theorem dX1_countNotFarther_6 : decode cX1_countNotFarther 6 = .ok (.istore 4, 2) := by decide +kernel
theorem dX1_countNotFarther_8 : decode cX1_countNotFarther 8 = .ok (.iconst 0, 1) := by decide +kernel
theorem dX1_countNotFarther_9 : decode cX1_countNotFarther 9 = .ok (.istore 5, 2) := by decide +kernel
theorem dX1_countNotFarther_11 : decode cX1_countNotFarther 11 = .ok (.iload 5, 2) := by decide +kernel
theorem dX1_countNotFarther_13 : decode cX1_countNotFarther 13 = .ok (.bipush 13, 2) := by decide +kernel
theorem dX1_countNotFarther_15 : decode cX1_countNotFarther 15 = .ok (.if_icmp .ge 47, 3) := by decide +kernel
theorem dX1_countNotFarther_62 : decode cX1_countNotFarther 62 = .ok (.iload_n 3, 1) := by decide +kernel
theorem dX1_countNotFarther_63 : decode cX1_countNotFarther 63 = .ok (.ireturn, 1) := by decide +kernel
theorem dX1_countNotFarther_18 : decode cX1_countNotFarther 18 = .ok (.iload_n 3, 1) := by decide +kernel
theorem dX1_countNotFarther_19 : decode cX1_countNotFarther 19 = .ok (.iload 4, 2) := by decide +kernel
theorem dX1_countNotFarther_21 : decode cX1_countNotFarther 21 = .ok (.if_icmp .ge 41, 3) := by decide +kernel
theorem dX1_countNotFarther_24 : decode cX1_countNotFarther 24 = .ok (.iload_n 3, 1) := by decide +kernel
theorem dX1_countNotFarther_25 : decode cX1_countNotFarther 25 = .ok (.iload 4, 2) := by decide +kernel
theorem dX1_countNotFarther_27 : decode cX1_countNotFarther 27 = .ok (.iadd, 1) := by decide +kernel
theorem dX1_countNotFarther_28 : decode cX1_countNotFarther 28 = .ok (.iconst 1, 1) := by decide +kernel
theorem dX1_countNotFarther_29 : decode cX1_countNotFarther 29 = .ok (.ishr, 1) := by decide +kernel
theorem dX1_countNotFarther_30 : decode cX1_countNotFarther 30 = .ok (.istore 6, 2) := by decide +kernel
theorem dX1_countNotFarther_32 : decode cX1_countNotFarther 32 = .ok (.aload_n 0, 1) := by decide +kernel
theorem dX1_countNotFarther_33 : decode cX1_countNotFarther 33 = .ok (.getfield 15, 3) := by decide +kernel
theorem dX1_countNotFarther_36 : decode cX1_countNotFarther 36 = .ok (.iload 6, 2) := by decide +kernel
theorem dX1_countNotFarther_38 : decode cX1_countNotFarther 38 = .ok (.laload, 1) := by decide +kernel
theorem dX1_countNotFarther_39 : decode cX1_countNotFarther 39 = .ok (.lload_n 1, 1) := by decide +kernel
theorem dX1_countNotFarther_40 : decode cX1_countNotFarther 40 = .ok (.lcmp, 1) := by decide +kernel
theorem dX1_countNotFarther_41 : decode cX1_countNotFarther 41 = .ok (.ifCond .gt 11, 3) := by decide +kernel
theorem dX1_countNotFarther_52 : decode cX1_countNotFarther 52 = .ok (.iload 6, 2) := by decide +kernel
theorem dX1_countNotFarther_54 : decode cX1_countNotFarther 54 = .ok (.istore 4, 2) := by decide +kernel
theorem dX1_countNotFarther_56 : decode cX1_countNotFarther 56 = .ok (.iinc 5 1, 3) := by decide +kernel
theorem dX1_countNotFarther_59 : decode cX1_countNotFarther 59 = .ok (.goto (-48), 3) := by decide +kernel
theorem dX1_countNotFarther_44 : decode cX1_countNotFarther 44 = .ok (.iload 6, 2) := by decide +kernel
theorem dX1_countNotFarther_46 : decode cX1_countNotFarther 46 = .ok (.iconst 1, 1) := by decide +kernel
theorem dX1_countNotFarther_47 : decode cX1_countNotFarther 47 = .ok (.iadd, 1) := by decide +kernel
theorem dX1_countNotFarther_48 : decode cX1_countNotFarther 48 = .ok (.istore_n 3, 1) := by decide +kernel
theorem dX1_countNotFarther_49 : decode cX1_countNotFarther 49 = .ok (.goto 7, 3) := by decide +kernel
theorem dX1_bring_0 : decode cX1_bring 0 = .ok (.aload_n 0, 1) := by decide +kernel
theorem dX1_bring_1 : decode cX1_bring 1 = .ok (.lload_n 1, 1) := by decide +kernel
theorem dX1_bring_2 : decode cX1_bring 2 = .ok (.invokevirtual 69, 3) := by decide +kernel
theorem dX1_bring_5 : decode cX1_bring 5 = .ok (.istore 4, 2) := by decide +kernel
theorem dX1_bring_7 : decode cX1_bring 7 = .ok (.iload 4, 2) := by decide +kernel
theorem dX1_bring_9 : decode cX1_bring 9 = .ok (.ifCond .le 17, 3) := by decide +kernel
theorem dX1_bring_50 : decode cX1_bring 50 = .ok (.istore 5, 2) := by decide +kernel
theorem dX1_bring_66 : decode cX1_bring 66 = .ok (.istore 6, 2) := by decide +kernel
theorem dX1_bring_68 : decode cX1_bring 68 = .ok (.iload 4, 2) := by decide +kernel
theorem dX1_bring_70 : decode cX1_bring 70 = .ok (.istore 7, 2) := by decide +kernel
theorem dX1_bring_72 : decode cX1_bring 72 = .ok (.iload 7, 2) := by decide +kernel
theorem dX1_bring_74 : decode cX1_bring 74 = .ok (.aload_n 0, 1) := by decide +kernel
theorem dX1_bring_75 : decode cX1_bring 75 = .ok (.getfield 23, 3) := by decide +kernel
theorem dX1_bring_78 : decode cX1_bring 78 = .ok (.if_icmp .ge 20, 3) := by decide +kernel
theorem dX1_bring_98 : decode cX1_bring 98 = .ok (.iload 6, 2) := by decide +kernel
theorem dX1_bring_100 : decode cX1_bring 100 = .ok (.iconst 1, 1) := by decide +kernel
theorem dX1_bring_101 : decode cX1_bring 101 = .ok (.iadd, 1) := by decide +kernel
theorem dX1_bring_102 : decode cX1_bring 102 = .ok (.aload_n 0, 1) := by decide +kernel
theorem dX1_bring_103 : decode cX1_bring 103 = .ok (.getfield 23, 3) := by decide +kernel
theorem dX1_bring_106 : decode cX1_bring 106 = .ok (.iadd, 1) := by decide +kernel
theorem dX1_bring_107 : decode cX1_bring 107 = .ok (.iload 7, 2) := by decide +kernel
theorem dX1_bring_109 : decode cX1_bring 109 = .ok (.isub, 1) := by decide +kernel
theorem dX1_bring_110 : decode cX1_bring 110 = .ok (.sipush 4096, 3) := by decide +kernel
theorem dX1_bring_113 : decode cX1_bring 113 = .ok (.if_icmp .le 4, 3) := by decide +kernel
theorem dX1_bring_117 : decode cX1_bring 117 = .ok (.aload_n 0, 1) := by decide +kernel
theorem dX1_bring_118 : decode cX1_bring 118 = .ok (.getfield 15, 3) := by decide +kernel
theorem dX1_bring_121 : decode cX1_bring 121 = .ok (.iload 7, 2) := by decide +kernel
theorem dX1_bring_123 : decode cX1_bring 123 = .ok (.aload_n 0, 1) := by decide +kernel
theorem dX1_bring_124 : decode cX1_bring 124 = .ok (.getfield 15, 3) := by decide +kernel
theorem dX1_bring_127 : decode cX1_bring 127 = .ok (.iload 6, 2) := by decide +kernel
theorem dX1_bring_129 : decode cX1_bring 129 = .ok (.iconst 1, 1) := by decide +kernel
theorem dX1_bring_130 : decode cX1_bring 130 = .ok (.iadd, 1) := by decide +kernel
theorem dX1_bring_131 : decode cX1_bring 131 = .ok (.aload_n 0, 1) := by decide +kernel
theorem dX1_bring_132 : decode cX1_bring 132 = .ok (.getfield 23, 3) := by decide +kernel
theorem dX1_bring_135 : decode cX1_bring 135 = .ok (.iload 7, 2) := by decide +kernel
theorem dX1_bring_137 : decode cX1_bring 137 = .ok (.isub, 1) := by decide +kernel
theorem dX1_bring_138 : decode cX1_bring 138 = .ok (.invokestatic 73, 3) := by decide +kernel
theorem dX1_bring_141 : decode cX1_bring 141 = .ok (.aload_n 0, 1) := by decide +kernel
theorem dX1_bring_142 : decode cX1_bring 142 = .ok (.getfield 19, 3) := by decide +kernel
theorem dX1_bring_145 : decode cX1_bring 145 = .ok (.iload 7, 2) := by decide +kernel
theorem dX1_bring_147 : decode cX1_bring 147 = .ok (.aload_n 0, 1) := by decide +kernel
theorem dX1_bring_148 : decode cX1_bring 148 = .ok (.getfield 19, 3) := by decide +kernel
theorem dX1_bring_151 : decode cX1_bring 151 = .ok (.iload 6, 2) := by decide +kernel
theorem dX1_bring_153 : decode cX1_bring 153 = .ok (.iconst 1, 1) := by decide +kernel
theorem dX1_bring_154 : decode cX1_bring 154 = .ok (.iadd, 1) := by decide +kernel
theorem dX1_bring_155 : decode cX1_bring 155 = .ok (.aload_n 0, 1) := by decide +kernel
theorem dX1_bring_156 : decode cX1_bring 156 = .ok (.getfield 23, 3) := by decide +kernel
theorem dX1_bring_159 : decode cX1_bring 159 = .ok (.iload 7, 2) := by decide +kernel
theorem dX1_bring_161 : decode cX1_bring 161 = .ok (.isub, 1) := by decide +kernel
theorem dX1_bring_162 : decode cX1_bring 162 = .ok (.invokestatic 73, 3) := by decide +kernel
theorem dX1_bring_165 : decode cX1_bring 165 = .ok (.aload_n 0, 1) := by decide +kernel
theorem dX1_bring_166 : decode cX1_bring 166 = .ok (.getfield 15, 3) := by decide +kernel
theorem dX1_bring_169 : decode cX1_bring 169 = .ok (.iload 6, 2) := by decide +kernel
theorem dX1_bring_171 : decode cX1_bring 171 = .ok (.lload_n 1, 1) := by decide +kernel
theorem dX1_bring_172 : decode cX1_bring 172 = .ok (.lastore, 1) := by decide +kernel
theorem dX1_bring_173 : decode cX1_bring 173 = .ok (.aload_n 0, 1) := by decide +kernel
theorem dX1_bring_174 : decode cX1_bring 174 = .ok (.getfield 19, 3) := by decide +kernel
theorem dX1_bring_177 : decode cX1_bring 177 = .ok (.iload 6, 2) := by decide +kernel
theorem dX1_bring_179 : decode cX1_bring 179 = .ok (.iload_n 3, 1) := by decide +kernel
theorem dX1_bring_180 : decode cX1_bring 180 = .ok (.iastore, 1) := by decide +kernel
theorem dX1_bring_181 : decode cX1_bring 181 = .ok (.aload_n 0, 1) := by decide +kernel
theorem dX1_bring_182 : decode cX1_bring 182 = .ok (.iload 6, 2) := by decide +kernel
theorem dX1_bring_184 : decode cX1_bring 184 = .ok (.iconst 1, 1) := by decide +kernel
theorem dX1_bring_185 : decode cX1_bring 185 = .ok (.iadd, 1) := by decide +kernel
theorem dX1_bring_186 : decode cX1_bring 186 = .ok (.aload_n 0, 1) := by decide +kernel
theorem dX1_bring_187 : decode cX1_bring 187 = .ok (.getfield 23, 3) := by decide +kernel
theorem dX1_bring_190 : decode cX1_bring 190 = .ok (.iadd, 1) := by decide +kernel
theorem dX1_bring_191 : decode cX1_bring 191 = .ok (.iload 7, 2) := by decide +kernel
theorem dX1_bring_193 : decode cX1_bring 193 = .ok (.isub, 1) := by decide +kernel
theorem dX1_bring_194 : decode cX1_bring 194 = .ok (.putfield 23, 3) := by decide +kernel
theorem dX1_bring_197 : decode cX1_bring 197 = .ok (.return_, 1) := by decide +kernel
theorem dX1_bring_116 : decode cX1_bring 116 = .ok (.return_, 1) := by decide +kernel
theorem dX1_bring_81 : decode cX1_bring 81 = .ok (.aload_n 0, 1) := by decide +kernel
theorem dX1_bring_82 : decode cX1_bring 82 = .ok (.getfield 19, 3) := by decide +kernel
theorem dX1_bring_85 : decode cX1_bring 85 = .ok (.iload 7, 2) := by decide +kernel
theorem dX1_bring_87 : decode cX1_bring 87 = .ok (.iaload, 1) := by decide +kernel
theorem dX1_bring_88 : decode cX1_bring 88 = .ok (.iload_n 3, 1) := by decide +kernel
theorem dX1_bring_89 : decode cX1_bring 89 = .ok (.if_icmp .gt 9, 3) := by decide +kernel
theorem dX1_bring_92 : decode cX1_bring 92 = .ok (.iinc 7 1, 3) := by decide +kernel
theorem dX1_bring_95 : decode cX1_bring 95 = .ok (.goto (-23), 3) := by decide +kernel
theorem dX1_bring_52 : decode cX1_bring 52 = .ok (.iload 5, 2) := by decide +kernel
theorem dX1_bring_54 : decode cX1_bring 54 = .ok (.ifCond .eq 10, 3) := by decide +kernel
theorem dX1_bring_64 : decode cX1_bring 64 = .ok (.iload 4, 2) := by decide +kernel
theorem dX1_bring_57 : decode cX1_bring 57 = .ok (.iload 4, 2) := by decide +kernel
theorem dX1_bring_59 : decode cX1_bring 59 = .ok (.iconst 1, 1) := by decide +kernel
theorem dX1_bring_60 : decode cX1_bring 60 = .ok (.isub, 1) := by decide +kernel
theorem dX1_bring_61 : decode cX1_bring 61 = .ok (.goto 5, 3) := by decide +kernel
theorem dX1_bring_26 : decode cX1_bring 26 = .ok (.iload 4, 2) := by decide +kernel
theorem dX1_bring_28 : decode cX1_bring 28 = .ok (.ifCond .le 21, 3) := by decide +kernel
theorem dX1_bring_49 : decode cX1_bring 49 = .ok (.iconst 0, 1) := by decide +kernel
theorem dX1_bring_31 : decode cX1_bring 31 = .ok (.aload_n 0, 1) := by decide +kernel
theorem dX1_bring_32 : decode cX1_bring 32 = .ok (.getfield 15, 3) := by decide +kernel
theorem dX1_bring_35 : decode cX1_bring 35 = .ok (.iload 4, 2) := by decide +kernel
theorem dX1_bring_37 : decode cX1_bring 37 = .ok (.iconst 1, 1) := by decide +kernel
theorem dX1_bring_38 : decode cX1_bring 38 = .ok (.isub, 1) := by decide +kernel
theorem dX1_bring_39 : decode cX1_bring 39 = .ok (.laload, 1) := by decide +kernel
theorem dX1_bring_40 : decode cX1_bring 40 = .ok (.lload_n 1, 1) := by decide +kernel
theorem dX1_bring_41 : decode cX1_bring 41 = .ok (.lcmp, 1) := by decide +kernel
theorem dX1_bring_42 : decode cX1_bring 42 = .ok (.ifCond .ne 7, 3) := by decide +kernel
theorem dX1_bring_45 : decode cX1_bring 45 = .ok (.iconst 1, 1) := by decide +kernel
theorem dX1_bring_46 : decode cX1_bring 46 = .ok (.goto 4, 3) := by decide +kernel
theorem dX1_bring_12 : decode cX1_bring 12 = .ok (.aload_n 0, 1) := by decide +kernel
theorem dX1_bring_13 : decode cX1_bring 13 = .ok (.getfield 19, 3) := by decide +kernel
theorem dX1_bring_16 : decode cX1_bring 16 = .ok (.iload 4, 2) := by decide +kernel
theorem dX1_bring_18 : decode cX1_bring 18 = .ok (.iconst 1, 1) := by decide +kernel
theorem dX1_bring_19 : decode cX1_bring 19 = .ok (.isub, 1) := by decide +kernel
theorem dX1_bring_20 : decode cX1_bring 20 = .ok (.iaload, 1) := by decide +kernel
theorem dX1_bring_21 : decode cX1_bring 21 = .ok (.iload_n 3, 1) := by decide +kernel
theorem dX1_bring_22 : decode cX1_bring 22 = .ok (.if_icmp .lt 4, 3) := by decide +kernel
theorem dX1_bring_25 : decode cX1_bring 25 = .ok (.return_, 1) := by decide +kernel
theorem dX1_gather_0 : decode cX1_gather 0 = .ok (.aload_n 0, 1) := by decide +kernel
theorem dX1_gather_1 : decode cX1_gather 1 = .ok (.getfield 9, 3) := by decide +kernel
theorem dX1_gather_4 : decode cX1_gather 4 = .ok (.iload_n 1, 1) := by decide +kernel
theorem dX1_gather_5 : decode cX1_gather 5 = .ok (.if_icmp .ne 4, 3) := by decide +kernel
theorem dX1_gather_9 : decode cX1_gather 9 = .ok (.aload_n 0, 1) := by decide +kernel
theorem dX1_gather_10 : decode cX1_gather 10 = .ok (.iload_n 1, 1) := by decide +kernel
theorem dX1_gather_11 : decode cX1_gather 11 = .ok (.putfield 9, 3) := by decide +kernel
theorem dX1_gather_14 : decode cX1_gather 14 = .ok (.aload_n 0, 1) := by decide +kernel
theorem dX1_gather_15 : decode cX1_gather 15 = .ok (.iconst 0, 1) := by decide +kernel
theorem dX1_gather_16 : decode cX1_gather 16 = .ok (.putfield 23, 3) := by decide +kernel
theorem dX1_gather_19 : decode cX1_gather 19 = .ok (.aload_n 0, 1) := by decide +kernel
theorem dX1_gather_20 : decode cX1_gather 20 = .ok (.getfield 34, 3) := by decide +kernel
theorem dX1_gather_23 : decode cX1_gather 23 = .ok (.invokevirtual 38, 3) := by decide +kernel
theorem dX1_gather_26 : decode cX1_gather 26 = .ok (.iconst 0, 1) := by decide +kernel
theorem dX1_gather_27 : decode cX1_gather 27 = .ok (.istore_n 2, 1) := by decide +kernel
theorem dX1_gather_28 : decode cX1_gather 28 = .ok (.iload_n 2, 1) := by decide +kernel
theorem dX1_gather_29 : decode cX1_gather 29 = .ok (.sipush 4096, 3) := by decide +kernel
theorem dX1_gather_32 : decode cX1_gather 32 = .ok (.if_icmp .ge 53, 3) := by decide +kernel
theorem dX1_gather_85 : decode cX1_gather 85 = .ok (.return_, 1) := by decide +kernel
theorem dX1_gather_35 : decode cX1_gather 35 = .ok (.aload_n 0, 1) := by decide +kernel
theorem dX1_gather_36 : decode cX1_gather 36 = .ok (.getfield 34, 3) := by decide +kernel
theorem dX1_gather_39 : decode cX1_gather 39 = .ok (.invokevirtual 43, 3) := by decide +kernel
theorem dX1_gather_42 : decode cX1_gather 42 = .ok (.ifCond .eq 43, 3) := by decide +kernel
theorem dX1_gather_45 : decode cX1_gather 45 = .ok (.aload_n 0, 1) := by decide +kernel
theorem dX1_gather_46 : decode cX1_gather 46 = .ok (.aload_n 0, 1) := by decide +kernel
theorem dX1_gather_47 : decode cX1_gather 47 = .ok (.getfield 34, 3) := by decide +kernel
theorem dX1_gather_50 : decode cX1_gather 50 = .ok (.aload_n 0, 1) := by decide +kernel
theorem dX1_gather_51 : decode cX1_gather 51 = .ok (.getfield 26, 3) := by decide +kernel
theorem dX1_gather_54 : decode cX1_gather 54 = .ok (.getfield 47, 3) := by decide +kernel
theorem dX1_gather_57 : decode cX1_gather 57 = .ok (.iload_n 1, 1) := by decide +kernel
theorem dX1_gather_58 : decode cX1_gather 58 = .ok (.iaload, 1) := by decide +kernel
theorem dX1_gather_59 : decode cX1_gather 59 = .ok (.invokevirtual 52, 3) := by decide +kernel
theorem dX1_gather_62 : decode cX1_gather 62 = .ok (.aload_n 0, 1) := by decide +kernel
theorem dX1_gather_63 : decode cX1_gather 63 = .ok (.getfield 30, 3) := by decide +kernel
theorem dX1_gather_66 : decode cX1_gather 66 = .ok (.aload_n 0, 1) := by decide +kernel
theorem dX1_gather_67 : decode cX1_gather 67 = .ok (.getfield 30, 3) := by decide +kernel
theorem dX1_gather_70 : decode cX1_gather 70 = .ok (.getfield 56, 3) := by decide +kernel
theorem dX1_gather_73 : decode cX1_gather 73 = .ok (.invokevirtual 61, 3) := by decide +kernel
theorem dX1_gather_76 : decode cX1_gather 76 = .ok (.invokevirtual 65, 3) := by decide +kernel
theorem dX1_gather_79 : decode cX1_gather 79 = .ok (.iinc 2 1, 3) := by decide +kernel
theorem dX1_gather_82 : decode cX1_gather 82 = .ok (.goto (-54), 3) := by decide +kernel
theorem dX1_gather_8 : decode cX1_gather 8 = .ok (.return_, 1) := by decide +kernel
theorem rx_9dc2a7926c : Int32.ofInt 13 = 13 := by decide
theorem rx_b6c70d2711 : (13 : Int32).toInt = 13 := by decide
def ow_f_forget : List Cond := [.fieldLink RX1 9 "NearEnough$Front" "itsEnd" "I"]
def vs_f_forget : List Cond := .code yX1_forget cX1_forget 1 none :: (ow_f_forget ++ (wsX10))
theorem vg_f_forget : vs_f_forget.all goodWord = true := by decide +kernel
theorem dd_f_forget : yX1_forget.cls = RX1 ∧ yX1_forget.cls ≠ "java/lang/invoke/MethodHandle" ∧ yX1_forget.cls ≠ "java/lang/invoke/VarHandle" ∧ (parseMethodDescriptor yX1_forget.desc).map (fun d => d.parameters.length) = some 0 := by decide +kernel
def rm_f_forget : Room := { frames := 0, cells := 0, slots := 0, locals := 0 }
set_option maxHeartbeats 4000000 in
set_option maxRecDepth 100000 in
theorem f_forget (l : Launch) (dC : Nat → ClassId) (dI : Nat → Nat → Nat) (κ : CE) (a : Nat) (Y : va_W) (sz : Nat) (φ σ : MS) (hk : PInv κ) (hI : CInv σ) (hF : FInv φ)  : Met l yX1_forget vs_f_forget rm_f_forget (va_Pc [.ref a] (wSy dC dI (xW κ (FR κ a φ ++ Y) σ) (tT κ) sz)) (va_Qv (fun (u : MS × MS) => CInv u.2 ∧ FInv u.1 ∧ (u.2 = σ)) (fun (u : MS × MS) => wEn dC dI (va_A (xW κ (FR κ a φ ++ Y) σ) sz) (xW κ (FR κ a u.1 ++ Y) u.2) []) (va_A (xW κ (FR κ a φ ++ Y) σ) sz)) 0 0 (va_A (xW κ (FR κ a φ ++ Y) σ) sz) := by
  refine Met.ofW (cc := cX1_forget) (maxL := 1) (ret := none) (by decide +kernel) rfl ?_
  intro p e s m args below meth c s₁ B hml hv
  obtain ⟨rfl, hsz, hP, hK, hD0, hE⟩ := hv
  have hx := B.exec
  have hb := B.bytes
  have hr := B.returns
  have hts := atoms_spec (ws := vs_f_forget) B.pre
  have hown : s.vm.findClass RX1 = some m.cls := findClass_of_methodNamed B.named
  have hlocks := B.notSynchronized
  subst hsz
  have hD := hD0.self (sz := s.heap.size)
  generalize hAe : va_A (xW κ (FR κ a φ ++ Y) σ) s.heap.size = A at hD ⊢
  have hA : ∀ q : Nat, s.heap.size ≤ q → A q := fun q h => by rw [← hAe]; exact Or.inr h
  have hl := lv_entry ([.ref a]) (n := 1) (Nat.le_of_ble_eq_true rfl)
  rw [lg_entry_eq]
  generalize (lg_sl ([.ref a]) ++ List.replicate (1 - (lg_sl ([.ref a])).length) Slot.unset).toArray = ls at hl ⊢
  have hl : lv_has ls 1 [(0, .ref a)] := hl
  have ho := fun w (h : w ∈ ow_f_forget) => hts w (List.mem_cons_of_mem _ (List.mem_append_left _ h))
  have hin1 : ∀ w ∈ u_ws RX1 TX1 7, w ∈ vs_f_forget := fun w h => (List.mem_cons_of_mem _ (List.mem_append_right _ h))
  refine zQ (fun Q hQ => ?_)
  refine zH (A := A) (ws := (xW κ (FR κ a φ ++ Y) σ)) (fun H hP hS => ?_) hP
  have hk0 := hk.1
  have hk1 := hk.2.1
  have hk2 := hk.2.2.1
  have hKc : va_K (dC, dI) vwCl (cT κ) s := hK.sub [0, 1, 2, 3, 4, 5, 6, 7, 8, 9, 10, 11, 12, 13, 14, 15, 16, 17, 18, 19, 20] rfl
  refine lv_aload_n hx hb dX1_forget_0 rfl (lv_at hl 0 rfl) ?_
  refine lv_iconst (v := (-1)) hx hb dX1_forget_1 rg_53 ?_
  refine va_put (D := (dC, dI)) (ci := 1) (v := .int (-1)) (ty := tyX1 3) (C := RX1) (T := TX1) (N := 7) hx hb hts hin1 tyX1 tyX1_ok nmX1 hown hK hP hD hS 27 rfl rfl 3 (Nat.le_of_ble_eq_true rfl) (ho (.fieldLink RX1 9 "NearEnough$Front" "itsEnd" "I") (List.mem_of_getElem? (i := 0) rfl)) (fun _ h9 => h9) rfl (tyX1_ok 3 (Nat.le_of_ble_eq_true rfl)) rfl rfl (Nat.le_of_ble_eq_true rfl) dX1_forget_2 (fun H locs hP hD hS => ?_)
  have hP : va_P (dC, dI) vwCl (xW κ (FR κ a (sI φ 1 (-1)) ++ Y) σ) H := hP
  have hD : va_D A (xW κ (FR κ a (sI φ 1 (-1)) ++ Y) σ) := hD
  rw [hQ]
  exact W.vret hx hb hr (fun t ht hW => ⟨⟨((sI φ 1 (-1)), σ), rfl, ⟨hI, hF, rfl⟩, wEn_of hP (hK.sub [] rfl) hD ht hW⟩, hS.F ht⟩) hS.2.2 dX1_forget_5
def ow_f_cnf : List Cond := [.fieldLink RX1 23 "NearEnough$Front" "count" "I", .fieldLink RX1 15 "NearEnough$Front" "offs" "[J"]
def vs_f_cnf : List Cond := .code yX1_countNotFarther cX1_countNotFarther 7 (some .int) :: (ow_f_cnf ++ (wsX10))
theorem vg_f_cnf : vs_f_cnf.all goodWord = true := by decide +kernel
theorem dd_f_cnf : yX1_countNotFarther.cls = RX1 ∧ yX1_countNotFarther.cls ≠ "java/lang/invoke/MethodHandle" ∧ yX1_countNotFarther.cls ≠ "java/lang/invoke/VarHandle" ∧ (parseMethodDescriptor yX1_countNotFarther.desc).map (fun d => d.parameters.length) = some 1 := by decide +kernel
def rm_f_cnf : Room := { frames := 0, cells := 0, slots := 0, locals := 0 }
set_option maxHeartbeats 4000000 in
set_option maxRecDepth 100000 in
theorem f_cnf (l : Launch) (dC : Nat → ClassId) (dI : Nat → Nat → Nat) (κ : CE) (a : Nat) (Y : va_W) (sz : Nat) (φ σ : MS) (x : Int64) (hk : PInv κ) (hI : CInv σ) (hF : FInv φ)  : Met l yX1_countNotFarther vs_f_cnf rm_f_cnf (va_Pc [.ref a, .long x] (wSy dC dI (xW κ (FR κ a φ ++ Y) σ) (tT κ) sz)) (va_Qi (fun (r : Int32) (u : MS × MS) => u = (φ, σ) ∧ (0 ≤ r.toInt ∧ r.toInt ≤ (φ.1 2).toInt)) (fun (u : MS × MS) => wEn dC dI (va_A (xW κ (FR κ a φ ++ Y) σ) sz) (xW κ (FR κ a u.1 ++ Y) u.2) []) (va_A (xW κ (FR κ a φ ++ Y) σ) sz)) 0 0 (va_A (xW κ (FR κ a φ ++ Y) σ) sz) := by
  refine Met.ofW (cc := cX1_countNotFarther) (maxL := 7) (ret := (some .int)) (by decide +kernel) rfl ?_
  intro p e s m args below meth c s₁ B hml hv
  obtain ⟨rfl, hsz, hP, hK, hD0, hE⟩ := hv
  have hx := B.exec
  have hb := B.bytes
  have hr := B.returns
  have hts := atoms_spec (ws := vs_f_cnf) B.pre
  have hown : s.vm.findClass RX1 = some m.cls := findClass_of_methodNamed B.named
  have hlocks := B.notSynchronized
  subst hsz
  have hD := hD0.self (sz := s.heap.size)
  generalize hAe : va_A (xW κ (FR κ a φ ++ Y) σ) s.heap.size = A at hD ⊢
  have hA : ∀ q : Nat, s.heap.size ≤ q → A q := fun q h => by rw [← hAe]; exact Or.inr h
  have hl := lv_entry ([.ref a, .long x]) (n := 7) (Nat.le_of_ble_eq_true rfl)
  rw [lg_entry_eq]
  generalize (lg_sl ([.ref a, .long x]) ++ List.replicate (7 - (lg_sl ([.ref a, .long x])).length) Slot.unset).toArray = ls at hl ⊢
  have hl : lv_has ls 7 [(0, .ref a), (1, .long x)] := hl
  have ho := fun w (h : w ∈ ow_f_cnf) => hts w (List.mem_cons_of_mem _ (List.mem_append_left _ h))
  have hin1 : ∀ w ∈ u_ws RX1 TX1 7, w ∈ vs_f_cnf := fun w h => (List.mem_cons_of_mem _ (List.mem_append_right _ h))
  refine zQ (fun Q hQ => ?_)
  refine zH (A := A) (ws := (xW κ (FR κ a φ ++ Y) σ)) (fun H hP hS => ?_) hP
  have hk0 := hk.1
  have hk1 := hk.2.1
  have hk2 := hk.2.2.1
  have hKc : va_K (dC, dI) vwCl (cT κ) s := hK.sub [0, 1, 2, 3, 4, 5, 6, 7, 8, 9, 10, 11, 12, 13, 14, 15, 16, 17, 18, 19, 20] rfl
  have bφ_102 : 0 ≤ (φ.1 2).toInt ∧ (φ.1 2).toInt ≤ 4096 := hF
  refine lv_iconst (v := 0) hx hb dX1_countNotFarther_0 rg_0 ?_
  refine lv_istore_n (lv' := [(3, .int 0), (0, .ref a), (1, .long x)]) hx hb dX1_countNotFarther_1 rfl hl (Nat.le_of_ble_eq_true rfl) rfl (fun ls hl => ?_)
  refine lv_aload_n hx hb dX1_countNotFarther_2 rfl (lv_at hl 1 rfl) ?_
  have bφ_102 : 0 ≤ (φ.1 2).toInt ∧ (φ.1 2).toInt ≤ 4096 := hF
  refine va_get (D := (dC, dI)) (ci := 1) (v := .int (φ.1 2)) (C := RX1) (T := TX1) (N := 7) hx hb hts hin1 hown hK hP 27 rfl rfl 6 (Nat.le_of_ble_eq_true rfl) (ho (.fieldLink RX1 23 "NearEnough$Front" "count" "I") (List.mem_of_getElem? (i := 0) rfl)) (fun _ h9 => h9) rfl dX1_countNotFarther_3 ?_
  refine lv_istore (lv' := [(4, .int (φ.1 2)), (3, .int 0), (0, .ref a), (1, .long x)]) hx hb dX1_countNotFarther_6 hl (Nat.le_of_ble_eq_true rfl) rfl (fun ls hl => ?_)
  refine lv_iconst (v := 0) hx hb dX1_countNotFarther_8 rg_0 ?_
  refine lv_istore (lv' := [(5, .int 0), (4, .int (φ.1 2)), (3, .int 0), (0, .ref a), (1, .long x)]) hx hb dX1_countNotFarther_9 hl (Nat.le_of_ble_eq_true rfl) rfl (fun ls hl => ?_)
  have pt11_ : ∀ (n11_ : Nat) (v3_ : Int32) (v4_ : Int32) (v5_ : Int32) (H : Heap) (locs : List Loc) (ls : Array Slot), (13 - v5_.toInt).toNat < n11_ → (0 ≤ v5_.toInt ∧ 0 ≤ v3_.toInt ∧ v3_.toInt ≤ v4_.toInt ∧ v4_.toInt ≤ (φ.1 2).toInt) → va_P (dC, dI) vwCl (xW κ (FR κ a φ ++ Y) σ) H → va_D A (xW κ (FR κ a φ ++ Y) σ) → va_S A s.heap H locs → lv_has ls 7 [(3, .int v3_), (4, .int v4_), (5, .int v5_), (0, .ref a), (1, .long x)] → W p l e (headSpec vs_f_cnf rm_f_cnf).room s m #[Value.ref a, Value.long x] below meth c H locs 0 0 Q (F0 m 11 ls []) := by
    intro n11_
    induction n11_ with
    | zero => intro v3_ v4_ v5_ H locs ls hn11_ hf11_0_ hP hD hS hl; exact absurd hn11_ (Nat.not_lt_zero _)
    | succ n11_ ih11_ =>
      intro v3_ v4_ v5_ H locs ls hn11_ hf11_0_ hP hD hS hl
      have bφ_102 : 0 ≤ (φ.1 2).toInt ∧ (φ.1 2).toInt ≤ 4096 := hF
      refine lv_iload hx hb dX1_countNotFarther_11 (lv_at hl 2 rfl) ?_
      refine lv_bipush (v := 13) hx hb dX1_countNotFarther_13 rx_9dc2a7926c ?_
      refine lv_icmp_ge (tgt := 62) hx hb dX1_countNotFarther_15 rfl (fun c1_ => ?_) (fun c1_ => ?_)
      · have tc1_ := (show 13 ≤ v5_.toInt from ti_le rx_b6c70d2711 rfl c1_)
        refine lv_iload_n hx hb dX1_countNotFarther_62 rfl (lv_at hl 0 rfl) ?_
        have o1 : 0 ≤ v3_.toInt := by omega
        have o2 : v3_.toInt ≤ (φ.1 2).toInt := by omega
        rw [hQ]
        exact W.iret (v := v3_) hx hb hr (fun t ht hW => ⟨⟨v3_, (φ, σ), rfl, ⟨rfl, ⟨o1, o2⟩⟩, wEn_of hP (hK.sub [] rfl) hD ht hW⟩, hS.F ht⟩) hS.2.2 dX1_countNotFarther_63
      · have tc1_ := (show v5_.toInt < 13 from ti_nle rx_b6c70d2711 rfl c1_)
        refine lv_iload_n hx hb dX1_countNotFarther_18 rfl (lv_at hl 0 rfl) ?_
        refine lv_iload hx hb dX1_countNotFarther_19 (lv_at hl 1 rfl) ?_
        refine lv_icmp_ge (tgt := 62) hx hb dX1_countNotFarther_21 rfl (fun c2_ => ?_) (fun c2_ => ?_)
        · have tc2_ := (show v4_.toInt ≤ v3_.toInt from ti_le rfl rfl c2_)
          refine lv_iload_n hx hb dX1_countNotFarther_62 rfl (lv_at hl 0 rfl) ?_
          have o3 : 0 ≤ v3_.toInt := by omega
          have o4 : v3_.toInt ≤ (φ.1 2).toInt := by omega
          rw [hQ]
          exact W.iret (v := v3_) hx hb hr (fun t ht hW => ⟨⟨v3_, (φ, σ), rfl, ⟨rfl, ⟨o3, o4⟩⟩, wEn_of hP (hK.sub [] rfl) hD ht hW⟩, hS.F ht⟩) hS.2.2 dX1_countNotFarther_63
        · have tc2_ := (show v3_.toInt < v4_.toInt from ti_nle rfl rfl c2_)
          refine lv_iload_n hx hb dX1_countNotFarther_24 rfl (lv_at hl 0 rfl) ?_
          refine lv_iload hx hb dX1_countNotFarther_25 (lv_at hl 1 rfl) ?_
          refine lv_iadd hx hb dX1_countNotFarther_27 ?_
          refine lv_topi (fun z3_ ez3_ => ?_)
          have o5 : -2147483648 ≤ v3_.toInt + v4_.toInt := by omega
          have o6 : v3_.toInt + v4_.toInt ≤ 2147483647 := by omega
          have tz3_ : z3_.toInt = v3_.toInt + v4_.toInt := ti_add ez3_ rfl rfl o5 o6
          refine lv_iconst (v := 1) hx hb dX1_countNotFarther_28 rg_6 ?_
          refine lv_ishr hx hb dX1_countNotFarther_29 ?_
          refine lv_topi (fun z4_ ez4_ => ?_)
          have o7 : 0 ≤ z3_.toInt := by omega
          have tz4_ := shr1 ez4_ o7
          refine lv_istore (lv' := [(6, .int z4_), (3, .int v3_), (4, .int v4_), (5, .int v5_), (0, .ref a), (1, .long x)]) hx hb dX1_countNotFarther_30 hl (Nat.le_of_ble_eq_true rfl) rfl (fun ls hl => ?_)
          refine lv_aload_n hx hb dX1_countNotFarther_32 rfl (lv_at hl 4 rfl) ?_
          refine va_get (D := (dC, dI)) (ci := 1) (v := .ref (kA κ 27)) (C := RX1) (T := TX1) (N := 7) hx hb hts hin1 hown hK hP 27 rfl rfl 4 (Nat.le_of_ble_eq_true rfl) (ho (.fieldLink RX1 15 "NearEnough$Front" "offs" "[J") (List.mem_of_getElem? (i := 1) rfl)) (fun _ h9 => h9) rfl dX1_countNotFarther_33 ?_
          refine lv_iload hx hb dX1_countNotFarther_36 (lv_at hl 0 rfl) ?_
          have o8 : 0 ≤ z4_.toInt := by omega
          have o9 : z4_.toInt < ((4096 : Nat) : Int) := by omega
          refine va_lald hx hb hK hP 28 21 rfl rfl (ti_inx o8 o9) dX1_countNotFarther_38 ?_
          refine lv_topl (fun y5_ ey5_ => ?_)
          refine lv_lload_n hx hb dX1_countNotFarther_39 rfl (lv_at hl 5 rfl) ?_
          refine W.lcmp hx hb dX1_countNotFarther_40 ?_
          refine lv_topi (fun z6_ ez6_ => ?_)
          refine lv_if_gt (tgt := 52) hx hb dX1_countNotFarther_41 rfl (fun c7_ => ?_) (fun c7_ => ?_)
          · have tc7_ := (show 0 < z6_.toInt from ti_lt rg_11 rfl c7_)
            have lc7_ : x < y5_ := (lg_cmp_gt y5_ x).mp (by rw [← ez6_]; exact c7_)
            refine lv_iload hx hb dX1_countNotFarther_52 (lv_at hl 0 rfl) ?_
            refine lv_istore (lv' := [(4, .int z4_), (6, .int z4_), (3, .int v3_), (5, .int v5_), (0, .ref a), (1, .long x)]) hx hb dX1_countNotFarther_54 hl (Nat.le_of_ble_eq_true rfl) rfl (fun ls hl => ?_)
            obtain ⟨z8_, ez8_⟩ : ∃ y : Int32, y = v5_ + 1 := ⟨_, rfl⟩
            have o10 : -2147483648 ≤ v5_.toInt + 1 := by omega
            have o11 : v5_.toInt + 1 ≤ 2147483647 := by omega
            have tz8_ := ti_add ez8_ rfl rg_18 o10 o11
            refine lv_iinc (v := z8_) (lv' := [(5, .int z8_), (4, .int z4_), (6, .int z4_), (3, .int v3_), (0, .ref a), (1, .long x)]) hx hb dX1_countNotFarther_56 hl (k := 3) rfl (iincp ez8_ rg_6) (Nat.le_of_ble_eq_true rfl) rfl (fun ls hl => ?_)
            refine lv_goto (tgt := 11) hx hb dX1_countNotFarther_59 rfl ?_
            have o12 : (13 - z8_.toInt).toNat < n11_ := by omega
            have o13 : 0 ≤ z8_.toInt := by omega
            have o14 : 0 ≤ v3_.toInt := by omega
            have o15 : v3_.toInt ≤ z4_.toInt := by omega
            have o16 : z4_.toInt ≤ (φ.1 2).toInt := by omega
            exact ih11_  v3_ z4_ z8_ _ _ _ o12 ⟨o13, o14, o15, o16⟩ hP hD hS (lv_sub hl [3, 1, 0, 4, 5] rfl)
          · have tc7_ := (show z6_.toInt ≤ 0 from ti_nlt rg_11 rfl c7_)
            have lc7_ : ¬ x < y5_ := fun h => c7_ (by rw [ez6_]; exact (lg_cmp_gt y5_ x).mpr h)
            refine lv_iload hx hb dX1_countNotFarther_44 (lv_at hl 0 rfl) ?_
            refine lv_iconst (v := 1) hx hb dX1_countNotFarther_46 rg_6 ?_
            refine lv_iadd hx hb dX1_countNotFarther_47 ?_
            refine lv_topi (fun z9_ ez9_ => ?_)
            have o17 : -2147483648 ≤ z4_.toInt + 1 := by omega
            have o18 : z4_.toInt + 1 ≤ 2147483647 := by omega
            have tz9_ : z9_.toInt = z4_.toInt + 1 := ti_add ez9_ rfl rg_18 o17 o18
            refine lv_istore_n (lv' := [(3, .int z9_), (6, .int z4_), (4, .int v4_), (5, .int v5_), (0, .ref a), (1, .long x)]) hx hb dX1_countNotFarther_48 rfl hl (Nat.le_of_ble_eq_true rfl) rfl (fun ls hl => ?_)
            refine lv_goto (tgt := 56) hx hb dX1_countNotFarther_49 rfl ?_
            obtain ⟨z10_, ez10_⟩ : ∃ y : Int32, y = v5_ + 1 := ⟨_, rfl⟩
            have o19 : -2147483648 ≤ v5_.toInt + 1 := by omega
            have o20 : v5_.toInt + 1 ≤ 2147483647 := by omega
            have tz10_ := ti_add ez10_ rfl rg_18 o19 o20
            refine lv_iinc (v := z10_) (lv' := [(5, .int z10_), (3, .int z9_), (6, .int z4_), (4, .int v4_), (0, .ref a), (1, .long x)]) hx hb dX1_countNotFarther_56 hl (k := 3) rfl (iincp ez10_ rg_6) (Nat.le_of_ble_eq_true rfl) rfl (fun ls hl => ?_)
            refine lv_goto (tgt := 11) hx hb dX1_countNotFarther_59 rfl ?_
            have o21 : (13 - z10_.toInt).toNat < n11_ := by omega
            have o22 : 0 ≤ z10_.toInt := by omega
            have o23 : 0 ≤ z9_.toInt := by omega
            have o24 : z9_.toInt ≤ v4_.toInt := by omega
            have o25 : v4_.toInt ≤ (φ.1 2).toInt := by omega
            exact ih11_  z9_ v4_ z10_ _ _ _ o21 ⟨o22, o23, o24, o25⟩ hP hD hS (lv_sub hl [1, 3, 0, 4, 5] rfl)
  have kk11_ : (0 : Int32).toInt = 0 := rg_11
  have kk12_ : (0 : Int32).toInt = 0 := rg_11
  have o26 : 0 ≤ (0 : Int32).toInt := by omega
  have o27 : (0 : Int32).toInt ≤ ((φ.1 2)).toInt := by omega
  have o28 : ((φ.1 2)).toInt ≤ (φ.1 2).toInt := by omega
  exact pt11_ _  0 (φ.1 2) 0 _ _ _ (Nat.lt_succ_self _) ⟨o26, o26, o27, o28⟩ hP hD hS (lv_sub hl [2, 1, 0, 3, 4] rfl)
def ow_f_bring : List Cond := [.fieldLink RX1 23 "NearEnough$Front" "count" "I", .fieldLink RX1 15 "NearEnough$Front" "offs" "[J", .methodLink RX1 73 arraycopyName, .native arraycopyName, .static arraycopyName, .initialized "java/lang/System", .fieldLink RX1 19 "NearEnough$Front" "saves" "[I"]
def vs_f_bring : List Cond := .code yX1_bring cX1_bring 8 none :: (ow_f_bring ++ (([.methodLink RX1 69 yX1_countNotFarther, .instanceMethod yX1_countNotFarther, .selects RX1 yX1_countNotFarther yX1_countNotFarther, .initialized RX1] : List Cond) ++ (vs_f_cnf ++ (wsX10))))
theorem vg_f_bring : vs_f_bring.all goodWord = true := by decide +kernel
theorem dd_f_bring : yX1_bring.cls = RX1 ∧ yX1_bring.cls ≠ "java/lang/invoke/MethodHandle" ∧ yX1_bring.cls ≠ "java/lang/invoke/VarHandle" ∧ (parseMethodDescriptor yX1_bring.desc).map (fun d => d.parameters.length) = some 2 := by decide +kernel
def rm_f_bring : Room := { frames := 1, cells := 0, slots := 0, locals := 60 }
theorem gd_f_bring_69_f_cnf : GoodIn vs_f_bring (wsV RX1 69 RX1 yX1_countNotFarther vs_f_cnf) := goodIn_app (goodIn_sub (fun w h => (List.mem_cons_of_mem _ (List.mem_append_right _ (List.mem_append_left _ h)))) (by decide +kernel)) (goodIn_sub (fun w h => (List.mem_cons_of_mem _ (List.mem_append_right _ (List.mem_append_right _ (List.mem_append_left _ h))))) vg_f_cnf)
set_option maxHeartbeats 4000000 in
set_option maxRecDepth 100000 in
theorem f_bring (l : Launch) (dC : Nat → ClassId) (dI : Nat → Nat → Nat) (κ : CE) (a : Nat) (Y : va_W) (sz : Nat) (φ σ : MS) (x : Int64) (y : Int32) (hk : PInv κ) (hI : CInv σ) (hF : FInv φ)  : Met l yX1_bring vs_f_bring rm_f_bring (va_Pc [.ref a, .long x, .int y] (wSy dC dI (xW κ (FR κ a φ ++ Y) σ) (tT κ) sz)) (va_Qv (fun (u : MS × MS) => CInv u.2 ∧ FInv u.1 ∧ True) (fun (u : MS × MS) => wEn dC dI (va_A (xW κ (FR κ a φ ++ Y) σ) sz) (xW κ (FR κ a u.1 ++ Y) u.2) []) (va_A (xW κ (FR κ a φ ++ Y) σ) sz)) 0 0 (va_A (xW κ (FR κ a φ ++ Y) σ) sz) := by
  refine Met.ofW (cc := cX1_bring) (maxL := 8) (ret := none) (by decide +kernel) rfl ?_
  intro p e s m args below meth c s₁ B hml hv
  obtain ⟨rfl, hsz, hP, hK, hD0, hE⟩ := hv
  have hx := B.exec
  have hb := B.bytes
  have hr := B.returns
  have hts := atoms_spec (ws := vs_f_bring) B.pre
  have hown : s.vm.findClass RX1 = some m.cls := findClass_of_methodNamed B.named
  have hlocks := B.notSynchronized
  subst hsz
  have hD := hD0.self (sz := s.heap.size)
  generalize hAe : va_A (xW κ (FR κ a φ ++ Y) σ) s.heap.size = A at hD ⊢
  have hA : ∀ q : Nat, s.heap.size ≤ q → A q := fun q h => by rw [← hAe]; exact Or.inr h
  have hl := lv_entry ([.ref a, .long x, .int y]) (n := 8) (Nat.le_of_ble_eq_true rfl)
  rw [lg_entry_eq]
  generalize (lg_sl ([.ref a, .long x, .int y]) ++ List.replicate (8 - (lg_sl ([.ref a, .long x, .int y])).length) Slot.unset).toArray = ls at hl ⊢
  have hl : lv_has ls 8 [(0, .ref a), (1, .long x), (3, .int y)] := hl
  have ho := fun w (h : w ∈ ow_f_bring) => hts w (List.mem_cons_of_mem _ (List.mem_append_left _ h))
  have hin1 : ∀ w ∈ u_ws RX1 TX1 7, w ∈ vs_f_bring := fun w h => (List.mem_cons_of_mem _ (List.mem_append_right _ (List.mem_append_right _ (List.mem_append_right _ h))))
  refine zQ (fun Q hQ => ?_)
  refine zH (A := A) (ws := (xW κ (FR κ a φ ++ Y) σ)) (fun H hP hS => ?_) hP
  have hk0 := hk.1
  have hk1 := hk.2.1
  have hk2 := hk.2.2.1
  have hKc : va_K (dC, dI) vwCl (cT κ) s := hK.sub [0, 1, 2, 3, 4, 5, 6, 7, 8, 9, 10, 11, 12, 13, 14, 15, 16, 17, 18, 19, 20] rfl
  have bφ_102 : 0 ≤ (φ.1 2).toInt ∧ (φ.1 2).toInt ≤ 4096 := hF
  refine lv_aload_n hx hb dX1_bring_0 rfl (lv_at hl 0 rfl) ?_
  refine lv_lload_n hx hb dX1_bring_1 rfl (lv_at hl 1 rfl) ?_
  refine zy_i (va_runV (As := [.long x]) (rest := []) ⟨hx, hb, hml, hown, hts⟩ (f_cnf l dC dI κ a Y H.size φ σ x hk hI hF ) (cwV 1 hts gd_f_bring_69_f_cnf rfl rfl rfl dd_f_cnf ⟨Nat.le_of_ble_eq_true rfl, Nat.le_of_ble_eq_true rfl⟩) (preVy hP hK hD hE (ci := 1) (q0 := 27) rfl rfl) rfl rfl hl.1 rfl (lv_room (Nat.le_of_ble_eq_true rfl)) dX1_bring_2 ⟨Nat.le_of_ble_eq_true rfl, Nat.le_of_ble_eq_true rfl⟩) hD hS hA (fun z1_ τ2_ H locs hq hP hD hS => ?_)
  obtain ⟨hτ2_, q3_⟩ := hq
  rw [hτ2_] at hP hD
  have hP : va_P (dC, dI) vwCl (xW κ (FR κ a φ ++ Y) σ) H := hP
  have hD : va_D A (xW κ (FR κ a φ ++ Y) σ) := hD
  have bφ_102 : 0 ≤ (φ.1 2).toInt ∧ (φ.1 2).toInt ≤ 4096 := hF
  have q3_ : 0 ≤ z1_.toInt ∧ z1_.toInt ≤ (φ.1 2).toInt := q3_
  refine W.widen (k := 0) (n := 0) (Nat.le_of_ble_eq_true rfl) (Nat.le_of_ble_eq_true rfl) ?_
  refine lv_istore (lv' := [(4, .int z1_), (0, .ref a), (1, .long x), (3, .int y)]) hx hb dX1_bring_5 hl (Nat.le_of_ble_eq_true rfl) rfl (fun ls hl => ?_)
  refine lv_iload hx hb dX1_bring_7 (lv_at hl 0 rfl) ?_
  refine lv_if_le (tgt := 26) hx hb dX1_bring_9 rfl (fun c4_ => ?_) (fun c4_ => ?_)
  · have tc4_ := (show z1_.toInt ≤ 0 from ti_le rfl rg_11 c4_)
    have pt50_ : ∀ (s50_ : Int32) (H : Heap) (locs : List Loc) (ls : Array Slot), (s50_.toInt = 0 ∨ (s50_.toInt = 1 ∧ 0 < z1_.toInt)) → va_P (dC, dI) vwCl (xW κ (FR κ a φ ++ Y) σ) H → va_D A (xW κ (FR κ a φ ++ Y) σ) → va_S A s.heap H locs → lv_has ls 8 [(4, .int z1_), (0, .ref a), (1, .long x), (3, .int y)] → W p l e (headSpec vs_f_bring rm_f_bring).room s m #[Value.ref a, Value.long x, Value.int y] below meth c H locs 0 0 Q (F0 m 50 ls [.int s50_]) := by
      intro s50_ H locs ls hf50_0_ hP hD hS hl
      have bφ_102 : 0 ≤ (φ.1 2).toInt ∧ (φ.1 2).toInt ≤ 4096 := hF
      refine lv_istore (lv' := [(5, .int s50_), (4, .int z1_), (0, .ref a), (1, .long x), (3, .int y)]) hx hb dX1_bring_50 hl (Nat.le_of_ble_eq_true rfl) rfl (fun ls hl => ?_)
      have pt66_ : ∀ (s66_ : Int32) (H : Heap) (locs : List Loc) (ls : Array Slot), (0 ≤ s66_.toInt ∧ s66_.toInt ≤ z1_.toInt) → va_P (dC, dI) vwCl (xW κ (FR κ a φ ++ Y) σ) H → va_D A (xW κ (FR κ a φ ++ Y) σ) → va_S A s.heap H locs → lv_has ls 8 [(4, .int z1_), (0, .ref a), (1, .long x), (3, .int y)] → W p l e (headSpec vs_f_bring rm_f_bring).room s m #[Value.ref a, Value.long x, Value.int y] below meth c H locs 0 0 Q (F0 m 66 ls [.int s66_]) := by
        intro s66_ H locs ls hf66_0_ hP hD hS hl
        have bφ_102 : 0 ≤ (φ.1 2).toInt ∧ (φ.1 2).toInt ≤ 4096 := hF
        refine lv_istore (lv' := [(6, .int s66_), (4, .int z1_), (0, .ref a), (1, .long x), (3, .int y)]) hx hb dX1_bring_66 hl (Nat.le_of_ble_eq_true rfl) rfl (fun ls hl => ?_)
        refine lv_iload hx hb dX1_bring_68 (lv_at hl 1 rfl) ?_
        refine lv_istore (lv' := [(7, .int z1_), (6, .int s66_), (4, .int z1_), (0, .ref a), (1, .long x), (3, .int y)]) hx hb dX1_bring_70 hl (Nat.le_of_ble_eq_true rfl) rfl (fun ls hl => ?_)
        have pt72_ : ∀ (n72_ : Nat) (v7_ : Int32) (H : Heap) (locs : List Loc) (ls : Array Slot), (4096 - v7_.toInt).toNat < n72_ → (0 ≤ v7_.toInt ∧ z1_.toInt ≤ v7_.toInt ∧ v7_.toInt ≤ (φ.1 2).toInt) → va_P (dC, dI) vwCl (xW κ (FR κ a φ ++ Y) σ) H → va_D A (xW κ (FR κ a φ ++ Y) σ) → va_S A s.heap H locs → lv_has ls 8 [(7, .int v7_), (6, .int s66_), (0, .ref a), (1, .long x), (3, .int y)] → W p l e (headSpec vs_f_bring rm_f_bring).room s m #[Value.ref a, Value.long x, Value.int y] below meth c H locs 0 0 Q (F0 m 72 ls []) := by
          intro n72_
          induction n72_ with
          | zero => intro v7_ H locs ls hn72_ hf72_0_ hP hD hS hl; exact absurd hn72_ (Nat.not_lt_zero _)
          | succ n72_ ih72_ =>
            intro v7_ H locs ls hn72_ hf72_0_ hP hD hS hl
            have bφ_102 : 0 ≤ (φ.1 2).toInt ∧ (φ.1 2).toInt ≤ 4096 := hF
            refine lv_iload hx hb dX1_bring_72 (lv_at hl 0 rfl) ?_
            refine lv_aload_n hx hb dX1_bring_74 rfl (lv_at hl 2 rfl) ?_
            have bφ_102 : 0 ≤ (φ.1 2).toInt ∧ (φ.1 2).toInt ≤ 4096 := hF
            refine va_get (D := (dC, dI)) (ci := 1) (v := .int (φ.1 2)) (C := RX1) (T := TX1) (N := 7) hx hb hts hin1 hown hK hP 27 rfl rfl 6 (Nat.le_of_ble_eq_true rfl) (ho (.fieldLink RX1 23 "NearEnough$Front" "count" "I") (List.mem_of_getElem? (i := 0) rfl)) (fun _ h9 => h9) rfl dX1_bring_75 ?_
            refine lv_icmp_ge (tgt := 98) hx hb dX1_bring_78 rfl (fun c5_ => ?_) (fun c5_ => ?_)
            · have tc5_ := (show (φ.1 2).toInt ≤ v7_.toInt from ti_le rfl rfl c5_)
              refine lv_iload hx hb dX1_bring_98 (lv_at hl 1 rfl) ?_
              refine lv_iconst (v := 1) hx hb dX1_bring_100 rg_6 ?_
              refine lv_iadd hx hb dX1_bring_101 ?_
              refine lv_topi (fun z6_ ez6_ => ?_)
              have o1 : -2147483648 ≤ s66_.toInt + 1 := by omega
              have o2 : s66_.toInt + 1 ≤ 2147483647 := by omega
              have tz6_ : z6_.toInt = s66_.toInt + 1 := ti_add ez6_ rfl rg_18 o1 o2
              refine lv_aload_n hx hb dX1_bring_102 rfl (lv_at hl 2 rfl) ?_
              have bφ_102 : 0 ≤ (φ.1 2).toInt ∧ (φ.1 2).toInt ≤ 4096 := hF
              refine va_get (D := (dC, dI)) (ci := 1) (v := .int (φ.1 2)) (C := RX1) (T := TX1) (N := 7) hx hb hts hin1 hown hK hP 27 rfl rfl 6 (Nat.le_of_ble_eq_true rfl) (ho (.fieldLink RX1 23 "NearEnough$Front" "count" "I") (List.mem_of_getElem? (i := 0) rfl)) (fun _ h9 => h9) rfl dX1_bring_103 ?_
              refine lv_iadd hx hb dX1_bring_106 ?_
              refine lv_topi (fun z7_ ez7_ => ?_)
              have o3 : -2147483648 ≤ z6_.toInt + (φ.1 2).toInt := by omega
              have o4 : z6_.toInt + (φ.1 2).toInt ≤ 2147483647 := by omega
              have tz7_ : z7_.toInt = z6_.toInt + (φ.1 2).toInt := ti_add ez7_ rfl rfl o3 o4
              refine lv_iload hx hb dX1_bring_107 (lv_at hl 0 rfl) ?_
              refine lv_isub hx hb dX1_bring_109 ?_
              refine lv_topi (fun z8_ ez8_ => ?_)
              have o5 : -2147483648 ≤ z7_.toInt - v7_.toInt := by omega
              have o6 : z7_.toInt - v7_.toInt ≤ 2147483647 := by omega
              have tz8_ : z8_.toInt = z7_.toInt - v7_.toInt := ti_sub ez8_ rfl rfl o5 o6
              refine lv_sipush (v := 4096) hx hb dX1_bring_110 rx_5b0cde361b ?_
              refine lv_icmp_le (tgt := 117) hx hb dX1_bring_113 rfl (fun c9_ => ?_) (fun c9_ => ?_)
              · have tc9_ := (show z8_.toInt ≤ 4096 from ti_le rfl rx_5cf37c826d c9_)
                refine lv_aload_n hx hb dX1_bring_117 rfl (lv_at hl 2 rfl) ?_
                refine va_get (D := (dC, dI)) (ci := 1) (v := .ref (kA κ 27)) (C := RX1) (T := TX1) (N := 7) hx hb hts hin1 hown hK hP 27 rfl rfl 4 (Nat.le_of_ble_eq_true rfl) (ho (.fieldLink RX1 15 "NearEnough$Front" "offs" "[J") (List.mem_of_getElem? (i := 1) rfl)) (fun _ h9 => h9) rfl dX1_bring_118 ?_
                refine lv_iload hx hb dX1_bring_121 (lv_at hl 0 rfl) ?_
                refine lv_aload_n hx hb dX1_bring_123 rfl (lv_at hl 2 rfl) ?_
                refine va_get (D := (dC, dI)) (ci := 1) (v := .ref (kA κ 27)) (C := RX1) (T := TX1) (N := 7) hx hb hts hin1 hown hK hP 27 rfl rfl 4 (Nat.le_of_ble_eq_true rfl) (ho (.fieldLink RX1 15 "NearEnough$Front" "offs" "[J") (List.mem_of_getElem? (i := 1) rfl)) (fun _ h9 => h9) rfl dX1_bring_124 ?_
                refine lv_iload hx hb dX1_bring_127 (lv_at hl 1 rfl) ?_
                refine lv_iconst (v := 1) hx hb dX1_bring_129 rg_6 ?_
                refine lv_iadd hx hb dX1_bring_130 ?_
                refine lv_topi (fun z10_ ez10_ => ?_)
                have tz10_ : z10_.toInt = s66_.toInt + 1 := ti_add ez10_ rfl rg_18 o1 o2
                refine lv_aload_n hx hb dX1_bring_131 rfl (lv_at hl 2 rfl) ?_
                have bφ_102 : 0 ≤ (φ.1 2).toInt ∧ (φ.1 2).toInt ≤ 4096 := hF
                refine va_get (D := (dC, dI)) (ci := 1) (v := .int (φ.1 2)) (C := RX1) (T := TX1) (N := 7) hx hb hts hin1 hown hK hP 27 rfl rfl 6 (Nat.le_of_ble_eq_true rfl) (ho (.fieldLink RX1 23 "NearEnough$Front" "count" "I") (List.mem_of_getElem? (i := 0) rfl)) (fun _ h9 => h9) rfl dX1_bring_132 ?_
                refine lv_iload hx hb dX1_bring_135 (lv_at hl 0 rfl) ?_
                refine lv_isub hx hb dX1_bring_137 ?_
                refine lv_topi (fun z11_ ez11_ => ?_)
                have o7 : -2147483648 ≤ (φ.1 2).toInt - v7_.toInt := by omega
                have o8 : (φ.1 2).toInt - v7_.toInt ≤ 2147483647 := by omega
                have tz11_ : z11_.toInt = (φ.1 2).toInt - v7_.toInt := ti_sub ez11_ rfl rfl o7 o8
                have o9 : 0 ≤ v7_.toInt := by omega
                have o10 : 0 ≤ z10_.toInt := by omega
                have o11 : 0 ≤ z11_.toInt := by omega
                have o12 : v7_.toInt + z11_.toInt ≤ ((4096 : Nat) : Int) := by omega
                have o13 : z10_.toInt + z11_.toInt ≤ ((4096 : Nat) : Int) := by omega
                refine va_copyl (ty := .long) hx hb (hml.trans hl.1.symm) hown (ho (.methodLink RX1 73 arraycopyName) (List.mem_of_getElem? (i := 2) rfl)) (ho (.native arraycopyName) (List.mem_of_getElem? (i := 3) rfl)) (ho (.static arraycopyName) (List.mem_of_getElem? (i := 4) rfl)) (ho (.initialized "java/lang/System") (List.mem_of_getElem? (i := 5) rfl)) hK hP hD hS 28 28 21 21 rfl rfl rfl rfl rfl (nneg o9) (nneg o10) (nneg o11) (clsum o9 o11 o12) (clsum o10 o11 o13) (fun _ _ => rfl) (Nat.le_of_ble_eq_true rfl) (Nat.le_of_ble_eq_true rfl) dX1_bring_138 (fun H locs hP hD hS => ?_)
                obtain ⟨f12_, ef12_⟩ : ∃ f9 : Nat → Int64, f9 = va_cpy (φ.2.2.1 3) (φ.2.2.1 3) (Int32.toNatClampNeg v7_) (Int32.toNatClampNeg z10_) (Int32.toNatClampNeg z11_) := ⟨_, rfl⟩
                have hP : va_P (dC, dI) vwCl (xW κ (FR κ a (sJ φ 3 f12_) ++ Y) σ) H := by rw [ef12_]; exact hP
                have hD : va_D A (xW κ (FR κ a (sJ φ 3 f12_) ++ Y) σ) := by rw [ef12_]; exact hD
                refine lv_aload_n hx hb dX1_bring_141 rfl (lv_at hl 2 rfl) ?_
                refine va_get (D := (dC, dI)) (ci := 1) (v := .ref (kA κ 28)) (C := RX1) (T := TX1) (N := 7) hx hb hts hin1 hown hK hP 27 rfl rfl 5 (Nat.le_of_ble_eq_true rfl) (ho (.fieldLink RX1 19 "NearEnough$Front" "saves" "[I") (List.mem_of_getElem? (i := 6) rfl)) (fun _ h9 => h9) rfl dX1_bring_142 ?_
                refine lv_iload hx hb dX1_bring_145 (lv_at hl 0 rfl) ?_
                refine lv_aload_n hx hb dX1_bring_147 rfl (lv_at hl 2 rfl) ?_
                refine va_get (D := (dC, dI)) (ci := 1) (v := .ref (kA κ 28)) (C := RX1) (T := TX1) (N := 7) hx hb hts hin1 hown hK hP 27 rfl rfl 5 (Nat.le_of_ble_eq_true rfl) (ho (.fieldLink RX1 19 "NearEnough$Front" "saves" "[I") (List.mem_of_getElem? (i := 6) rfl)) (fun _ h9 => h9) rfl dX1_bring_148 ?_
                refine lv_iload hx hb dX1_bring_151 (lv_at hl 1 rfl) ?_
                refine lv_iconst (v := 1) hx hb dX1_bring_153 rg_6 ?_
                refine lv_iadd hx hb dX1_bring_154 ?_
                refine lv_topi (fun z13_ ez13_ => ?_)
                have tz13_ : z13_.toInt = s66_.toInt + 1 := ti_add ez13_ rfl rg_18 o1 o2
                refine lv_aload_n hx hb dX1_bring_155 rfl (lv_at hl 2 rfl) ?_
                have bφ_102 : 0 ≤ (φ.1 2).toInt ∧ (φ.1 2).toInt ≤ 4096 := hF
                refine va_get (D := (dC, dI)) (ci := 1) (v := .int (φ.1 2)) (C := RX1) (T := TX1) (N := 7) hx hb hts hin1 hown hK hP 27 rfl rfl 6 (Nat.le_of_ble_eq_true rfl) (ho (.fieldLink RX1 23 "NearEnough$Front" "count" "I") (List.mem_of_getElem? (i := 0) rfl)) (fun _ h9 => h9) rfl dX1_bring_156 ?_
                refine lv_iload hx hb dX1_bring_159 (lv_at hl 0 rfl) ?_
                refine lv_isub hx hb dX1_bring_161 ?_
                refine lv_topi (fun z14_ ez14_ => ?_)
                have tz14_ : z14_.toInt = (φ.1 2).toInt - v7_.toInt := ti_sub ez14_ rfl rfl o7 o8
                have o14 : 0 ≤ z13_.toInt := by omega
                have o15 : 0 ≤ z14_.toInt := by omega
                have o16 : v7_.toInt + z14_.toInt ≤ ((4096 : Nat) : Int) := by omega
                have o17 : z13_.toInt + z14_.toInt ≤ ((4096 : Nat) : Int) := by omega
                refine va_copyi (ty := .int) hx hb (hml.trans hl.1.symm) hown (ho (.methodLink RX1 73 arraycopyName) (List.mem_of_getElem? (i := 2) rfl)) (ho (.native arraycopyName) (List.mem_of_getElem? (i := 3) rfl)) (ho (.static arraycopyName) (List.mem_of_getElem? (i := 4) rfl)) (ho (.initialized "java/lang/System") (List.mem_of_getElem? (i := 5) rfl)) hK hP hD hS 29 29 22 22 rfl rfl rfl rfl rfl (nneg o9) (nneg o14) (nneg o15) (clsum o9 o15 o16) (clsum o14 o15 o17) (fun _ _ => rfl) (Nat.le_of_ble_eq_true rfl) (Nat.le_of_ble_eq_true rfl) dX1_bring_162 (fun H locs hP hD hS => ?_)
                obtain ⟨f15_, ef15_⟩ : ∃ f9 : Nat → Int32, f9 = va_cpy ((sJ φ 3 f12_).2.1 4) ((sJ φ 3 f12_).2.1 4) (Int32.toNatClampNeg v7_) (Int32.toNatClampNeg z13_) (Int32.toNatClampNeg z14_) := ⟨_, rfl⟩
                have hP : va_P (dC, dI) vwCl (xW κ (FR κ a (sJ (sA φ 4 f15_) 3 f12_) ++ Y) σ) H := by rw [ef15_]; exact hP
                have hD : va_D A (xW κ (FR κ a (sJ (sA φ 4 f15_) 3 f12_) ++ Y) σ) := by rw [ef15_]; exact hD
                refine lv_aload_n hx hb dX1_bring_165 rfl (lv_at hl 2 rfl) ?_
                refine va_get (D := (dC, dI)) (ci := 1) (v := .ref (kA κ 27)) (C := RX1) (T := TX1) (N := 7) hx hb hts hin1 hown hK hP 27 rfl rfl 4 (Nat.le_of_ble_eq_true rfl) (ho (.fieldLink RX1 15 "NearEnough$Front" "offs" "[J") (List.mem_of_getElem? (i := 1) rfl)) (fun _ h9 => h9) rfl dX1_bring_166 ?_
                refine lv_iload hx hb dX1_bring_169 (lv_at hl 1 rfl) ?_
                refine lv_lload_n hx hb dX1_bring_171 rfl (lv_at hl 3 rfl) ?_
                have o18 : 0 ≤ s66_.toInt := by omega
                have o19 : s66_.toInt < ((4096 : Nat) : Int) := by omega
                refine va_last hx hb hK hP hD hS 28 21 rfl rfl (ti_inx o18 o19) dX1_bring_172 (fun H locs hP hD hS => ?_)
                obtain ⟨f16_, ef16_⟩ : ∃ f9 : Nat → Int64, f9 = vp_updL ((sJ (sA φ 4 f15_) 3 f12_).2.2.1 3) (Int32.toNatClampNeg s66_) x := ⟨_, rfl⟩
                have hP : va_P (dC, dI) vwCl (xW κ (FR κ a (sJ (sA φ 4 f15_) 3 f16_) ++ Y) σ) H := by rw [ef16_]; exact hP
                have hD : va_D A (xW κ (FR κ a (sJ (sA φ 4 f15_) 3 f16_) ++ Y) σ) := by rw [ef16_]; exact hD
                refine lv_aload_n hx hb dX1_bring_173 rfl (lv_at hl 2 rfl) ?_
                refine va_get (D := (dC, dI)) (ci := 1) (v := .ref (kA κ 28)) (C := RX1) (T := TX1) (N := 7) hx hb hts hin1 hown hK hP 27 rfl rfl 5 (Nat.le_of_ble_eq_true rfl) (ho (.fieldLink RX1 19 "NearEnough$Front" "saves" "[I") (List.mem_of_getElem? (i := 6) rfl)) (fun _ h9 => h9) rfl dX1_bring_174 ?_
                refine lv_iload hx hb dX1_bring_177 (lv_at hl 1 rfl) ?_
                refine lv_iload_n hx hb dX1_bring_179 rfl (lv_at hl 4 rfl) ?_
                refine va_iast hx hb hK hP hD hS 29 22 rfl rfl (ti_inx o18 o19) dX1_bring_180 (fun H locs hP hD hS => ?_)
                obtain ⟨f17_, ef17_⟩ : ∃ f9 : Nat → Int32, f9 = upd ((sJ (sA φ 4 f15_) 3 f16_).2.1 4) (Int32.toNatClampNeg s66_) y := ⟨_, rfl⟩
                have hP : va_P (dC, dI) vwCl (xW κ (FR κ a (sJ (sA φ 4 f17_) 3 f16_) ++ Y) σ) H := by rw [ef17_]; exact hP
                have hD : va_D A (xW κ (FR κ a (sJ (sA φ 4 f17_) 3 f16_) ++ Y) σ) := by rw [ef17_]; exact hD
                refine lv_aload_n hx hb dX1_bring_181 rfl (lv_at hl 2 rfl) ?_
                refine lv_iload hx hb dX1_bring_182 (lv_at hl 1 rfl) ?_
                refine lv_iconst (v := 1) hx hb dX1_bring_184 rg_6 ?_
                refine lv_iadd hx hb dX1_bring_185 ?_
                refine lv_topi (fun z18_ ez18_ => ?_)
                have tz18_ : z18_.toInt = s66_.toInt + 1 := ti_add ez18_ rfl rg_18 o1 o2
                refine lv_aload_n hx hb dX1_bring_186 rfl (lv_at hl 2 rfl) ?_
                have bφ_102 : 0 ≤ (φ.1 2).toInt ∧ (φ.1 2).toInt ≤ 4096 := hF
                refine va_get (D := (dC, dI)) (ci := 1) (v := .int (φ.1 2)) (C := RX1) (T := TX1) (N := 7) hx hb hts hin1 hown hK hP 27 rfl rfl 6 (Nat.le_of_ble_eq_true rfl) (ho (.fieldLink RX1 23 "NearEnough$Front" "count" "I") (List.mem_of_getElem? (i := 0) rfl)) (fun _ h9 => h9) rfl dX1_bring_187 ?_
                refine lv_iadd hx hb dX1_bring_190 ?_
                refine lv_topi (fun z19_ ez19_ => ?_)
                have o20 : -2147483648 ≤ z18_.toInt + (φ.1 2).toInt := by omega
                have o21 : z18_.toInt + (φ.1 2).toInt ≤ 2147483647 := by omega
                have tz19_ : z19_.toInt = z18_.toInt + (φ.1 2).toInt := ti_add ez19_ rfl rfl o20 o21
                refine lv_iload hx hb dX1_bring_191 (lv_at hl 0 rfl) ?_
                refine lv_isub hx hb dX1_bring_193 ?_
                refine lv_topi (fun z20_ ez20_ => ?_)
                have o22 : -2147483648 ≤ z19_.toInt - v7_.toInt := by omega
                have o23 : z19_.toInt - v7_.toInt ≤ 2147483647 := by omega
                have tz20_ : z20_.toInt = z19_.toInt - v7_.toInt := ti_sub ez20_ rfl rfl o22 o23
                refine va_put (D := (dC, dI)) (ci := 1) (v := .int z20_) (ty := tyX1 6) (C := RX1) (T := TX1) (N := 7) hx hb hts hin1 tyX1 tyX1_ok nmX1 hown hK hP hD hS 27 rfl rfl 6 (Nat.le_of_ble_eq_true rfl) (ho (.fieldLink RX1 23 "NearEnough$Front" "count" "I") (List.mem_of_getElem? (i := 0) rfl)) (fun _ h9 => h9) rfl (tyX1_ok 6 (Nat.le_of_ble_eq_true rfl)) rfl rfl (Nat.le_of_ble_eq_true rfl) dX1_bring_194 (fun H locs hP hD hS => ?_)
                have hP : va_P (dC, dI) vwCl (xW κ (FR κ a (sJ (sA (sI φ 2 z20_) 4 f17_) 3 f16_) ++ Y) σ) H := hP
                have hD : va_D A (xW κ (FR κ a (sJ (sA (sI φ 2 z20_) 4 f17_) 3 f16_) ++ Y) σ) := hD
                have o24 : 0 ≤ z20_.toInt := by omega
                have o25 : z20_.toInt ≤ 4096 := by omega
                rw [hQ]
                exact W.vret hx hb hr (fun t ht hW => ⟨⟨((sJ (sA (sI φ 2 z20_) 4 f17_) 3 f16_), σ), rfl, ⟨hI, ⟨o24, o25⟩, trivial⟩, wEn_of hP (hK.sub [] rfl) hD ht hW⟩, hS.F ht⟩) hS.2.2 dX1_bring_197
              · have tc9_ := (show 4096 < z8_.toInt from ti_nle rfl rx_5cf37c826d c9_)
                rw [hQ]
                exact W.vret hx hb hr (fun t ht hW => ⟨⟨(φ, σ), rfl, ⟨hI, hF, trivial⟩, wEn_of hP (hK.sub [] rfl) hD ht hW⟩, hS.F ht⟩) hS.2.2 dX1_bring_116
            · have tc5_ := (show v7_.toInt < (φ.1 2).toInt from ti_nle rfl rfl c5_)
              refine lv_aload_n hx hb dX1_bring_81 rfl (lv_at hl 2 rfl) ?_
              refine va_get (D := (dC, dI)) (ci := 1) (v := .ref (kA κ 28)) (C := RX1) (T := TX1) (N := 7) hx hb hts hin1 hown hK hP 27 rfl rfl 5 (Nat.le_of_ble_eq_true rfl) (ho (.fieldLink RX1 19 "NearEnough$Front" "saves" "[I") (List.mem_of_getElem? (i := 6) rfl)) (fun _ h9 => h9) rfl dX1_bring_82 ?_
              refine lv_iload hx hb dX1_bring_85 (lv_at hl 0 rfl) ?_
              have o26 : 0 ≤ v7_.toInt := by omega
              have o27 : v7_.toInt < ((4096 : Nat) : Int) := by omega
              refine va_iald hx hb hK hP 29 22 rfl rfl (ti_inx o26 o27) dX1_bring_87 ?_
              refine lv_topi (fun z21_ ez21_ => ?_)
              refine lv_iload_n hx hb dX1_bring_88 rfl (lv_at hl 4 rfl) ?_
              refine lv_icmp_gt (tgt := 98) hx hb dX1_bring_89 rfl (fun c22_ => ?_) (fun c22_ => ?_)
              · have tc22_ := (show y.toInt < z21_.toInt from ti_lt rfl rfl c22_)
                refine lv_iload hx hb dX1_bring_98 (lv_at hl 1 rfl) ?_
                refine lv_iconst (v := 1) hx hb dX1_bring_100 rg_6 ?_
                refine lv_iadd hx hb dX1_bring_101 ?_
                refine lv_topi (fun z23_ ez23_ => ?_)
                have o28 : -2147483648 ≤ s66_.toInt + 1 := by omega
                have o29 : s66_.toInt + 1 ≤ 2147483647 := by omega
                have tz23_ : z23_.toInt = s66_.toInt + 1 := ti_add ez23_ rfl rg_18 o28 o29
                refine lv_aload_n hx hb dX1_bring_102 rfl (lv_at hl 2 rfl) ?_
                have bφ_102 : 0 ≤ (φ.1 2).toInt ∧ (φ.1 2).toInt ≤ 4096 := hF
                refine va_get (D := (dC, dI)) (ci := 1) (v := .int (φ.1 2)) (C := RX1) (T := TX1) (N := 7) hx hb hts hin1 hown hK hP 27 rfl rfl 6 (Nat.le_of_ble_eq_true rfl) (ho (.fieldLink RX1 23 "NearEnough$Front" "count" "I") (List.mem_of_getElem? (i := 0) rfl)) (fun _ h9 => h9) rfl dX1_bring_103 ?_
                refine lv_iadd hx hb dX1_bring_106 ?_
                refine lv_topi (fun z24_ ez24_ => ?_)
                have o30 : -2147483648 ≤ z23_.toInt + (φ.1 2).toInt := by omega
                have o31 : z23_.toInt + (φ.1 2).toInt ≤ 2147483647 := by omega
                have tz24_ : z24_.toInt = z23_.toInt + (φ.1 2).toInt := ti_add ez24_ rfl rfl o30 o31
                refine lv_iload hx hb dX1_bring_107 (lv_at hl 0 rfl) ?_
                refine lv_isub hx hb dX1_bring_109 ?_
                refine lv_topi (fun z25_ ez25_ => ?_)
                have o32 : -2147483648 ≤ z24_.toInt - v7_.toInt := by omega
                have o33 : z24_.toInt - v7_.toInt ≤ 2147483647 := by omega
                have tz25_ : z25_.toInt = z24_.toInt - v7_.toInt := ti_sub ez25_ rfl rfl o32 o33
                refine lv_sipush (v := 4096) hx hb dX1_bring_110 rx_5b0cde361b ?_
                refine lv_icmp_le (tgt := 117) hx hb dX1_bring_113 rfl (fun c26_ => ?_) (fun c26_ => ?_)
                · have tc26_ := (show z25_.toInt ≤ 4096 from ti_le rfl rx_5cf37c826d c26_)
                  refine lv_aload_n hx hb dX1_bring_117 rfl (lv_at hl 2 rfl) ?_
                  refine va_get (D := (dC, dI)) (ci := 1) (v := .ref (kA κ 27)) (C := RX1) (T := TX1) (N := 7) hx hb hts hin1 hown hK hP 27 rfl rfl 4 (Nat.le_of_ble_eq_true rfl) (ho (.fieldLink RX1 15 "NearEnough$Front" "offs" "[J") (List.mem_of_getElem? (i := 1) rfl)) (fun _ h9 => h9) rfl dX1_bring_118 ?_
                  refine lv_iload hx hb dX1_bring_121 (lv_at hl 0 rfl) ?_
                  refine lv_aload_n hx hb dX1_bring_123 rfl (lv_at hl 2 rfl) ?_
                  refine va_get (D := (dC, dI)) (ci := 1) (v := .ref (kA κ 27)) (C := RX1) (T := TX1) (N := 7) hx hb hts hin1 hown hK hP 27 rfl rfl 4 (Nat.le_of_ble_eq_true rfl) (ho (.fieldLink RX1 15 "NearEnough$Front" "offs" "[J") (List.mem_of_getElem? (i := 1) rfl)) (fun _ h9 => h9) rfl dX1_bring_124 ?_
                  refine lv_iload hx hb dX1_bring_127 (lv_at hl 1 rfl) ?_
                  refine lv_iconst (v := 1) hx hb dX1_bring_129 rg_6 ?_
                  refine lv_iadd hx hb dX1_bring_130 ?_
                  refine lv_topi (fun z27_ ez27_ => ?_)
                  have tz27_ : z27_.toInt = s66_.toInt + 1 := ti_add ez27_ rfl rg_18 o28 o29
                  refine lv_aload_n hx hb dX1_bring_131 rfl (lv_at hl 2 rfl) ?_
                  have bφ_102 : 0 ≤ (φ.1 2).toInt ∧ (φ.1 2).toInt ≤ 4096 := hF
                  refine va_get (D := (dC, dI)) (ci := 1) (v := .int (φ.1 2)) (C := RX1) (T := TX1) (N := 7) hx hb hts hin1 hown hK hP 27 rfl rfl 6 (Nat.le_of_ble_eq_true rfl) (ho (.fieldLink RX1 23 "NearEnough$Front" "count" "I") (List.mem_of_getElem? (i := 0) rfl)) (fun _ h9 => h9) rfl dX1_bring_132 ?_
                  refine lv_iload hx hb dX1_bring_135 (lv_at hl 0 rfl) ?_
                  refine lv_isub hx hb dX1_bring_137 ?_
                  refine lv_topi (fun z28_ ez28_ => ?_)
                  have o34 : -2147483648 ≤ (φ.1 2).toInt - v7_.toInt := by omega
                  have o35 : (φ.1 2).toInt - v7_.toInt ≤ 2147483647 := by omega
                  have tz28_ : z28_.toInt = (φ.1 2).toInt - v7_.toInt := ti_sub ez28_ rfl rfl o34 o35
                  have o36 : 0 ≤ z27_.toInt := by omega
                  have o37 : 0 ≤ z28_.toInt := by omega
                  have o38 : v7_.toInt + z28_.toInt ≤ ((4096 : Nat) : Int) := by omega
                  have o39 : z27_.toInt + z28_.toInt ≤ ((4096 : Nat) : Int) := by omega
                  refine va_copyl (ty := .long) hx hb (hml.trans hl.1.symm) hown (ho (.methodLink RX1 73 arraycopyName) (List.mem_of_getElem? (i := 2) rfl)) (ho (.native arraycopyName) (List.mem_of_getElem? (i := 3) rfl)) (ho (.static arraycopyName) (List.mem_of_getElem? (i := 4) rfl)) (ho (.initialized "java/lang/System") (List.mem_of_getElem? (i := 5) rfl)) hK hP hD hS 28 28 21 21 rfl rfl rfl rfl rfl (nneg o26) (nneg o36) (nneg o37) (clsum o26 o37 o38) (clsum o36 o37 o39) (fun _ _ => rfl) (Nat.le_of_ble_eq_true rfl) (Nat.le_of_ble_eq_true rfl) dX1_bring_138 (fun H locs hP hD hS => ?_)
                  obtain ⟨f29_, ef29_⟩ : ∃ f9 : Nat → Int64, f9 = va_cpy (φ.2.2.1 3) (φ.2.2.1 3) (Int32.toNatClampNeg v7_) (Int32.toNatClampNeg z27_) (Int32.toNatClampNeg z28_) := ⟨_, rfl⟩
                  have hP : va_P (dC, dI) vwCl (xW κ (FR κ a (sJ φ 3 f29_) ++ Y) σ) H := by rw [ef29_]; exact hP
                  have hD : va_D A (xW κ (FR κ a (sJ φ 3 f29_) ++ Y) σ) := by rw [ef29_]; exact hD
                  refine lv_aload_n hx hb dX1_bring_141 rfl (lv_at hl 2 rfl) ?_
                  refine va_get (D := (dC, dI)) (ci := 1) (v := .ref (kA κ 28)) (C := RX1) (T := TX1) (N := 7) hx hb hts hin1 hown hK hP 27 rfl rfl 5 (Nat.le_of_ble_eq_true rfl) (ho (.fieldLink RX1 19 "NearEnough$Front" "saves" "[I") (List.mem_of_getElem? (i := 6) rfl)) (fun _ h9 => h9) rfl dX1_bring_142 ?_
                  refine lv_iload hx hb dX1_bring_145 (lv_at hl 0 rfl) ?_
                  refine lv_aload_n hx hb dX1_bring_147 rfl (lv_at hl 2 rfl) ?_
                  refine va_get (D := (dC, dI)) (ci := 1) (v := .ref (kA κ 28)) (C := RX1) (T := TX1) (N := 7) hx hb hts hin1 hown hK hP 27 rfl rfl 5 (Nat.le_of_ble_eq_true rfl) (ho (.fieldLink RX1 19 "NearEnough$Front" "saves" "[I") (List.mem_of_getElem? (i := 6) rfl)) (fun _ h9 => h9) rfl dX1_bring_148 ?_
                  refine lv_iload hx hb dX1_bring_151 (lv_at hl 1 rfl) ?_
                  refine lv_iconst (v := 1) hx hb dX1_bring_153 rg_6 ?_
                  refine lv_iadd hx hb dX1_bring_154 ?_
                  refine lv_topi (fun z30_ ez30_ => ?_)
                  have tz30_ : z30_.toInt = s66_.toInt + 1 := ti_add ez30_ rfl rg_18 o28 o29
                  refine lv_aload_n hx hb dX1_bring_155 rfl (lv_at hl 2 rfl) ?_
                  have bφ_102 : 0 ≤ (φ.1 2).toInt ∧ (φ.1 2).toInt ≤ 4096 := hF
                  refine va_get (D := (dC, dI)) (ci := 1) (v := .int (φ.1 2)) (C := RX1) (T := TX1) (N := 7) hx hb hts hin1 hown hK hP 27 rfl rfl 6 (Nat.le_of_ble_eq_true rfl) (ho (.fieldLink RX1 23 "NearEnough$Front" "count" "I") (List.mem_of_getElem? (i := 0) rfl)) (fun _ h9 => h9) rfl dX1_bring_156 ?_
                  refine lv_iload hx hb dX1_bring_159 (lv_at hl 0 rfl) ?_
                  refine lv_isub hx hb dX1_bring_161 ?_
                  refine lv_topi (fun z31_ ez31_ => ?_)
                  have tz31_ : z31_.toInt = (φ.1 2).toInt - v7_.toInt := ti_sub ez31_ rfl rfl o34 o35
                  have o40 : 0 ≤ z30_.toInt := by omega
                  have o41 : 0 ≤ z31_.toInt := by omega
                  have o42 : v7_.toInt + z31_.toInt ≤ ((4096 : Nat) : Int) := by omega
                  have o43 : z30_.toInt + z31_.toInt ≤ ((4096 : Nat) : Int) := by omega
                  refine va_copyi (ty := .int) hx hb (hml.trans hl.1.symm) hown (ho (.methodLink RX1 73 arraycopyName) (List.mem_of_getElem? (i := 2) rfl)) (ho (.native arraycopyName) (List.mem_of_getElem? (i := 3) rfl)) (ho (.static arraycopyName) (List.mem_of_getElem? (i := 4) rfl)) (ho (.initialized "java/lang/System") (List.mem_of_getElem? (i := 5) rfl)) hK hP hD hS 29 29 22 22 rfl rfl rfl rfl rfl (nneg o26) (nneg o40) (nneg o41) (clsum o26 o41 o42) (clsum o40 o41 o43) (fun _ _ => rfl) (Nat.le_of_ble_eq_true rfl) (Nat.le_of_ble_eq_true rfl) dX1_bring_162 (fun H locs hP hD hS => ?_)
                  obtain ⟨f32_, ef32_⟩ : ∃ f9 : Nat → Int32, f9 = va_cpy ((sJ φ 3 f29_).2.1 4) ((sJ φ 3 f29_).2.1 4) (Int32.toNatClampNeg v7_) (Int32.toNatClampNeg z30_) (Int32.toNatClampNeg z31_) := ⟨_, rfl⟩
                  have hP : va_P (dC, dI) vwCl (xW κ (FR κ a (sJ (sA φ 4 f32_) 3 f29_) ++ Y) σ) H := by rw [ef32_]; exact hP
                  have hD : va_D A (xW κ (FR κ a (sJ (sA φ 4 f32_) 3 f29_) ++ Y) σ) := by rw [ef32_]; exact hD
                  refine lv_aload_n hx hb dX1_bring_165 rfl (lv_at hl 2 rfl) ?_
                  refine va_get (D := (dC, dI)) (ci := 1) (v := .ref (kA κ 27)) (C := RX1) (T := TX1) (N := 7) hx hb hts hin1 hown hK hP 27 rfl rfl 4 (Nat.le_of_ble_eq_true rfl) (ho (.fieldLink RX1 15 "NearEnough$Front" "offs" "[J") (List.mem_of_getElem? (i := 1) rfl)) (fun _ h9 => h9) rfl dX1_bring_166 ?_
                  refine lv_iload hx hb dX1_bring_169 (lv_at hl 1 rfl) ?_
                  refine lv_lload_n hx hb dX1_bring_171 rfl (lv_at hl 3 rfl) ?_
                  have o44 : 0 ≤ s66_.toInt := by omega
                  have o45 : s66_.toInt < ((4096 : Nat) : Int) := by omega
                  refine va_last hx hb hK hP hD hS 28 21 rfl rfl (ti_inx o44 o45) dX1_bring_172 (fun H locs hP hD hS => ?_)
                  obtain ⟨f33_, ef33_⟩ : ∃ f9 : Nat → Int64, f9 = vp_updL ((sJ (sA φ 4 f32_) 3 f29_).2.2.1 3) (Int32.toNatClampNeg s66_) x := ⟨_, rfl⟩
                  have hP : va_P (dC, dI) vwCl (xW κ (FR κ a (sJ (sA φ 4 f32_) 3 f33_) ++ Y) σ) H := by rw [ef33_]; exact hP
                  have hD : va_D A (xW κ (FR κ a (sJ (sA φ 4 f32_) 3 f33_) ++ Y) σ) := by rw [ef33_]; exact hD
                  refine lv_aload_n hx hb dX1_bring_173 rfl (lv_at hl 2 rfl) ?_
                  refine va_get (D := (dC, dI)) (ci := 1) (v := .ref (kA κ 28)) (C := RX1) (T := TX1) (N := 7) hx hb hts hin1 hown hK hP 27 rfl rfl 5 (Nat.le_of_ble_eq_true rfl) (ho (.fieldLink RX1 19 "NearEnough$Front" "saves" "[I") (List.mem_of_getElem? (i := 6) rfl)) (fun _ h9 => h9) rfl dX1_bring_174 ?_
                  refine lv_iload hx hb dX1_bring_177 (lv_at hl 1 rfl) ?_
                  refine lv_iload_n hx hb dX1_bring_179 rfl (lv_at hl 4 rfl) ?_
                  refine va_iast hx hb hK hP hD hS 29 22 rfl rfl (ti_inx o44 o45) dX1_bring_180 (fun H locs hP hD hS => ?_)
                  obtain ⟨f34_, ef34_⟩ : ∃ f9 : Nat → Int32, f9 = upd ((sJ (sA φ 4 f32_) 3 f33_).2.1 4) (Int32.toNatClampNeg s66_) y := ⟨_, rfl⟩
                  have hP : va_P (dC, dI) vwCl (xW κ (FR κ a (sJ (sA φ 4 f34_) 3 f33_) ++ Y) σ) H := by rw [ef34_]; exact hP
                  have hD : va_D A (xW κ (FR κ a (sJ (sA φ 4 f34_) 3 f33_) ++ Y) σ) := by rw [ef34_]; exact hD
                  refine lv_aload_n hx hb dX1_bring_181 rfl (lv_at hl 2 rfl) ?_
                  refine lv_iload hx hb dX1_bring_182 (lv_at hl 1 rfl) ?_
                  refine lv_iconst (v := 1) hx hb dX1_bring_184 rg_6 ?_
                  refine lv_iadd hx hb dX1_bring_185 ?_
                  refine lv_topi (fun z35_ ez35_ => ?_)
                  have tz35_ : z35_.toInt = s66_.toInt + 1 := ti_add ez35_ rfl rg_18 o28 o29
                  refine lv_aload_n hx hb dX1_bring_186 rfl (lv_at hl 2 rfl) ?_
                  have bφ_102 : 0 ≤ (φ.1 2).toInt ∧ (φ.1 2).toInt ≤ 4096 := hF
                  refine va_get (D := (dC, dI)) (ci := 1) (v := .int (φ.1 2)) (C := RX1) (T := TX1) (N := 7) hx hb hts hin1 hown hK hP 27 rfl rfl 6 (Nat.le_of_ble_eq_true rfl) (ho (.fieldLink RX1 23 "NearEnough$Front" "count" "I") (List.mem_of_getElem? (i := 0) rfl)) (fun _ h9 => h9) rfl dX1_bring_187 ?_
                  refine lv_iadd hx hb dX1_bring_190 ?_
                  refine lv_topi (fun z36_ ez36_ => ?_)
                  have o46 : -2147483648 ≤ z35_.toInt + (φ.1 2).toInt := by omega
                  have o47 : z35_.toInt + (φ.1 2).toInt ≤ 2147483647 := by omega
                  have tz36_ : z36_.toInt = z35_.toInt + (φ.1 2).toInt := ti_add ez36_ rfl rfl o46 o47
                  refine lv_iload hx hb dX1_bring_191 (lv_at hl 0 rfl) ?_
                  refine lv_isub hx hb dX1_bring_193 ?_
                  refine lv_topi (fun z37_ ez37_ => ?_)
                  have o48 : -2147483648 ≤ z36_.toInt - v7_.toInt := by omega
                  have o49 : z36_.toInt - v7_.toInt ≤ 2147483647 := by omega
                  have tz37_ : z37_.toInt = z36_.toInt - v7_.toInt := ti_sub ez37_ rfl rfl o48 o49
                  refine va_put (D := (dC, dI)) (ci := 1) (v := .int z37_) (ty := tyX1 6) (C := RX1) (T := TX1) (N := 7) hx hb hts hin1 tyX1 tyX1_ok nmX1 hown hK hP hD hS 27 rfl rfl 6 (Nat.le_of_ble_eq_true rfl) (ho (.fieldLink RX1 23 "NearEnough$Front" "count" "I") (List.mem_of_getElem? (i := 0) rfl)) (fun _ h9 => h9) rfl (tyX1_ok 6 (Nat.le_of_ble_eq_true rfl)) rfl rfl (Nat.le_of_ble_eq_true rfl) dX1_bring_194 (fun H locs hP hD hS => ?_)
                  have hP : va_P (dC, dI) vwCl (xW κ (FR κ a (sJ (sA (sI φ 2 z37_) 4 f34_) 3 f33_) ++ Y) σ) H := hP
                  have hD : va_D A (xW κ (FR κ a (sJ (sA (sI φ 2 z37_) 4 f34_) 3 f33_) ++ Y) σ) := hD
                  have o50 : 0 ≤ z37_.toInt := by omega
                  have o51 : z37_.toInt ≤ 4096 := by omega
                  rw [hQ]
                  exact W.vret hx hb hr (fun t ht hW => ⟨⟨((sJ (sA (sI φ 2 z37_) 4 f34_) 3 f33_), σ), rfl, ⟨hI, ⟨o50, o51⟩, trivial⟩, wEn_of hP (hK.sub [] rfl) hD ht hW⟩, hS.F ht⟩) hS.2.2 dX1_bring_197
                · have tc26_ := (show 4096 < z25_.toInt from ti_nle rfl rx_5cf37c826d c26_)
                  rw [hQ]
                  exact W.vret hx hb hr (fun t ht hW => ⟨⟨(φ, σ), rfl, ⟨hI, hF, trivial⟩, wEn_of hP (hK.sub [] rfl) hD ht hW⟩, hS.F ht⟩) hS.2.2 dX1_bring_116
              · have tc22_ := (show z21_.toInt ≤ y.toInt from ti_nlt rfl rfl c22_)
                obtain ⟨z38_, ez38_⟩ : ∃ y : Int32, y = v7_ + 1 := ⟨_, rfl⟩
                have o52 : -2147483648 ≤ v7_.toInt + 1 := by omega
                have o53 : v7_.toInt + 1 ≤ 2147483647 := by omega
                have tz38_ := ti_add ez38_ rfl rg_18 o52 o53
                refine lv_iinc (v := z38_) (lv' := [(7, .int z38_), (6, .int s66_), (0, .ref a), (1, .long x), (3, .int y)]) hx hb dX1_bring_92 hl (k := 0) rfl (iincp ez38_ rg_6) (Nat.le_of_ble_eq_true rfl) rfl (fun ls hl => ?_)
                refine lv_goto (tgt := 72) hx hb dX1_bring_95 rfl ?_
                have o54 : (4096 - z38_.toInt).toNat < n72_ := by omega
                have o55 : 0 ≤ z38_.toInt := by omega
                have o56 : z1_.toInt ≤ z38_.toInt := by omega
                have o57 : z38_.toInt ≤ (φ.1 2).toInt := by omega
                exact ih72_  z38_ _ _ _ o54 ⟨o55, o56, o57⟩ hP hD hS (lv_sub hl [0, 1, 2, 3, 4] rfl)
        have o58 : 0 ≤ z1_.toInt := by omega
        have o59 : z1_.toInt ≤ z1_.toInt := by omega
        have o60 : z1_.toInt ≤ (φ.1 2).toInt := by omega
        exact pt72_ _  z1_ _ _ _ (Nat.lt_succ_self _) ⟨o58, o59, o60⟩ hP hD hS (lv_sub hl [0, 1, 3, 4, 5] rfl)
      refine lv_iload hx hb dX1_bring_52 (lv_at hl 0 rfl) ?_
      refine lv_if_eq (tgt := 64) hx hb dX1_bring_54 rfl (fun c39_ => ?_) (fun c39_ => ?_)
      · have tc39_ := (show s50_.toInt = 0 from ti_eq rfl rg_11 c39_)
        refine lv_iload hx hb dX1_bring_64 (lv_at hl 1 rfl) ?_
        have o61 : 0 ≤ z1_.toInt := by omega
        have o62 : z1_.toInt ≤ z1_.toInt := by omega
        exact pt66_  z1_ _ _ _ ⟨o61, o62⟩ hP hD hS (lv_sub hl [1, 2, 3, 4] rfl)
      · have tc39_ := (show s50_.toInt ≠ 0 from ti_ne rfl rg_11 c39_)
        refine lv_iload hx hb dX1_bring_57 (lv_at hl 1 rfl) ?_
        refine lv_iconst (v := 1) hx hb dX1_bring_59 rg_6 ?_
        refine lv_isub hx hb dX1_bring_60 ?_
        refine lv_topi (fun z40_ ez40_ => ?_)
        have o63 : -2147483648 ≤ z1_.toInt - 1 := by omega
        have o64 : z1_.toInt - 1 ≤ 2147483647 := by omega
        have tz40_ : z40_.toInt = z1_.toInt - 1 := ti_sub ez40_ rfl rg_18 o63 o64
        refine lv_goto (tgt := 66) hx hb dX1_bring_61 rfl ?_
        have o65 : 0 ≤ z40_.toInt := by omega
        have o66 : z40_.toInt ≤ z1_.toInt := by omega
        exact pt66_  z40_ _ _ _ ⟨o65, o66⟩ hP hD hS (lv_sub hl [1, 2, 3, 4] rfl)
    refine lv_iload hx hb dX1_bring_26 (lv_at hl 0 rfl) ?_
    refine lv_if_le (tgt := 49) hx hb dX1_bring_28 rfl (fun c41_ => ?_) (fun c41_ => ?_)
    · have tc41_ := (show z1_.toInt ≤ 0 from ti_le rfl rg_11 c41_)
      refine lv_iconst (v := 0) hx hb dX1_bring_49 rg_0 ?_
      have kk42_ : (0 : Int32).toInt = 0 := rg_11
      have o67 : (0 : Int32).toInt = 0 ∨ ((0 : Int32).toInt = 1 ∧ 0 < z1_.toInt) := by omega
      exact pt50_  0 _ _ _ o67 hP hD hS (lv_sub hl [0, 1, 2, 3] rfl)
    · have tc41_ := (show 0 < z1_.toInt from ti_nle rfl rg_11 c41_)
      refine lv_aload_n hx hb dX1_bring_31 rfl (lv_at hl 1 rfl) ?_
      refine va_get (D := (dC, dI)) (ci := 1) (v := .ref (kA κ 27)) (C := RX1) (T := TX1) (N := 7) hx hb hts hin1 hown hK hP 27 rfl rfl 4 (Nat.le_of_ble_eq_true rfl) (ho (.fieldLink RX1 15 "NearEnough$Front" "offs" "[J") (List.mem_of_getElem? (i := 1) rfl)) (fun _ h9 => h9) rfl dX1_bring_32 ?_
      refine lv_iload hx hb dX1_bring_35 (lv_at hl 0 rfl) ?_
      refine lv_iconst (v := 1) hx hb dX1_bring_37 rg_6 ?_
      refine lv_isub hx hb dX1_bring_38 ?_
      refine lv_topi (fun z43_ ez43_ => ?_)
      have o68 : -2147483648 ≤ z1_.toInt - 1 := by omega
      have o69 : z1_.toInt - 1 ≤ 2147483647 := by omega
      have tz43_ : z43_.toInt = z1_.toInt - 1 := ti_sub ez43_ rfl rg_18 o68 o69
      have o70 : 0 ≤ z43_.toInt := by omega
      have o71 : z43_.toInt < ((4096 : Nat) : Int) := by omega
      refine va_lald hx hb hK hP 28 21 rfl rfl (ti_inx o70 o71) dX1_bring_39 ?_
      refine lv_topl (fun y44_ ey44_ => ?_)
      refine lv_lload_n hx hb dX1_bring_40 rfl (lv_at hl 2 rfl) ?_
      refine W.lcmp hx hb dX1_bring_41 ?_
      refine lv_topi (fun z45_ ez45_ => ?_)
      refine lv_if_ne (tgt := 49) hx hb dX1_bring_42 rfl (fun c46_ => ?_) (fun c46_ => ?_)
      · have tc46_ := (show z45_.toInt ≠ 0 from ti_ne rfl rg_11 c46_)
        have lc46_ : ¬ y44_ = x := fun h => c46_ (by rw [ez45_]; exact (lg_cmp_eq y44_ x).mpr h)
        refine lv_iconst (v := 0) hx hb dX1_bring_49 rg_0 ?_
        have kk47_ : (0 : Int32).toInt = 0 := rg_11
        have o72 : (0 : Int32).toInt = 0 ∨ ((0 : Int32).toInt = 1 ∧ 0 < z1_.toInt) := by omega
        exact pt50_  0 _ _ _ o72 hP hD hS (lv_sub hl [0, 1, 2, 3] rfl)
      · have tc46_ := (show z45_.toInt = 0 from ti_eq rfl rg_11 c46_)
        have lc46_ : y44_ = x := (lg_cmp_eq y44_ x).mp (by rw [← ez45_]; exact c46_)
        refine lv_iconst (v := 1) hx hb dX1_bring_45 rg_6 ?_
        refine lv_goto (tgt := 50) hx hb dX1_bring_46 rfl ?_
        have kk48_ : (1 : Int32).toInt = 1 := rg_18
        have o73 : (1 : Int32).toInt = 0 ∨ ((1 : Int32).toInt = 1 ∧ 0 < z1_.toInt) := by omega
        exact pt50_  1 _ _ _ o73 hP hD hS (lv_sub hl [0, 1, 2, 3] rfl)
  · have tc4_ := (show 0 < z1_.toInt from ti_nle rfl rg_11 c4_)
    refine lv_aload_n hx hb dX1_bring_12 rfl (lv_at hl 1 rfl) ?_
    refine va_get (D := (dC, dI)) (ci := 1) (v := .ref (kA κ 28)) (C := RX1) (T := TX1) (N := 7) hx hb hts hin1 hown hK hP 27 rfl rfl 5 (Nat.le_of_ble_eq_true rfl) (ho (.fieldLink RX1 19 "NearEnough$Front" "saves" "[I") (List.mem_of_getElem? (i := 6) rfl)) (fun _ h9 => h9) rfl dX1_bring_13 ?_
    refine lv_iload hx hb dX1_bring_16 (lv_at hl 0 rfl) ?_
    refine lv_iconst (v := 1) hx hb dX1_bring_18 rg_6 ?_
    refine lv_isub hx hb dX1_bring_19 ?_
    refine lv_topi (fun z49_ ez49_ => ?_)
    have o74 : -2147483648 ≤ z1_.toInt - 1 := by omega
    have o75 : z1_.toInt - 1 ≤ 2147483647 := by omega
    have tz49_ : z49_.toInt = z1_.toInt - 1 := ti_sub ez49_ rfl rg_18 o74 o75
    have o76 : 0 ≤ z49_.toInt := by omega
    have o77 : z49_.toInt < ((4096 : Nat) : Int) := by omega
    refine va_iald hx hb hK hP 29 22 rfl rfl (ti_inx o76 o77) dX1_bring_20 ?_
    refine lv_topi (fun z50_ ez50_ => ?_)
    refine lv_iload_n hx hb dX1_bring_21 rfl (lv_at hl 3 rfl) ?_
    refine lv_icmp_lt (tgt := 26) hx hb dX1_bring_22 rfl (fun c51_ => ?_) (fun c51_ => ?_)
    · have tc51_ := (show z50_.toInt < y.toInt from ti_lt rfl rfl c51_)
      have pt50_ : ∀ (s50_ : Int32) (H : Heap) (locs : List Loc) (ls : Array Slot), (s50_.toInt = 0 ∨ (s50_.toInt = 1 ∧ 0 < z1_.toInt)) → va_P (dC, dI) vwCl (xW κ (FR κ a φ ++ Y) σ) H → va_D A (xW κ (FR κ a φ ++ Y) σ) → va_S A s.heap H locs → lv_has ls 8 [(4, .int z1_), (0, .ref a), (1, .long x), (3, .int y)] → W p l e (headSpec vs_f_bring rm_f_bring).room s m #[Value.ref a, Value.long x, Value.int y] below meth c H locs 0 0 Q (F0 m 50 ls [.int s50_]) := by
        intro s50_ H locs ls hf50_0_ hP hD hS hl
        have bφ_102 : 0 ≤ (φ.1 2).toInt ∧ (φ.1 2).toInt ≤ 4096 := hF
        refine lv_istore (lv' := [(5, .int s50_), (4, .int z1_), (0, .ref a), (1, .long x), (3, .int y)]) hx hb dX1_bring_50 hl (Nat.le_of_ble_eq_true rfl) rfl (fun ls hl => ?_)
        have pt66_ : ∀ (s66_ : Int32) (H : Heap) (locs : List Loc) (ls : Array Slot), (0 ≤ s66_.toInt ∧ s66_.toInt ≤ z1_.toInt) → va_P (dC, dI) vwCl (xW κ (FR κ a φ ++ Y) σ) H → va_D A (xW κ (FR κ a φ ++ Y) σ) → va_S A s.heap H locs → lv_has ls 8 [(4, .int z1_), (0, .ref a), (1, .long x), (3, .int y)] → W p l e (headSpec vs_f_bring rm_f_bring).room s m #[Value.ref a, Value.long x, Value.int y] below meth c H locs 0 0 Q (F0 m 66 ls [.int s66_]) := by
          intro s66_ H locs ls hf66_0_ hP hD hS hl
          have bφ_102 : 0 ≤ (φ.1 2).toInt ∧ (φ.1 2).toInt ≤ 4096 := hF
          refine lv_istore (lv' := [(6, .int s66_), (4, .int z1_), (0, .ref a), (1, .long x), (3, .int y)]) hx hb dX1_bring_66 hl (Nat.le_of_ble_eq_true rfl) rfl (fun ls hl => ?_)
          refine lv_iload hx hb dX1_bring_68 (lv_at hl 1 rfl) ?_
          refine lv_istore (lv' := [(7, .int z1_), (6, .int s66_), (4, .int z1_), (0, .ref a), (1, .long x), (3, .int y)]) hx hb dX1_bring_70 hl (Nat.le_of_ble_eq_true rfl) rfl (fun ls hl => ?_)
          have pt72_ : ∀ (n72_ : Nat) (v7_ : Int32) (H : Heap) (locs : List Loc) (ls : Array Slot), (4096 - v7_.toInt).toNat < n72_ → (0 ≤ v7_.toInt ∧ z1_.toInt ≤ v7_.toInt ∧ v7_.toInt ≤ (φ.1 2).toInt) → va_P (dC, dI) vwCl (xW κ (FR κ a φ ++ Y) σ) H → va_D A (xW κ (FR κ a φ ++ Y) σ) → va_S A s.heap H locs → lv_has ls 8 [(7, .int v7_), (6, .int s66_), (0, .ref a), (1, .long x), (3, .int y)] → W p l e (headSpec vs_f_bring rm_f_bring).room s m #[Value.ref a, Value.long x, Value.int y] below meth c H locs 0 0 Q (F0 m 72 ls []) := by
            intro n72_
            induction n72_ with
            | zero => intro v7_ H locs ls hn72_ hf72_0_ hP hD hS hl; exact absurd hn72_ (Nat.not_lt_zero _)
            | succ n72_ ih72_ =>
              intro v7_ H locs ls hn72_ hf72_0_ hP hD hS hl
              have bφ_102 : 0 ≤ (φ.1 2).toInt ∧ (φ.1 2).toInt ≤ 4096 := hF
              refine lv_iload hx hb dX1_bring_72 (lv_at hl 0 rfl) ?_
              refine lv_aload_n hx hb dX1_bring_74 rfl (lv_at hl 2 rfl) ?_
              have bφ_102 : 0 ≤ (φ.1 2).toInt ∧ (φ.1 2).toInt ≤ 4096 := hF
              refine va_get (D := (dC, dI)) (ci := 1) (v := .int (φ.1 2)) (C := RX1) (T := TX1) (N := 7) hx hb hts hin1 hown hK hP 27 rfl rfl 6 (Nat.le_of_ble_eq_true rfl) (ho (.fieldLink RX1 23 "NearEnough$Front" "count" "I") (List.mem_of_getElem? (i := 0) rfl)) (fun _ h9 => h9) rfl dX1_bring_75 ?_
              refine lv_icmp_ge (tgt := 98) hx hb dX1_bring_78 rfl (fun c52_ => ?_) (fun c52_ => ?_)
              · have tc52_ := (show (φ.1 2).toInt ≤ v7_.toInt from ti_le rfl rfl c52_)
                refine lv_iload hx hb dX1_bring_98 (lv_at hl 1 rfl) ?_
                refine lv_iconst (v := 1) hx hb dX1_bring_100 rg_6 ?_
                refine lv_iadd hx hb dX1_bring_101 ?_
                refine lv_topi (fun z53_ ez53_ => ?_)
                have o78 : -2147483648 ≤ s66_.toInt + 1 := by omega
                have o79 : s66_.toInt + 1 ≤ 2147483647 := by omega
                have tz53_ : z53_.toInt = s66_.toInt + 1 := ti_add ez53_ rfl rg_18 o78 o79
                refine lv_aload_n hx hb dX1_bring_102 rfl (lv_at hl 2 rfl) ?_
                have bφ_102 : 0 ≤ (φ.1 2).toInt ∧ (φ.1 2).toInt ≤ 4096 := hF
                refine va_get (D := (dC, dI)) (ci := 1) (v := .int (φ.1 2)) (C := RX1) (T := TX1) (N := 7) hx hb hts hin1 hown hK hP 27 rfl rfl 6 (Nat.le_of_ble_eq_true rfl) (ho (.fieldLink RX1 23 "NearEnough$Front" "count" "I") (List.mem_of_getElem? (i := 0) rfl)) (fun _ h9 => h9) rfl dX1_bring_103 ?_
                refine lv_iadd hx hb dX1_bring_106 ?_
                refine lv_topi (fun z54_ ez54_ => ?_)
                have o80 : -2147483648 ≤ z53_.toInt + (φ.1 2).toInt := by omega
                have o81 : z53_.toInt + (φ.1 2).toInt ≤ 2147483647 := by omega
                have tz54_ : z54_.toInt = z53_.toInt + (φ.1 2).toInt := ti_add ez54_ rfl rfl o80 o81
                refine lv_iload hx hb dX1_bring_107 (lv_at hl 0 rfl) ?_
                refine lv_isub hx hb dX1_bring_109 ?_
                refine lv_topi (fun z55_ ez55_ => ?_)
                have o82 : -2147483648 ≤ z54_.toInt - v7_.toInt := by omega
                have o83 : z54_.toInt - v7_.toInt ≤ 2147483647 := by omega
                have tz55_ : z55_.toInt = z54_.toInt - v7_.toInt := ti_sub ez55_ rfl rfl o82 o83
                refine lv_sipush (v := 4096) hx hb dX1_bring_110 rx_5b0cde361b ?_
                refine lv_icmp_le (tgt := 117) hx hb dX1_bring_113 rfl (fun c56_ => ?_) (fun c56_ => ?_)
                · have tc56_ := (show z55_.toInt ≤ 4096 from ti_le rfl rx_5cf37c826d c56_)
                  refine lv_aload_n hx hb dX1_bring_117 rfl (lv_at hl 2 rfl) ?_
                  refine va_get (D := (dC, dI)) (ci := 1) (v := .ref (kA κ 27)) (C := RX1) (T := TX1) (N := 7) hx hb hts hin1 hown hK hP 27 rfl rfl 4 (Nat.le_of_ble_eq_true rfl) (ho (.fieldLink RX1 15 "NearEnough$Front" "offs" "[J") (List.mem_of_getElem? (i := 1) rfl)) (fun _ h9 => h9) rfl dX1_bring_118 ?_
                  refine lv_iload hx hb dX1_bring_121 (lv_at hl 0 rfl) ?_
                  refine lv_aload_n hx hb dX1_bring_123 rfl (lv_at hl 2 rfl) ?_
                  refine va_get (D := (dC, dI)) (ci := 1) (v := .ref (kA κ 27)) (C := RX1) (T := TX1) (N := 7) hx hb hts hin1 hown hK hP 27 rfl rfl 4 (Nat.le_of_ble_eq_true rfl) (ho (.fieldLink RX1 15 "NearEnough$Front" "offs" "[J") (List.mem_of_getElem? (i := 1) rfl)) (fun _ h9 => h9) rfl dX1_bring_124 ?_
                  refine lv_iload hx hb dX1_bring_127 (lv_at hl 1 rfl) ?_
                  refine lv_iconst (v := 1) hx hb dX1_bring_129 rg_6 ?_
                  refine lv_iadd hx hb dX1_bring_130 ?_
                  refine lv_topi (fun z57_ ez57_ => ?_)
                  have tz57_ : z57_.toInt = s66_.toInt + 1 := ti_add ez57_ rfl rg_18 o78 o79
                  refine lv_aload_n hx hb dX1_bring_131 rfl (lv_at hl 2 rfl) ?_
                  have bφ_102 : 0 ≤ (φ.1 2).toInt ∧ (φ.1 2).toInt ≤ 4096 := hF
                  refine va_get (D := (dC, dI)) (ci := 1) (v := .int (φ.1 2)) (C := RX1) (T := TX1) (N := 7) hx hb hts hin1 hown hK hP 27 rfl rfl 6 (Nat.le_of_ble_eq_true rfl) (ho (.fieldLink RX1 23 "NearEnough$Front" "count" "I") (List.mem_of_getElem? (i := 0) rfl)) (fun _ h9 => h9) rfl dX1_bring_132 ?_
                  refine lv_iload hx hb dX1_bring_135 (lv_at hl 0 rfl) ?_
                  refine lv_isub hx hb dX1_bring_137 ?_
                  refine lv_topi (fun z58_ ez58_ => ?_)
                  have o84 : -2147483648 ≤ (φ.1 2).toInt - v7_.toInt := by omega
                  have o85 : (φ.1 2).toInt - v7_.toInt ≤ 2147483647 := by omega
                  have tz58_ : z58_.toInt = (φ.1 2).toInt - v7_.toInt := ti_sub ez58_ rfl rfl o84 o85
                  have o86 : 0 ≤ v7_.toInt := by omega
                  have o87 : 0 ≤ z57_.toInt := by omega
                  have o88 : 0 ≤ z58_.toInt := by omega
                  have o89 : v7_.toInt + z58_.toInt ≤ ((4096 : Nat) : Int) := by omega
                  have o90 : z57_.toInt + z58_.toInt ≤ ((4096 : Nat) : Int) := by omega
                  refine va_copyl (ty := .long) hx hb (hml.trans hl.1.symm) hown (ho (.methodLink RX1 73 arraycopyName) (List.mem_of_getElem? (i := 2) rfl)) (ho (.native arraycopyName) (List.mem_of_getElem? (i := 3) rfl)) (ho (.static arraycopyName) (List.mem_of_getElem? (i := 4) rfl)) (ho (.initialized "java/lang/System") (List.mem_of_getElem? (i := 5) rfl)) hK hP hD hS 28 28 21 21 rfl rfl rfl rfl rfl (nneg o86) (nneg o87) (nneg o88) (clsum o86 o88 o89) (clsum o87 o88 o90) (fun _ _ => rfl) (Nat.le_of_ble_eq_true rfl) (Nat.le_of_ble_eq_true rfl) dX1_bring_138 (fun H locs hP hD hS => ?_)
                  obtain ⟨f59_, ef59_⟩ : ∃ f9 : Nat → Int64, f9 = va_cpy (φ.2.2.1 3) (φ.2.2.1 3) (Int32.toNatClampNeg v7_) (Int32.toNatClampNeg z57_) (Int32.toNatClampNeg z58_) := ⟨_, rfl⟩
                  have hP : va_P (dC, dI) vwCl (xW κ (FR κ a (sJ φ 3 f59_) ++ Y) σ) H := by rw [ef59_]; exact hP
                  have hD : va_D A (xW κ (FR κ a (sJ φ 3 f59_) ++ Y) σ) := by rw [ef59_]; exact hD
                  refine lv_aload_n hx hb dX1_bring_141 rfl (lv_at hl 2 rfl) ?_
                  refine va_get (D := (dC, dI)) (ci := 1) (v := .ref (kA κ 28)) (C := RX1) (T := TX1) (N := 7) hx hb hts hin1 hown hK hP 27 rfl rfl 5 (Nat.le_of_ble_eq_true rfl) (ho (.fieldLink RX1 19 "NearEnough$Front" "saves" "[I") (List.mem_of_getElem? (i := 6) rfl)) (fun _ h9 => h9) rfl dX1_bring_142 ?_
                  refine lv_iload hx hb dX1_bring_145 (lv_at hl 0 rfl) ?_
                  refine lv_aload_n hx hb dX1_bring_147 rfl (lv_at hl 2 rfl) ?_
                  refine va_get (D := (dC, dI)) (ci := 1) (v := .ref (kA κ 28)) (C := RX1) (T := TX1) (N := 7) hx hb hts hin1 hown hK hP 27 rfl rfl 5 (Nat.le_of_ble_eq_true rfl) (ho (.fieldLink RX1 19 "NearEnough$Front" "saves" "[I") (List.mem_of_getElem? (i := 6) rfl)) (fun _ h9 => h9) rfl dX1_bring_148 ?_
                  refine lv_iload hx hb dX1_bring_151 (lv_at hl 1 rfl) ?_
                  refine lv_iconst (v := 1) hx hb dX1_bring_153 rg_6 ?_
                  refine lv_iadd hx hb dX1_bring_154 ?_
                  refine lv_topi (fun z60_ ez60_ => ?_)
                  have tz60_ : z60_.toInt = s66_.toInt + 1 := ti_add ez60_ rfl rg_18 o78 o79
                  refine lv_aload_n hx hb dX1_bring_155 rfl (lv_at hl 2 rfl) ?_
                  have bφ_102 : 0 ≤ (φ.1 2).toInt ∧ (φ.1 2).toInt ≤ 4096 := hF
                  refine va_get (D := (dC, dI)) (ci := 1) (v := .int (φ.1 2)) (C := RX1) (T := TX1) (N := 7) hx hb hts hin1 hown hK hP 27 rfl rfl 6 (Nat.le_of_ble_eq_true rfl) (ho (.fieldLink RX1 23 "NearEnough$Front" "count" "I") (List.mem_of_getElem? (i := 0) rfl)) (fun _ h9 => h9) rfl dX1_bring_156 ?_
                  refine lv_iload hx hb dX1_bring_159 (lv_at hl 0 rfl) ?_
                  refine lv_isub hx hb dX1_bring_161 ?_
                  refine lv_topi (fun z61_ ez61_ => ?_)
                  have tz61_ : z61_.toInt = (φ.1 2).toInt - v7_.toInt := ti_sub ez61_ rfl rfl o84 o85
                  have o91 : 0 ≤ z60_.toInt := by omega
                  have o92 : 0 ≤ z61_.toInt := by omega
                  have o93 : v7_.toInt + z61_.toInt ≤ ((4096 : Nat) : Int) := by omega
                  have o94 : z60_.toInt + z61_.toInt ≤ ((4096 : Nat) : Int) := by omega
                  refine va_copyi (ty := .int) hx hb (hml.trans hl.1.symm) hown (ho (.methodLink RX1 73 arraycopyName) (List.mem_of_getElem? (i := 2) rfl)) (ho (.native arraycopyName) (List.mem_of_getElem? (i := 3) rfl)) (ho (.static arraycopyName) (List.mem_of_getElem? (i := 4) rfl)) (ho (.initialized "java/lang/System") (List.mem_of_getElem? (i := 5) rfl)) hK hP hD hS 29 29 22 22 rfl rfl rfl rfl rfl (nneg o86) (nneg o91) (nneg o92) (clsum o86 o92 o93) (clsum o91 o92 o94) (fun _ _ => rfl) (Nat.le_of_ble_eq_true rfl) (Nat.le_of_ble_eq_true rfl) dX1_bring_162 (fun H locs hP hD hS => ?_)
                  obtain ⟨f62_, ef62_⟩ : ∃ f9 : Nat → Int32, f9 = va_cpy ((sJ φ 3 f59_).2.1 4) ((sJ φ 3 f59_).2.1 4) (Int32.toNatClampNeg v7_) (Int32.toNatClampNeg z60_) (Int32.toNatClampNeg z61_) := ⟨_, rfl⟩
                  have hP : va_P (dC, dI) vwCl (xW κ (FR κ a (sJ (sA φ 4 f62_) 3 f59_) ++ Y) σ) H := by rw [ef62_]; exact hP
                  have hD : va_D A (xW κ (FR κ a (sJ (sA φ 4 f62_) 3 f59_) ++ Y) σ) := by rw [ef62_]; exact hD
                  refine lv_aload_n hx hb dX1_bring_165 rfl (lv_at hl 2 rfl) ?_
                  refine va_get (D := (dC, dI)) (ci := 1) (v := .ref (kA κ 27)) (C := RX1) (T := TX1) (N := 7) hx hb hts hin1 hown hK hP 27 rfl rfl 4 (Nat.le_of_ble_eq_true rfl) (ho (.fieldLink RX1 15 "NearEnough$Front" "offs" "[J") (List.mem_of_getElem? (i := 1) rfl)) (fun _ h9 => h9) rfl dX1_bring_166 ?_
                  refine lv_iload hx hb dX1_bring_169 (lv_at hl 1 rfl) ?_
                  refine lv_lload_n hx hb dX1_bring_171 rfl (lv_at hl 3 rfl) ?_
                  have o95 : 0 ≤ s66_.toInt := by omega
                  have o96 : s66_.toInt < ((4096 : Nat) : Int) := by omega
                  refine va_last hx hb hK hP hD hS 28 21 rfl rfl (ti_inx o95 o96) dX1_bring_172 (fun H locs hP hD hS => ?_)
                  obtain ⟨f63_, ef63_⟩ : ∃ f9 : Nat → Int64, f9 = vp_updL ((sJ (sA φ 4 f62_) 3 f59_).2.2.1 3) (Int32.toNatClampNeg s66_) x := ⟨_, rfl⟩
                  have hP : va_P (dC, dI) vwCl (xW κ (FR κ a (sJ (sA φ 4 f62_) 3 f63_) ++ Y) σ) H := by rw [ef63_]; exact hP
                  have hD : va_D A (xW κ (FR κ a (sJ (sA φ 4 f62_) 3 f63_) ++ Y) σ) := by rw [ef63_]; exact hD
                  refine lv_aload_n hx hb dX1_bring_173 rfl (lv_at hl 2 rfl) ?_
                  refine va_get (D := (dC, dI)) (ci := 1) (v := .ref (kA κ 28)) (C := RX1) (T := TX1) (N := 7) hx hb hts hin1 hown hK hP 27 rfl rfl 5 (Nat.le_of_ble_eq_true rfl) (ho (.fieldLink RX1 19 "NearEnough$Front" "saves" "[I") (List.mem_of_getElem? (i := 6) rfl)) (fun _ h9 => h9) rfl dX1_bring_174 ?_
                  refine lv_iload hx hb dX1_bring_177 (lv_at hl 1 rfl) ?_
                  refine lv_iload_n hx hb dX1_bring_179 rfl (lv_at hl 4 rfl) ?_
                  refine va_iast hx hb hK hP hD hS 29 22 rfl rfl (ti_inx o95 o96) dX1_bring_180 (fun H locs hP hD hS => ?_)
                  obtain ⟨f64_, ef64_⟩ : ∃ f9 : Nat → Int32, f9 = upd ((sJ (sA φ 4 f62_) 3 f63_).2.1 4) (Int32.toNatClampNeg s66_) y := ⟨_, rfl⟩
                  have hP : va_P (dC, dI) vwCl (xW κ (FR κ a (sJ (sA φ 4 f64_) 3 f63_) ++ Y) σ) H := by rw [ef64_]; exact hP
                  have hD : va_D A (xW κ (FR κ a (sJ (sA φ 4 f64_) 3 f63_) ++ Y) σ) := by rw [ef64_]; exact hD
                  refine lv_aload_n hx hb dX1_bring_181 rfl (lv_at hl 2 rfl) ?_
                  refine lv_iload hx hb dX1_bring_182 (lv_at hl 1 rfl) ?_
                  refine lv_iconst (v := 1) hx hb dX1_bring_184 rg_6 ?_
                  refine lv_iadd hx hb dX1_bring_185 ?_
                  refine lv_topi (fun z65_ ez65_ => ?_)
                  have tz65_ : z65_.toInt = s66_.toInt + 1 := ti_add ez65_ rfl rg_18 o78 o79
                  refine lv_aload_n hx hb dX1_bring_186 rfl (lv_at hl 2 rfl) ?_
                  have bφ_102 : 0 ≤ (φ.1 2).toInt ∧ (φ.1 2).toInt ≤ 4096 := hF
                  refine va_get (D := (dC, dI)) (ci := 1) (v := .int (φ.1 2)) (C := RX1) (T := TX1) (N := 7) hx hb hts hin1 hown hK hP 27 rfl rfl 6 (Nat.le_of_ble_eq_true rfl) (ho (.fieldLink RX1 23 "NearEnough$Front" "count" "I") (List.mem_of_getElem? (i := 0) rfl)) (fun _ h9 => h9) rfl dX1_bring_187 ?_
                  refine lv_iadd hx hb dX1_bring_190 ?_
                  refine lv_topi (fun z66_ ez66_ => ?_)
                  have o97 : -2147483648 ≤ z65_.toInt + (φ.1 2).toInt := by omega
                  have o98 : z65_.toInt + (φ.1 2).toInt ≤ 2147483647 := by omega
                  have tz66_ : z66_.toInt = z65_.toInt + (φ.1 2).toInt := ti_add ez66_ rfl rfl o97 o98
                  refine lv_iload hx hb dX1_bring_191 (lv_at hl 0 rfl) ?_
                  refine lv_isub hx hb dX1_bring_193 ?_
                  refine lv_topi (fun z67_ ez67_ => ?_)
                  have o99 : -2147483648 ≤ z66_.toInt - v7_.toInt := by omega
                  have o100 : z66_.toInt - v7_.toInt ≤ 2147483647 := by omega
                  have tz67_ : z67_.toInt = z66_.toInt - v7_.toInt := ti_sub ez67_ rfl rfl o99 o100
                  refine va_put (D := (dC, dI)) (ci := 1) (v := .int z67_) (ty := tyX1 6) (C := RX1) (T := TX1) (N := 7) hx hb hts hin1 tyX1 tyX1_ok nmX1 hown hK hP hD hS 27 rfl rfl 6 (Nat.le_of_ble_eq_true rfl) (ho (.fieldLink RX1 23 "NearEnough$Front" "count" "I") (List.mem_of_getElem? (i := 0) rfl)) (fun _ h9 => h9) rfl (tyX1_ok 6 (Nat.le_of_ble_eq_true rfl)) rfl rfl (Nat.le_of_ble_eq_true rfl) dX1_bring_194 (fun H locs hP hD hS => ?_)
                  have hP : va_P (dC, dI) vwCl (xW κ (FR κ a (sJ (sA (sI φ 2 z67_) 4 f64_) 3 f63_) ++ Y) σ) H := hP
                  have hD : va_D A (xW κ (FR κ a (sJ (sA (sI φ 2 z67_) 4 f64_) 3 f63_) ++ Y) σ) := hD
                  have o101 : 0 ≤ z67_.toInt := by omega
                  have o102 : z67_.toInt ≤ 4096 := by omega
                  rw [hQ]
                  exact W.vret hx hb hr (fun t ht hW => ⟨⟨((sJ (sA (sI φ 2 z67_) 4 f64_) 3 f63_), σ), rfl, ⟨hI, ⟨o101, o102⟩, trivial⟩, wEn_of hP (hK.sub [] rfl) hD ht hW⟩, hS.F ht⟩) hS.2.2 dX1_bring_197
                · have tc56_ := (show 4096 < z55_.toInt from ti_nle rfl rx_5cf37c826d c56_)
                  rw [hQ]
                  exact W.vret hx hb hr (fun t ht hW => ⟨⟨(φ, σ), rfl, ⟨hI, hF, trivial⟩, wEn_of hP (hK.sub [] rfl) hD ht hW⟩, hS.F ht⟩) hS.2.2 dX1_bring_116
              · have tc52_ := (show v7_.toInt < (φ.1 2).toInt from ti_nle rfl rfl c52_)
                refine lv_aload_n hx hb dX1_bring_81 rfl (lv_at hl 2 rfl) ?_
                refine va_get (D := (dC, dI)) (ci := 1) (v := .ref (kA κ 28)) (C := RX1) (T := TX1) (N := 7) hx hb hts hin1 hown hK hP 27 rfl rfl 5 (Nat.le_of_ble_eq_true rfl) (ho (.fieldLink RX1 19 "NearEnough$Front" "saves" "[I") (List.mem_of_getElem? (i := 6) rfl)) (fun _ h9 => h9) rfl dX1_bring_82 ?_
                refine lv_iload hx hb dX1_bring_85 (lv_at hl 0 rfl) ?_
                have o103 : 0 ≤ v7_.toInt := by omega
                have o104 : v7_.toInt < ((4096 : Nat) : Int) := by omega
                refine va_iald hx hb hK hP 29 22 rfl rfl (ti_inx o103 o104) dX1_bring_87 ?_
                refine lv_topi (fun z68_ ez68_ => ?_)
                refine lv_iload_n hx hb dX1_bring_88 rfl (lv_at hl 4 rfl) ?_
                refine lv_icmp_gt (tgt := 98) hx hb dX1_bring_89 rfl (fun c69_ => ?_) (fun c69_ => ?_)
                · have tc69_ := (show y.toInt < z68_.toInt from ti_lt rfl rfl c69_)
                  refine lv_iload hx hb dX1_bring_98 (lv_at hl 1 rfl) ?_
                  refine lv_iconst (v := 1) hx hb dX1_bring_100 rg_6 ?_
                  refine lv_iadd hx hb dX1_bring_101 ?_
                  refine lv_topi (fun z70_ ez70_ => ?_)
                  have o105 : -2147483648 ≤ s66_.toInt + 1 := by omega
                  have o106 : s66_.toInt + 1 ≤ 2147483647 := by omega
                  have tz70_ : z70_.toInt = s66_.toInt + 1 := ti_add ez70_ rfl rg_18 o105 o106
                  refine lv_aload_n hx hb dX1_bring_102 rfl (lv_at hl 2 rfl) ?_
                  have bφ_102 : 0 ≤ (φ.1 2).toInt ∧ (φ.1 2).toInt ≤ 4096 := hF
                  refine va_get (D := (dC, dI)) (ci := 1) (v := .int (φ.1 2)) (C := RX1) (T := TX1) (N := 7) hx hb hts hin1 hown hK hP 27 rfl rfl 6 (Nat.le_of_ble_eq_true rfl) (ho (.fieldLink RX1 23 "NearEnough$Front" "count" "I") (List.mem_of_getElem? (i := 0) rfl)) (fun _ h9 => h9) rfl dX1_bring_103 ?_
                  refine lv_iadd hx hb dX1_bring_106 ?_
                  refine lv_topi (fun z71_ ez71_ => ?_)
                  have o107 : -2147483648 ≤ z70_.toInt + (φ.1 2).toInt := by omega
                  have o108 : z70_.toInt + (φ.1 2).toInt ≤ 2147483647 := by omega
                  have tz71_ : z71_.toInt = z70_.toInt + (φ.1 2).toInt := ti_add ez71_ rfl rfl o107 o108
                  refine lv_iload hx hb dX1_bring_107 (lv_at hl 0 rfl) ?_
                  refine lv_isub hx hb dX1_bring_109 ?_
                  refine lv_topi (fun z72_ ez72_ => ?_)
                  have o109 : -2147483648 ≤ z71_.toInt - v7_.toInt := by omega
                  have o110 : z71_.toInt - v7_.toInt ≤ 2147483647 := by omega
                  have tz72_ : z72_.toInt = z71_.toInt - v7_.toInt := ti_sub ez72_ rfl rfl o109 o110
                  refine lv_sipush (v := 4096) hx hb dX1_bring_110 rx_5b0cde361b ?_
                  refine lv_icmp_le (tgt := 117) hx hb dX1_bring_113 rfl (fun c73_ => ?_) (fun c73_ => ?_)
                  · have tc73_ := (show z72_.toInt ≤ 4096 from ti_le rfl rx_5cf37c826d c73_)
                    refine lv_aload_n hx hb dX1_bring_117 rfl (lv_at hl 2 rfl) ?_
                    refine va_get (D := (dC, dI)) (ci := 1) (v := .ref (kA κ 27)) (C := RX1) (T := TX1) (N := 7) hx hb hts hin1 hown hK hP 27 rfl rfl 4 (Nat.le_of_ble_eq_true rfl) (ho (.fieldLink RX1 15 "NearEnough$Front" "offs" "[J") (List.mem_of_getElem? (i := 1) rfl)) (fun _ h9 => h9) rfl dX1_bring_118 ?_
                    refine lv_iload hx hb dX1_bring_121 (lv_at hl 0 rfl) ?_
                    refine lv_aload_n hx hb dX1_bring_123 rfl (lv_at hl 2 rfl) ?_
                    refine va_get (D := (dC, dI)) (ci := 1) (v := .ref (kA κ 27)) (C := RX1) (T := TX1) (N := 7) hx hb hts hin1 hown hK hP 27 rfl rfl 4 (Nat.le_of_ble_eq_true rfl) (ho (.fieldLink RX1 15 "NearEnough$Front" "offs" "[J") (List.mem_of_getElem? (i := 1) rfl)) (fun _ h9 => h9) rfl dX1_bring_124 ?_
                    refine lv_iload hx hb dX1_bring_127 (lv_at hl 1 rfl) ?_
                    refine lv_iconst (v := 1) hx hb dX1_bring_129 rg_6 ?_
                    refine lv_iadd hx hb dX1_bring_130 ?_
                    refine lv_topi (fun z74_ ez74_ => ?_)
                    have tz74_ : z74_.toInt = s66_.toInt + 1 := ti_add ez74_ rfl rg_18 o105 o106
                    refine lv_aload_n hx hb dX1_bring_131 rfl (lv_at hl 2 rfl) ?_
                    have bφ_102 : 0 ≤ (φ.1 2).toInt ∧ (φ.1 2).toInt ≤ 4096 := hF
                    refine va_get (D := (dC, dI)) (ci := 1) (v := .int (φ.1 2)) (C := RX1) (T := TX1) (N := 7) hx hb hts hin1 hown hK hP 27 rfl rfl 6 (Nat.le_of_ble_eq_true rfl) (ho (.fieldLink RX1 23 "NearEnough$Front" "count" "I") (List.mem_of_getElem? (i := 0) rfl)) (fun _ h9 => h9) rfl dX1_bring_132 ?_
                    refine lv_iload hx hb dX1_bring_135 (lv_at hl 0 rfl) ?_
                    refine lv_isub hx hb dX1_bring_137 ?_
                    refine lv_topi (fun z75_ ez75_ => ?_)
                    have o111 : -2147483648 ≤ (φ.1 2).toInt - v7_.toInt := by omega
                    have o112 : (φ.1 2).toInt - v7_.toInt ≤ 2147483647 := by omega
                    have tz75_ : z75_.toInt = (φ.1 2).toInt - v7_.toInt := ti_sub ez75_ rfl rfl o111 o112
                    have o113 : 0 ≤ z74_.toInt := by omega
                    have o114 : 0 ≤ z75_.toInt := by omega
                    have o115 : v7_.toInt + z75_.toInt ≤ ((4096 : Nat) : Int) := by omega
                    have o116 : z74_.toInt + z75_.toInt ≤ ((4096 : Nat) : Int) := by omega
                    refine va_copyl (ty := .long) hx hb (hml.trans hl.1.symm) hown (ho (.methodLink RX1 73 arraycopyName) (List.mem_of_getElem? (i := 2) rfl)) (ho (.native arraycopyName) (List.mem_of_getElem? (i := 3) rfl)) (ho (.static arraycopyName) (List.mem_of_getElem? (i := 4) rfl)) (ho (.initialized "java/lang/System") (List.mem_of_getElem? (i := 5) rfl)) hK hP hD hS 28 28 21 21 rfl rfl rfl rfl rfl (nneg o103) (nneg o113) (nneg o114) (clsum o103 o114 o115) (clsum o113 o114 o116) (fun _ _ => rfl) (Nat.le_of_ble_eq_true rfl) (Nat.le_of_ble_eq_true rfl) dX1_bring_138 (fun H locs hP hD hS => ?_)
                    obtain ⟨f76_, ef76_⟩ : ∃ f9 : Nat → Int64, f9 = va_cpy (φ.2.2.1 3) (φ.2.2.1 3) (Int32.toNatClampNeg v7_) (Int32.toNatClampNeg z74_) (Int32.toNatClampNeg z75_) := ⟨_, rfl⟩
                    have hP : va_P (dC, dI) vwCl (xW κ (FR κ a (sJ φ 3 f76_) ++ Y) σ) H := by rw [ef76_]; exact hP
                    have hD : va_D A (xW κ (FR κ a (sJ φ 3 f76_) ++ Y) σ) := by rw [ef76_]; exact hD
                    refine lv_aload_n hx hb dX1_bring_141 rfl (lv_at hl 2 rfl) ?_
                    refine va_get (D := (dC, dI)) (ci := 1) (v := .ref (kA κ 28)) (C := RX1) (T := TX1) (N := 7) hx hb hts hin1 hown hK hP 27 rfl rfl 5 (Nat.le_of_ble_eq_true rfl) (ho (.fieldLink RX1 19 "NearEnough$Front" "saves" "[I") (List.mem_of_getElem? (i := 6) rfl)) (fun _ h9 => h9) rfl dX1_bring_142 ?_
                    refine lv_iload hx hb dX1_bring_145 (lv_at hl 0 rfl) ?_
                    refine lv_aload_n hx hb dX1_bring_147 rfl (lv_at hl 2 rfl) ?_
                    refine va_get (D := (dC, dI)) (ci := 1) (v := .ref (kA κ 28)) (C := RX1) (T := TX1) (N := 7) hx hb hts hin1 hown hK hP 27 rfl rfl 5 (Nat.le_of_ble_eq_true rfl) (ho (.fieldLink RX1 19 "NearEnough$Front" "saves" "[I") (List.mem_of_getElem? (i := 6) rfl)) (fun _ h9 => h9) rfl dX1_bring_148 ?_
                    refine lv_iload hx hb dX1_bring_151 (lv_at hl 1 rfl) ?_
                    refine lv_iconst (v := 1) hx hb dX1_bring_153 rg_6 ?_
                    refine lv_iadd hx hb dX1_bring_154 ?_
                    refine lv_topi (fun z77_ ez77_ => ?_)
                    have tz77_ : z77_.toInt = s66_.toInt + 1 := ti_add ez77_ rfl rg_18 o105 o106
                    refine lv_aload_n hx hb dX1_bring_155 rfl (lv_at hl 2 rfl) ?_
                    have bφ_102 : 0 ≤ (φ.1 2).toInt ∧ (φ.1 2).toInt ≤ 4096 := hF
                    refine va_get (D := (dC, dI)) (ci := 1) (v := .int (φ.1 2)) (C := RX1) (T := TX1) (N := 7) hx hb hts hin1 hown hK hP 27 rfl rfl 6 (Nat.le_of_ble_eq_true rfl) (ho (.fieldLink RX1 23 "NearEnough$Front" "count" "I") (List.mem_of_getElem? (i := 0) rfl)) (fun _ h9 => h9) rfl dX1_bring_156 ?_
                    refine lv_iload hx hb dX1_bring_159 (lv_at hl 0 rfl) ?_
                    refine lv_isub hx hb dX1_bring_161 ?_
                    refine lv_topi (fun z78_ ez78_ => ?_)
                    have tz78_ : z78_.toInt = (φ.1 2).toInt - v7_.toInt := ti_sub ez78_ rfl rfl o111 o112
                    have o117 : 0 ≤ z77_.toInt := by omega
                    have o118 : 0 ≤ z78_.toInt := by omega
                    have o119 : v7_.toInt + z78_.toInt ≤ ((4096 : Nat) : Int) := by omega
                    have o120 : z77_.toInt + z78_.toInt ≤ ((4096 : Nat) : Int) := by omega
                    refine va_copyi (ty := .int) hx hb (hml.trans hl.1.symm) hown (ho (.methodLink RX1 73 arraycopyName) (List.mem_of_getElem? (i := 2) rfl)) (ho (.native arraycopyName) (List.mem_of_getElem? (i := 3) rfl)) (ho (.static arraycopyName) (List.mem_of_getElem? (i := 4) rfl)) (ho (.initialized "java/lang/System") (List.mem_of_getElem? (i := 5) rfl)) hK hP hD hS 29 29 22 22 rfl rfl rfl rfl rfl (nneg o103) (nneg o117) (nneg o118) (clsum o103 o118 o119) (clsum o117 o118 o120) (fun _ _ => rfl) (Nat.le_of_ble_eq_true rfl) (Nat.le_of_ble_eq_true rfl) dX1_bring_162 (fun H locs hP hD hS => ?_)
                    obtain ⟨f79_, ef79_⟩ : ∃ f9 : Nat → Int32, f9 = va_cpy ((sJ φ 3 f76_).2.1 4) ((sJ φ 3 f76_).2.1 4) (Int32.toNatClampNeg v7_) (Int32.toNatClampNeg z77_) (Int32.toNatClampNeg z78_) := ⟨_, rfl⟩
                    have hP : va_P (dC, dI) vwCl (xW κ (FR κ a (sJ (sA φ 4 f79_) 3 f76_) ++ Y) σ) H := by rw [ef79_]; exact hP
                    have hD : va_D A (xW κ (FR κ a (sJ (sA φ 4 f79_) 3 f76_) ++ Y) σ) := by rw [ef79_]; exact hD
                    refine lv_aload_n hx hb dX1_bring_165 rfl (lv_at hl 2 rfl) ?_
                    refine va_get (D := (dC, dI)) (ci := 1) (v := .ref (kA κ 27)) (C := RX1) (T := TX1) (N := 7) hx hb hts hin1 hown hK hP 27 rfl rfl 4 (Nat.le_of_ble_eq_true rfl) (ho (.fieldLink RX1 15 "NearEnough$Front" "offs" "[J") (List.mem_of_getElem? (i := 1) rfl)) (fun _ h9 => h9) rfl dX1_bring_166 ?_
                    refine lv_iload hx hb dX1_bring_169 (lv_at hl 1 rfl) ?_
                    refine lv_lload_n hx hb dX1_bring_171 rfl (lv_at hl 3 rfl) ?_
                    have o121 : 0 ≤ s66_.toInt := by omega
                    have o122 : s66_.toInt < ((4096 : Nat) : Int) := by omega
                    refine va_last hx hb hK hP hD hS 28 21 rfl rfl (ti_inx o121 o122) dX1_bring_172 (fun H locs hP hD hS => ?_)
                    obtain ⟨f80_, ef80_⟩ : ∃ f9 : Nat → Int64, f9 = vp_updL ((sJ (sA φ 4 f79_) 3 f76_).2.2.1 3) (Int32.toNatClampNeg s66_) x := ⟨_, rfl⟩
                    have hP : va_P (dC, dI) vwCl (xW κ (FR κ a (sJ (sA φ 4 f79_) 3 f80_) ++ Y) σ) H := by rw [ef80_]; exact hP
                    have hD : va_D A (xW κ (FR κ a (sJ (sA φ 4 f79_) 3 f80_) ++ Y) σ) := by rw [ef80_]; exact hD
                    refine lv_aload_n hx hb dX1_bring_173 rfl (lv_at hl 2 rfl) ?_
                    refine va_get (D := (dC, dI)) (ci := 1) (v := .ref (kA κ 28)) (C := RX1) (T := TX1) (N := 7) hx hb hts hin1 hown hK hP 27 rfl rfl 5 (Nat.le_of_ble_eq_true rfl) (ho (.fieldLink RX1 19 "NearEnough$Front" "saves" "[I") (List.mem_of_getElem? (i := 6) rfl)) (fun _ h9 => h9) rfl dX1_bring_174 ?_
                    refine lv_iload hx hb dX1_bring_177 (lv_at hl 1 rfl) ?_
                    refine lv_iload_n hx hb dX1_bring_179 rfl (lv_at hl 4 rfl) ?_
                    refine va_iast hx hb hK hP hD hS 29 22 rfl rfl (ti_inx o121 o122) dX1_bring_180 (fun H locs hP hD hS => ?_)
                    obtain ⟨f81_, ef81_⟩ : ∃ f9 : Nat → Int32, f9 = upd ((sJ (sA φ 4 f79_) 3 f80_).2.1 4) (Int32.toNatClampNeg s66_) y := ⟨_, rfl⟩
                    have hP : va_P (dC, dI) vwCl (xW κ (FR κ a (sJ (sA φ 4 f81_) 3 f80_) ++ Y) σ) H := by rw [ef81_]; exact hP
                    have hD : va_D A (xW κ (FR κ a (sJ (sA φ 4 f81_) 3 f80_) ++ Y) σ) := by rw [ef81_]; exact hD
                    refine lv_aload_n hx hb dX1_bring_181 rfl (lv_at hl 2 rfl) ?_
                    refine lv_iload hx hb dX1_bring_182 (lv_at hl 1 rfl) ?_
                    refine lv_iconst (v := 1) hx hb dX1_bring_184 rg_6 ?_
                    refine lv_iadd hx hb dX1_bring_185 ?_
                    refine lv_topi (fun z82_ ez82_ => ?_)
                    have tz82_ : z82_.toInt = s66_.toInt + 1 := ti_add ez82_ rfl rg_18 o105 o106
                    refine lv_aload_n hx hb dX1_bring_186 rfl (lv_at hl 2 rfl) ?_
                    have bφ_102 : 0 ≤ (φ.1 2).toInt ∧ (φ.1 2).toInt ≤ 4096 := hF
                    refine va_get (D := (dC, dI)) (ci := 1) (v := .int (φ.1 2)) (C := RX1) (T := TX1) (N := 7) hx hb hts hin1 hown hK hP 27 rfl rfl 6 (Nat.le_of_ble_eq_true rfl) (ho (.fieldLink RX1 23 "NearEnough$Front" "count" "I") (List.mem_of_getElem? (i := 0) rfl)) (fun _ h9 => h9) rfl dX1_bring_187 ?_
                    refine lv_iadd hx hb dX1_bring_190 ?_
                    refine lv_topi (fun z83_ ez83_ => ?_)
                    have o123 : -2147483648 ≤ z82_.toInt + (φ.1 2).toInt := by omega
                    have o124 : z82_.toInt + (φ.1 2).toInt ≤ 2147483647 := by omega
                    have tz83_ : z83_.toInt = z82_.toInt + (φ.1 2).toInt := ti_add ez83_ rfl rfl o123 o124
                    refine lv_iload hx hb dX1_bring_191 (lv_at hl 0 rfl) ?_
                    refine lv_isub hx hb dX1_bring_193 ?_
                    refine lv_topi (fun z84_ ez84_ => ?_)
                    have o125 : -2147483648 ≤ z83_.toInt - v7_.toInt := by omega
                    have o126 : z83_.toInt - v7_.toInt ≤ 2147483647 := by omega
                    have tz84_ : z84_.toInt = z83_.toInt - v7_.toInt := ti_sub ez84_ rfl rfl o125 o126
                    refine va_put (D := (dC, dI)) (ci := 1) (v := .int z84_) (ty := tyX1 6) (C := RX1) (T := TX1) (N := 7) hx hb hts hin1 tyX1 tyX1_ok nmX1 hown hK hP hD hS 27 rfl rfl 6 (Nat.le_of_ble_eq_true rfl) (ho (.fieldLink RX1 23 "NearEnough$Front" "count" "I") (List.mem_of_getElem? (i := 0) rfl)) (fun _ h9 => h9) rfl (tyX1_ok 6 (Nat.le_of_ble_eq_true rfl)) rfl rfl (Nat.le_of_ble_eq_true rfl) dX1_bring_194 (fun H locs hP hD hS => ?_)
                    have hP : va_P (dC, dI) vwCl (xW κ (FR κ a (sJ (sA (sI φ 2 z84_) 4 f81_) 3 f80_) ++ Y) σ) H := hP
                    have hD : va_D A (xW κ (FR κ a (sJ (sA (sI φ 2 z84_) 4 f81_) 3 f80_) ++ Y) σ) := hD
                    have o127 : 0 ≤ z84_.toInt := by omega
                    have o128 : z84_.toInt ≤ 4096 := by omega
                    rw [hQ]
                    exact W.vret hx hb hr (fun t ht hW => ⟨⟨((sJ (sA (sI φ 2 z84_) 4 f81_) 3 f80_), σ), rfl, ⟨hI, ⟨o127, o128⟩, trivial⟩, wEn_of hP (hK.sub [] rfl) hD ht hW⟩, hS.F ht⟩) hS.2.2 dX1_bring_197
                  · have tc73_ := (show 4096 < z72_.toInt from ti_nle rfl rx_5cf37c826d c73_)
                    rw [hQ]
                    exact W.vret hx hb hr (fun t ht hW => ⟨⟨(φ, σ), rfl, ⟨hI, hF, trivial⟩, wEn_of hP (hK.sub [] rfl) hD ht hW⟩, hS.F ht⟩) hS.2.2 dX1_bring_116
                · have tc69_ := (show z68_.toInt ≤ y.toInt from ti_nlt rfl rfl c69_)
                  obtain ⟨z85_, ez85_⟩ : ∃ y : Int32, y = v7_ + 1 := ⟨_, rfl⟩
                  have o129 : -2147483648 ≤ v7_.toInt + 1 := by omega
                  have o130 : v7_.toInt + 1 ≤ 2147483647 := by omega
                  have tz85_ := ti_add ez85_ rfl rg_18 o129 o130
                  refine lv_iinc (v := z85_) (lv' := [(7, .int z85_), (6, .int s66_), (0, .ref a), (1, .long x), (3, .int y)]) hx hb dX1_bring_92 hl (k := 0) rfl (iincp ez85_ rg_6) (Nat.le_of_ble_eq_true rfl) rfl (fun ls hl => ?_)
                  refine lv_goto (tgt := 72) hx hb dX1_bring_95 rfl ?_
                  have o131 : (4096 - z85_.toInt).toNat < n72_ := by omega
                  have o132 : 0 ≤ z85_.toInt := by omega
                  have o133 : z1_.toInt ≤ z85_.toInt := by omega
                  have o134 : z85_.toInt ≤ (φ.1 2).toInt := by omega
                  exact ih72_  z85_ _ _ _ o131 ⟨o132, o133, o134⟩ hP hD hS (lv_sub hl [0, 1, 2, 3, 4] rfl)
          have o135 : 0 ≤ z1_.toInt := by omega
          have o136 : z1_.toInt ≤ z1_.toInt := by omega
          have o137 : z1_.toInt ≤ (φ.1 2).toInt := by omega
          exact pt72_ _  z1_ _ _ _ (Nat.lt_succ_self _) ⟨o135, o136, o137⟩ hP hD hS (lv_sub hl [0, 1, 3, 4, 5] rfl)
        refine lv_iload hx hb dX1_bring_52 (lv_at hl 0 rfl) ?_
        refine lv_if_eq (tgt := 64) hx hb dX1_bring_54 rfl (fun c86_ => ?_) (fun c86_ => ?_)
        · have tc86_ := (show s50_.toInt = 0 from ti_eq rfl rg_11 c86_)
          refine lv_iload hx hb dX1_bring_64 (lv_at hl 1 rfl) ?_
          have o138 : 0 ≤ z1_.toInt := by omega
          have o139 : z1_.toInt ≤ z1_.toInt := by omega
          exact pt66_  z1_ _ _ _ ⟨o138, o139⟩ hP hD hS (lv_sub hl [1, 2, 3, 4] rfl)
        · have tc86_ := (show s50_.toInt ≠ 0 from ti_ne rfl rg_11 c86_)
          refine lv_iload hx hb dX1_bring_57 (lv_at hl 1 rfl) ?_
          refine lv_iconst (v := 1) hx hb dX1_bring_59 rg_6 ?_
          refine lv_isub hx hb dX1_bring_60 ?_
          refine lv_topi (fun z87_ ez87_ => ?_)
          have tz87_ : z87_.toInt = z1_.toInt - 1 := ti_sub ez87_ rfl rg_18 o74 o75
          refine lv_goto (tgt := 66) hx hb dX1_bring_61 rfl ?_
          have o140 : 0 ≤ z87_.toInt := by omega
          have o141 : z87_.toInt ≤ z1_.toInt := by omega
          exact pt66_  z87_ _ _ _ ⟨o140, o141⟩ hP hD hS (lv_sub hl [1, 2, 3, 4] rfl)
      refine lv_iload hx hb dX1_bring_26 (lv_at hl 0 rfl) ?_
      refine lv_if_le (tgt := 49) hx hb dX1_bring_28 rfl (fun c88_ => ?_) (fun c88_ => ?_)
      · have tc88_ := (show z1_.toInt ≤ 0 from ti_le rfl rg_11 c88_)
        refine lv_iconst (v := 0) hx hb dX1_bring_49 rg_0 ?_
        have kk89_ : (0 : Int32).toInt = 0 := rg_11
        have o142 : (0 : Int32).toInt = 0 ∨ ((0 : Int32).toInt = 1 ∧ 0 < z1_.toInt) := by omega
        exact pt50_  0 _ _ _ o142 hP hD hS (lv_sub hl [0, 1, 2, 3] rfl)
      · have tc88_ := (show 0 < z1_.toInt from ti_nle rfl rg_11 c88_)
        refine lv_aload_n hx hb dX1_bring_31 rfl (lv_at hl 1 rfl) ?_
        refine va_get (D := (dC, dI)) (ci := 1) (v := .ref (kA κ 27)) (C := RX1) (T := TX1) (N := 7) hx hb hts hin1 hown hK hP 27 rfl rfl 4 (Nat.le_of_ble_eq_true rfl) (ho (.fieldLink RX1 15 "NearEnough$Front" "offs" "[J") (List.mem_of_getElem? (i := 1) rfl)) (fun _ h9 => h9) rfl dX1_bring_32 ?_
        refine lv_iload hx hb dX1_bring_35 (lv_at hl 0 rfl) ?_
        refine lv_iconst (v := 1) hx hb dX1_bring_37 rg_6 ?_
        refine lv_isub hx hb dX1_bring_38 ?_
        refine lv_topi (fun z90_ ez90_ => ?_)
        have tz90_ : z90_.toInt = z1_.toInt - 1 := ti_sub ez90_ rfl rg_18 o74 o75
        have o143 : 0 ≤ z90_.toInt := by omega
        have o144 : z90_.toInt < ((4096 : Nat) : Int) := by omega
        refine va_lald hx hb hK hP 28 21 rfl rfl (ti_inx o143 o144) dX1_bring_39 ?_
        refine lv_topl (fun y91_ ey91_ => ?_)
        refine lv_lload_n hx hb dX1_bring_40 rfl (lv_at hl 2 rfl) ?_
        refine W.lcmp hx hb dX1_bring_41 ?_
        refine lv_topi (fun z92_ ez92_ => ?_)
        refine lv_if_ne (tgt := 49) hx hb dX1_bring_42 rfl (fun c93_ => ?_) (fun c93_ => ?_)
        · have tc93_ := (show z92_.toInt ≠ 0 from ti_ne rfl rg_11 c93_)
          have lc93_ : ¬ y91_ = x := fun h => c93_ (by rw [ez92_]; exact (lg_cmp_eq y91_ x).mpr h)
          refine lv_iconst (v := 0) hx hb dX1_bring_49 rg_0 ?_
          have kk94_ : (0 : Int32).toInt = 0 := rg_11
          have o145 : (0 : Int32).toInt = 0 ∨ ((0 : Int32).toInt = 1 ∧ 0 < z1_.toInt) := by omega
          exact pt50_  0 _ _ _ o145 hP hD hS (lv_sub hl [0, 1, 2, 3] rfl)
        · have tc93_ := (show z92_.toInt = 0 from ti_eq rfl rg_11 c93_)
          have lc93_ : y91_ = x := (lg_cmp_eq y91_ x).mp (by rw [← ez92_]; exact c93_)
          refine lv_iconst (v := 1) hx hb dX1_bring_45 rg_6 ?_
          refine lv_goto (tgt := 50) hx hb dX1_bring_46 rfl ?_
          have kk95_ : (1 : Int32).toInt = 1 := rg_18
          have o146 : (1 : Int32).toInt = 0 ∨ ((1 : Int32).toInt = 1 ∧ 0 < z1_.toInt) := by omega
          exact pt50_  1 _ _ _ o146 hP hD hS (lv_sub hl [0, 1, 2, 3] rfl)
    · have tc51_ := (show y.toInt ≤ z50_.toInt from ti_nlt rfl rfl c51_)
      rw [hQ]
      exact W.vret hx hb hr (fun t ht hW => ⟨⟨(φ, σ), rfl, ⟨hI, hF, trivial⟩, wEn_of hP (hK.sub [] rfl) hD ht hW⟩, hS.F ht⟩) hS.2.2 dX1_bring_25
def ow_f_gather : List Cond := [.fieldLink RX1 9 "NearEnough$Front" "itsEnd" "I", .fieldLink RX1 23 "NearEnough$Front" "count" "I", .fieldLink RX1 34 "NearEnough$Front" "shown" "LNearEnough$Shown;", .fieldLink RX1 26 "NearEnough$Front" "told" "LNearEnough$Program;", .fieldLink RX1 47 "NearEnough$Program" "endStep" "[I", .fieldLink RX1 30 "NearEnough$Front" "changes" "LNearEnough$Changes;", .fieldLink RX1 56 "NearEnough$Changes" "bits" "I"]
def vs_f_gather : List Cond := .code yX1_gather cX1_gather 3 none :: (ow_f_gather ++ (([.methodLink RX1 38 yX8_restart, .instanceMethod yX8_restart, .selects RX8 yX8_restart yX8_restart, .initialized RX8] : List Cond) ++ (vs_k_restart ++ (([.methodLink RX1 43 yX8_next, .instanceMethod yX8_next, .selects RX8 yX8_next yX8_next, .initialized RX8] : List Cond) ++ (vs_k_next ++ (([.methodLink RX1 52 yX8_farOff, .instanceMethod yX8_farOff, .selects RX8 yX8_farOff yX8_farOff, .initialized RX8] : List Cond) ++ (vs_k_farOff ++ (([.methodLink RX1 61 yX0_savedBy, .instanceMethod yX0_savedBy, .selects RX0 yX0_savedBy yX0_savedBy, .initialized RX0] : List Cond) ++ (vs_k_savedBy ++ (([.methodLink RX1 65 yX1_bring, .instanceMethod yX1_bring, .selects RX1 yX1_bring yX1_bring, .initialized RX1] : List Cond) ++ (vs_f_bring ++ (wsX00 ++ (wsX10 ++ (wsX30))))))))))))))
theorem vg_f_gather : vs_f_gather.all goodWord = true := by decide +kernel
theorem dd_f_gather : yX1_gather.cls = RX1 ∧ yX1_gather.cls ≠ "java/lang/invoke/MethodHandle" ∧ yX1_gather.cls ≠ "java/lang/invoke/VarHandle" ∧ (parseMethodDescriptor yX1_gather.desc).map (fun d => d.parameters.length) = some 1 := by decide +kernel
def rm_f_gather : Room := { frames := 6, cells := 0, slots := 0, locals := 145 }
theorem gd_f_gather_38_k_restart : GoodIn vs_f_gather (wsV RX1 38 RX8 yX8_restart vs_k_restart) := goodIn_app (goodIn_sub (fun w h => (List.mem_cons_of_mem _ (List.mem_append_right _ (List.mem_append_left _ h)))) (by decide +kernel)) (goodIn_sub (fun w h => (List.mem_cons_of_mem _ (List.mem_append_right _ (List.mem_append_right _ (List.mem_append_left _ h))))) vg_k_restart)
theorem gd_f_gather_43_k_next : GoodIn vs_f_gather (wsV RX1 43 RX8 yX8_next vs_k_next) := goodIn_app (goodIn_sub (fun w h => (List.mem_cons_of_mem _ (List.mem_append_right _ (List.mem_append_right _ (List.mem_append_right _ (List.mem_append_left _ h)))))) (by decide +kernel)) (goodIn_sub (fun w h => (List.mem_cons_of_mem _ (List.mem_append_right _ (List.mem_append_right _ (List.mem_append_right _ (List.mem_append_right _ (List.mem_append_left _ h))))))) vg_k_next)
theorem gd_f_gather_52_k_farOff : GoodIn vs_f_gather (wsV RX1 52 RX8 yX8_farOff vs_k_farOff) := goodIn_app (goodIn_sub (fun w h => (List.mem_cons_of_mem _ (List.mem_append_right _ (List.mem_append_right _ (List.mem_append_right _ (List.mem_append_right _ (List.mem_append_right _ (List.mem_append_left _ h)))))))) (by decide +kernel)) (goodIn_sub (fun w h => (List.mem_cons_of_mem _ (List.mem_append_right _ (List.mem_append_right _ (List.mem_append_right _ (List.mem_append_right _ (List.mem_append_right _ (List.mem_append_right _ (List.mem_append_left _ h))))))))) vg_k_farOff)
theorem gd_f_gather_61_k_savedBy : GoodIn vs_f_gather (wsV RX1 61 RX0 yX0_savedBy vs_k_savedBy) := goodIn_app (goodIn_sub (fun w h => (List.mem_cons_of_mem _ (List.mem_append_right _ (List.mem_append_right _ (List.mem_append_right _ (List.mem_append_right _ (List.mem_append_right _ (List.mem_append_right _ (List.mem_append_right _ (List.mem_append_left _ h)))))))))) (by decide +kernel)) (goodIn_sub (fun w h => (List.mem_cons_of_mem _ (List.mem_append_right _ (List.mem_append_right _ (List.mem_append_right _ (List.mem_append_right _ (List.mem_append_right _ (List.mem_append_right _ (List.mem_append_right _ (List.mem_append_right _ (List.mem_append_left _ h))))))))))) vg_k_savedBy)
theorem gd_f_gather_65_f_bring : GoodIn vs_f_gather (wsV RX1 65 RX1 yX1_bring vs_f_bring) := goodIn_app (goodIn_sub (fun w h => (List.mem_cons_of_mem _ (List.mem_append_right _ (List.mem_append_right _ (List.mem_append_right _ (List.mem_append_right _ (List.mem_append_right _ (List.mem_append_right _ (List.mem_append_right _ (List.mem_append_right _ (List.mem_append_right _ (List.mem_append_left _ h)))))))))))) (by decide +kernel)) (goodIn_sub (fun w h => (List.mem_cons_of_mem _ (List.mem_append_right _ (List.mem_append_right _ (List.mem_append_right _ (List.mem_append_right _ (List.mem_append_right _ (List.mem_append_right _ (List.mem_append_right _ (List.mem_append_right _ (List.mem_append_right _ (List.mem_append_right _ (List.mem_append_left _ h))))))))))))) vg_f_bring)
set_option maxHeartbeats 4000000 in
set_option maxRecDepth 100000 in
theorem f_gather (l : Launch) (dC : Nat → ClassId) (dI : Nat → Nat → Nat) (κ : CE) (a : Nat) (Y : va_W) (sz : Nat) (φ σ : MS) (x : Int32) (hk : PInv κ) (hI : CInv σ) (hF : FInv φ) (hx0 : 0 ≤ x.toInt ∧ x.toInt < (pI κ 2).toInt) : Met l yX1_gather vs_f_gather rm_f_gather (va_Pc [.ref a, .int x] (wSy dC dI (xW κ (FR κ a φ ++ Y) σ) (tT κ) sz)) (va_Qv (fun (u : MS × MS) => CInv u.2 ∧ FInv u.1 ∧ True) (fun (u : MS × MS) => wEn dC dI (va_A (xW κ (FR κ a φ ++ Y) σ) sz) (xW κ (FR κ a u.1 ++ Y) u.2) []) (va_A (xW κ (FR κ a φ ++ Y) σ) sz)) 0 0 (va_A (xW κ (FR κ a φ ++ Y) σ) sz) := by
  refine Met.ofW (cc := cX1_gather) (maxL := 3) (ret := none) (by decide +kernel) rfl ?_
  intro p e s m args below meth c s₁ B hml hv
  obtain ⟨rfl, hsz, hP, hK, hD0, hE⟩ := hv
  have hx := B.exec
  have hb := B.bytes
  have hr := B.returns
  have hts := atoms_spec (ws := vs_f_gather) B.pre
  have hown : s.vm.findClass RX1 = some m.cls := findClass_of_methodNamed B.named
  have hlocks := B.notSynchronized
  subst hsz
  have hD := hD0.self (sz := s.heap.size)
  generalize hAe : va_A (xW κ (FR κ a φ ++ Y) σ) s.heap.size = A at hD ⊢
  have hA : ∀ q : Nat, s.heap.size ≤ q → A q := fun q h => by rw [← hAe]; exact Or.inr h
  have hl := lv_entry ([.ref a, .int x]) (n := 3) (Nat.le_of_ble_eq_true rfl)
  rw [lg_entry_eq]
  generalize (lg_sl ([.ref a, .int x]) ++ List.replicate (3 - (lg_sl ([.ref a, .int x])).length) Slot.unset).toArray = ls at hl ⊢
  have hl : lv_has ls 3 [(0, .ref a), (1, .int x)] := hl
  have ho := fun w (h : w ∈ ow_f_gather) => hts w (List.mem_cons_of_mem _ (List.mem_append_left _ h))
  have hin0 : ∀ w ∈ u_ws RX0 TX0 7, w ∈ vs_f_gather := fun w h => (List.mem_cons_of_mem _ (List.mem_append_right _ (List.mem_append_right _ (List.mem_append_right _ (List.mem_append_right _ (List.mem_append_right _ (List.mem_append_right _ (List.mem_append_right _ (List.mem_append_right _ (List.mem_append_right _ (List.mem_append_right _ (List.mem_append_right _ (List.mem_append_left _ h)))))))))))))
  have hin1 : ∀ w ∈ u_ws RX1 TX1 7, w ∈ vs_f_gather := fun w h => (List.mem_cons_of_mem _ (List.mem_append_right _ (List.mem_append_right _ (List.mem_append_right _ (List.mem_append_right _ (List.mem_append_right _ (List.mem_append_right _ (List.mem_append_right _ (List.mem_append_right _ (List.mem_append_right _ (List.mem_append_right _ (List.mem_append_right _ (List.mem_append_right _ (List.mem_append_left _ h))))))))))))))
  have hin3 : ∀ w ∈ u_ws RX3 TX3 8, w ∈ vs_f_gather := fun w h => (List.mem_cons_of_mem _ (List.mem_append_right _ (List.mem_append_right _ (List.mem_append_right _ (List.mem_append_right _ (List.mem_append_right _ (List.mem_append_right _ (List.mem_append_right _ (List.mem_append_right _ (List.mem_append_right _ (List.mem_append_right _ (List.mem_append_right _ (List.mem_append_right _ (List.mem_append_right _ h))))))))))))))
  refine zQ (fun Q hQ => ?_)
  refine zH (A := A) (ws := (xW κ (FR κ a φ ++ Y) σ)) (fun H hP hS => ?_) hP
  have hk0 := hk.1
  have hk1 := hk.2.1
  have hk2 := hk.2.2.1
  have hKc : va_K (dC, dI) vwCl (cT κ) s := hK.sub [0, 1, 2, 3, 4, 5, 6, 7, 8, 9, 10, 11, 12, 13, 14, 15, 16, 17, 18, 19, 20] rfl
  refine lv_aload_n hx hb dX1_gather_0 rfl (lv_at hl 0 rfl) ?_
  refine va_get (D := (dC, dI)) (ci := 1) (v := .int (φ.1 1)) (C := RX1) (T := TX1) (N := 7) hx hb hts hin1 hown hK hP 27 rfl rfl 3 (Nat.le_of_ble_eq_true rfl) (ho (.fieldLink RX1 9 "NearEnough$Front" "itsEnd" "I") (List.mem_of_getElem? (i := 0) rfl)) (fun _ h9 => h9) rfl dX1_gather_1 ?_
  refine lv_iload_n hx hb dX1_gather_4 rfl (lv_at hl 1 rfl) ?_
  refine lv_icmp_ne (tgt := 9) hx hb dX1_gather_5 rfl (fun c1_ => ?_) (fun c1_ => ?_)
  · have tc1_ := (show (φ.1 1).toInt ≠ x.toInt from ti_ne rfl rfl c1_)
    refine lv_aload_n hx hb dX1_gather_9 rfl (lv_at hl 0 rfl) ?_
    refine lv_iload_n hx hb dX1_gather_10 rfl (lv_at hl 1 rfl) ?_
    refine va_put (D := (dC, dI)) (ci := 1) (v := .int x) (ty := tyX1 3) (C := RX1) (T := TX1) (N := 7) hx hb hts hin1 tyX1 tyX1_ok nmX1 hown hK hP hD hS 27 rfl rfl 3 (Nat.le_of_ble_eq_true rfl) (ho (.fieldLink RX1 9 "NearEnough$Front" "itsEnd" "I") (List.mem_of_getElem? (i := 0) rfl)) (fun _ h9 => h9) rfl (tyX1_ok 3 (Nat.le_of_ble_eq_true rfl)) rfl rfl (Nat.le_of_ble_eq_true rfl) dX1_gather_11 (fun H locs hP hD hS => ?_)
    have hP : va_P (dC, dI) vwCl (xW κ (FR κ a (sI φ 1 x) ++ Y) σ) H := hP
    have hD : va_D A (xW κ (FR κ a (sI φ 1 x) ++ Y) σ) := hD
    refine lv_aload_n hx hb dX1_gather_14 rfl (lv_at hl 0 rfl) ?_
    refine lv_iconst (v := 0) hx hb dX1_gather_15 rg_0 ?_
    refine va_put (D := (dC, dI)) (ci := 1) (v := .int 0) (ty := tyX1 6) (C := RX1) (T := TX1) (N := 7) hx hb hts hin1 tyX1 tyX1_ok nmX1 hown hK hP hD hS 27 rfl rfl 6 (Nat.le_of_ble_eq_true rfl) (ho (.fieldLink RX1 23 "NearEnough$Front" "count" "I") (List.mem_of_getElem? (i := 1) rfl)) (fun _ h9 => h9) rfl (tyX1_ok 6 (Nat.le_of_ble_eq_true rfl)) rfl rfl (Nat.le_of_ble_eq_true rfl) dX1_gather_16 (fun H locs hP hD hS => ?_)
    have hP : va_P (dC, dI) vwCl (xW κ (FR κ a (sI (sI φ 1 x) 2 0) ++ Y) σ) H := hP
    have hD : va_D A (xW κ (FR κ a (sI (sI φ 1 x) 2 0) ++ Y) σ) := hD
    refine lv_aload_n hx hb dX1_gather_19 rfl (lv_at hl 0 rfl) ?_
    refine va_get (D := (dC, dI)) (ci := 1) (v := .ref (kA κ 21)) (C := RX1) (T := TX1) (N := 7) hx hb hts hin1 hown hK hP 27 rfl rfl 2 (Nat.le_of_ble_eq_true rfl) (ho (.fieldLink RX1 34 "NearEnough$Front" "shown" "LNearEnough$Shown;") (List.mem_of_getElem? (i := 2) rfl)) (fun _ h9 => h9) rfl dX1_gather_20 ?_
    refine zy_v (va_runV (As := []) (rest := []) ⟨hx, hb, hml, hown, hts⟩ (k_restart l dC dI (ky κ (FR κ a (sI (sI φ 1 x) 2 0) ++ Y)) H.size σ  hk hI ) (cwV 0 hts gd_f_gather_38_k_restart rfl rfl rfl dd_k_restart ⟨Nat.le_of_ble_eq_true rfl, Nat.le_of_ble_eq_true rfl⟩) (preVy (xcP hP) hKc (xcD hD) hE (ci := 8) (q0 := 21) rfl rfl) rfl rfl hl.1 rfl (lv_room (Nat.le_of_ble_eq_true rfl)) dX1_gather_23 ⟨Nat.le_of_ble_eq_true rfl, Nat.le_of_ble_eq_true rfl⟩) (xcD hD) hS hA (fun τ3_ H locs hq hP hD hS => ?_)
    obtain ⟨hτ3_, q4_⟩ := hq
    have hP : va_P (dC, dI) vwCl (xW κ (FR κ a (sI (sI φ 1 x) 2 0) ++ Y) τ3_) H := cxP hP
    have hD : va_D A (xW κ (FR κ a (sI (sI φ 1 x) 2 0) ++ Y) τ3_) := cxD hD
    refine W.widen (k := 0) (n := 0) (Nat.le_of_ble_eq_true rfl) (Nat.le_of_ble_eq_true rfl) ?_
    refine lv_iconst (v := 0) hx hb dX1_gather_26 rg_0 ?_
    refine lv_istore_n (lv' := [(2, .int 0), (0, .ref a), (1, .int x)]) hx hb dX1_gather_27 rfl hl (Nat.le_of_ble_eq_true rfl) rfl (fun ls hl => ?_)
    have pt28_ : ∀ (n28_ : Nat) (φ28_ : MS) (σ28_ : MS) (v2_ : Int32) (H : Heap) (locs : List Loc) (ls : Array Slot), (4096 - v2_.toInt).toNat < n28_ → CInv σ28_ → FInv φ28_ → (0 ≤ v2_.toInt) → va_P (dC, dI) vwCl (xW κ (FR κ a φ28_ ++ Y) σ28_) H → va_D A (xW κ (FR κ a φ28_ ++ Y) σ28_) → va_S A s.heap H locs → lv_has ls 3 [(2, .int v2_), (0, .ref a), (1, .int x)] → W p l e (headSpec vs_f_gather rm_f_gather).room s m #[Value.ref a, Value.int x] below meth c H locs 0 0 Q (F0 m 28 ls []) := by
      intro n28_
      induction n28_ with
      | zero => intro φ28_ σ28_ v2_ H locs ls hn28_ hIσ28_ hFφ28_ hf28_0_ hP hD hS hl; exact absurd hn28_ (Nat.not_lt_zero _)
      | succ n28_ ih28_ =>
        intro φ28_ σ28_ v2_ H locs ls hn28_ hIσ28_ hFφ28_ hf28_0_ hP hD hS hl
        refine lv_iload_n hx hb dX1_gather_28 rfl (lv_at hl 0 rfl) ?_
        refine lv_sipush (v := 4096) hx hb dX1_gather_29 rx_5b0cde361b ?_
        refine lv_icmp_ge (tgt := 85) hx hb dX1_gather_32 rfl (fun c5_ => ?_) (fun c5_ => ?_)
        · have tc5_ := (show 4096 ≤ v2_.toInt from ti_le rx_5cf37c826d rfl c5_)
          rw [hQ]
          exact W.vret hx hb hr (fun t ht hW => ⟨⟨(φ28_, σ28_), rfl, ⟨hIσ28_, hFφ28_, trivial⟩, wEn_of hP (hK.sub [] rfl) hD ht hW⟩, hS.F ht⟩) hS.2.2 dX1_gather_85
        · have tc5_ := (show v2_.toInt < 4096 from ti_nle rx_5cf37c826d rfl c5_)
          refine lv_aload_n hx hb dX1_gather_35 rfl (lv_at hl 1 rfl) ?_
          refine va_get (D := (dC, dI)) (ci := 1) (v := .ref (kA κ 21)) (C := RX1) (T := TX1) (N := 7) hx hb hts hin1 hown hK hP 27 rfl rfl 2 (Nat.le_of_ble_eq_true rfl) (ho (.fieldLink RX1 34 "NearEnough$Front" "shown" "LNearEnough$Shown;") (List.mem_of_getElem? (i := 2) rfl)) (fun _ h9 => h9) rfl dX1_gather_36 ?_
          refine zy_i (va_runV (As := []) (rest := []) ⟨hx, hb, hml, hown, hts⟩ (k_next l dC dI (ky κ (FR κ a φ28_ ++ Y)) H.size σ28_  hk hIσ28_ ) (cwV 0 hts gd_f_gather_43_k_next rfl rfl rfl dd_k_next ⟨Nat.le_of_ble_eq_true rfl, Nat.le_of_ble_eq_true rfl⟩) (preVy (xcP hP) hKc (xcD hD) hE (ci := 8) (q0 := 21) rfl rfl) rfl rfl hl.1 rfl (lv_room (Nat.le_of_ble_eq_true rfl)) dX1_gather_39 ⟨Nat.le_of_ble_eq_true rfl, Nat.le_of_ble_eq_true rfl⟩) (xcD hD) hS hA (fun z6_ τ7_ H locs hq hP hD hS => ?_)
          obtain ⟨hτ7_, q8_⟩ := hq
          have hP : va_P (dC, dI) vwCl (xW κ (FR κ a φ28_ ++ Y) τ7_) H := cxP hP
          have hD : va_D A (xW κ (FR κ a φ28_ ++ Y) τ7_) := cxD hD
          have q8_ : z6_.toInt = 0 ∨ z6_.toInt = 1 := q8_
          refine W.widen (k := 0) (n := 0) (Nat.le_of_ble_eq_true rfl) (Nat.le_of_ble_eq_true rfl) ?_
          refine lv_if_eq (tgt := 85) hx hb dX1_gather_42 rfl (fun c9_ => ?_) (fun c9_ => ?_)
          · have tc9_ := (show z6_.toInt = 0 from ti_eq rfl rg_11 c9_)
            rw [hQ]
            exact W.vret hx hb hr (fun t ht hW => ⟨⟨(φ28_, τ7_), rfl, ⟨hτ7_, hFφ28_, trivial⟩, wEn_of hP (hK.sub [] rfl) hD ht hW⟩, hS.F ht⟩) hS.2.2 dX1_gather_85
          · have tc9_ := (show z6_.toInt ≠ 0 from ti_ne rfl rg_11 c9_)
            refine lv_aload_n hx hb dX1_gather_45 rfl (lv_at hl 1 rfl) ?_
            refine lv_aload_n hx hb dX1_gather_46 rfl (lv_at hl 1 rfl) ?_
            refine va_get (D := (dC, dI)) (ci := 1) (v := .ref (kA κ 21)) (C := RX1) (T := TX1) (N := 7) hx hb hts hin1 hown hK hP 27 rfl rfl 2 (Nat.le_of_ble_eq_true rfl) (ho (.fieldLink RX1 34 "NearEnough$Front" "shown" "LNearEnough$Shown;") (List.mem_of_getElem? (i := 2) rfl)) (fun _ h9 => h9) rfl dX1_gather_47 ?_
            refine lv_aload_n hx hb dX1_gather_50 rfl (lv_at hl 1 rfl) ?_
            refine va_get (D := (dC, dI)) (ci := 1) (v := .ref (kA κ 6)) (C := RX1) (T := TX1) (N := 7) hx hb hts hin1 hown hK hP 27 rfl rfl 0 (Nat.le_of_ble_eq_true rfl) (ho (.fieldLink RX1 26 "NearEnough$Front" "told" "LNearEnough$Program;") (List.mem_of_getElem? (i := 3) rfl)) (fun _ h9 => h9) rfl dX1_gather_51 ?_
            refine va_get (D := (dC, dI)) (ci := 3) (v := .ref (kA κ 9)) (C := RX3) (T := TX3) (N := 8) hx hb hts hin3 hown hK hP 6 rfl rfl 2 (Nat.le_of_ble_eq_true rfl) (ho (.fieldLink RX1 47 "NearEnough$Program" "endStep" "[I") (List.mem_of_getElem? (i := 4) rfl)) (fun _ h9 => h9) rfl dX1_gather_54 ?_
            refine lv_iload_n hx hb dX1_gather_57 rfl (lv_at hl 2 rfl) ?_
            have o1 : 0 ≤ x.toInt := by omega
            have o2 : x.toInt < ((4 : Nat) : Int) := by omega
            refine va_iald hx hb hK hP 9 7 rfl rfl (ti_inx o1 o2) dX1_gather_58 ?_
            refine lv_topi (fun z10_ ez10_ => ?_)
            have o3 : x.toInt < (pI κ 2).toInt := by omega
            have bz10_ := hk.en ez10_ o1 o3
            have o4 : 0 ≤ z10_.toInt := by omega
            have o5 : z10_.toInt ≤ 11 := by omega
            refine zy_l (va_runV (As := [.int z10_]) (rest := [.ref a]) ⟨hx, hb, hml, hown, hts⟩ (k_farOff l dC dI (ky κ (FR κ a φ28_ ++ Y)) H.size τ7_ z10_ hk hτ7_ ⟨o4, o5⟩) (cwV 1 hts gd_f_gather_52_k_farOff rfl rfl rfl dd_k_farOff ⟨Nat.le_of_ble_eq_true rfl, Nat.le_of_ble_eq_true rfl⟩) (preVy (xcP hP) hKc (xcD hD) hE (ci := 8) (q0 := 21) rfl rfl) rfl rfl hl.1 rfl (lv_room (Nat.le_of_ble_eq_true rfl)) dX1_gather_59 ⟨Nat.le_of_ble_eq_true rfl, Nat.le_of_ble_eq_true rfl⟩) (xcD hD) hS hA (fun y11_ τ12_ H locs hq hP hD hS => ?_)
            obtain ⟨hτ12_, q13_⟩ := hq
            rw [hτ12_] at hP hD
            have hP : va_P (dC, dI) vwCl (xW κ (FR κ a φ28_ ++ Y) τ7_) H := cxP hP
            have hD : va_D A (xW κ (FR κ a φ28_ ++ Y) τ7_) := cxD hD
            refine W.widen (k := 0) (n := 0) (Nat.le_of_ble_eq_true rfl) (Nat.le_of_ble_eq_true rfl) ?_
            refine lv_aload_n hx hb dX1_gather_62 rfl (lv_at hl 1 rfl) ?_
            refine va_get (D := (dC, dI)) (ci := 1) (v := .ref (kA κ 15)) (C := RX1) (T := TX1) (N := 7) hx hb hts hin1 hown hK hP 27 rfl rfl 1 (Nat.le_of_ble_eq_true rfl) (ho (.fieldLink RX1 30 "NearEnough$Front" "changes" "LNearEnough$Changes;") (List.mem_of_getElem? (i := 5) rfl)) (fun _ h9 => h9) rfl dX1_gather_63 ?_
            refine lv_aload_n hx hb dX1_gather_66 rfl (lv_at hl 1 rfl) ?_
            refine va_get (D := (dC, dI)) (ci := 1) (v := .ref (kA κ 15)) (C := RX1) (T := TX1) (N := 7) hx hb hts hin1 hown hK hP 27 rfl rfl 1 (Nat.le_of_ble_eq_true rfl) (ho (.fieldLink RX1 30 "NearEnough$Front" "changes" "LNearEnough$Changes;") (List.mem_of_getElem? (i := 5) rfl)) (fun _ h9 => h9) rfl dX1_gather_67 ?_
            refine va_get (D := (dC, dI)) (ci := 0) (v := .int (τ7_.1 19)) (C := RX0) (T := TX0) (N := 7) hx hb hts hin0 hown hK hP 15 rfl rfl 6 (Nat.le_of_ble_eq_true rfl) (ho (.fieldLink RX1 56 "NearEnough$Changes" "bits" "I") (List.mem_of_getElem? (i := 6) rfl)) (fun _ h9 => h9) rfl dX1_gather_70 ?_
            refine zy_i (va_runV (As := [.int (τ7_.1 19)]) (rest := [.long y11_, .ref a]) ⟨hx, hb, hml, hown, hts⟩ (k_savedBy l dC dI (ky κ (FR κ a φ28_ ++ Y)) H.size τ7_ (τ7_.1 19) hk hτ7_ ) (cwV 1 hts gd_f_gather_61_k_savedBy rfl rfl rfl dd_k_savedBy ⟨Nat.le_of_ble_eq_true rfl, Nat.le_of_ble_eq_true rfl⟩) (preVy (xcP hP) hKc (xcD hD) hE (ci := 0) (q0 := 15) rfl rfl) rfl rfl hl.1 rfl (lv_room (Nat.le_of_ble_eq_true rfl)) dX1_gather_73 ⟨Nat.le_of_ble_eq_true rfl, Nat.le_of_ble_eq_true rfl⟩) (xcD hD) hS hA (fun z14_ τ15_ H locs hq hP hD hS => ?_)
            obtain ⟨hτ15_, q16_⟩ := hq
            rw [hτ15_] at hP hD
            have hP : va_P (dC, dI) vwCl (xW κ (FR κ a φ28_ ++ Y) τ7_) H := cxP hP
            have hD : va_D A (xW κ (FR κ a φ28_ ++ Y) τ7_) := cxD hD
            refine W.widen (k := 0) (n := 0) (Nat.le_of_ble_eq_true rfl) (Nat.le_of_ble_eq_true rfl) ?_
            refine zy_v (va_runV (As := [.long y11_, .int z14_]) (rest := []) ⟨hx, hb, hml, hown, hts⟩ (f_bring l dC dI κ a Y H.size φ28_ τ7_ y11_ z14_ hk hτ7_ hFφ28_ ) (cwV 2 hts gd_f_gather_65_f_bring rfl rfl rfl dd_f_bring ⟨Nat.le_of_ble_eq_true rfl, Nat.le_of_ble_eq_true rfl⟩) (preVy hP hK hD hE (ci := 1) (q0 := 27) rfl rfl) rfl rfl hl.1 rfl (lv_room (Nat.le_of_ble_eq_true rfl)) dX1_gather_76 ⟨Nat.le_of_ble_eq_true rfl, Nat.le_of_ble_eq_true rfl⟩) hD hS hA (fun τ18_ H locs hq hP hD hS => ?_)
            obtain ⟨φ20_, τ21_⟩ := τ18_
            obtain ⟨hτ21_, hφ20_, q19_⟩ := hq
            have hP : va_P (dC, dI) vwCl (xW κ (FR κ a φ20_ ++ Y) τ21_) H := hP
            have hD : va_D A (xW κ (FR κ a φ20_ ++ Y) τ21_) := hD
            refine W.widen (k := 0) (n := 0) (Nat.le_of_ble_eq_true rfl) (Nat.le_of_ble_eq_true rfl) ?_
            obtain ⟨z22_, ez22_⟩ : ∃ y : Int32, y = v2_ + 1 := ⟨_, rfl⟩
            have o6 : -2147483648 ≤ v2_.toInt + 1 := by omega
            have o7 : v2_.toInt + 1 ≤ 2147483647 := by omega
            have tz22_ := ti_add ez22_ rfl rg_18 o6 o7
            refine lv_iinc (v := z22_) (lv' := [(2, .int z22_), (0, .ref a), (1, .int x)]) hx hb dX1_gather_79 hl (k := 0) rfl (iincp ez22_ rg_6) (Nat.le_of_ble_eq_true rfl) rfl (fun ls hl => ?_)
            refine lv_goto (tgt := 28) hx hb dX1_gather_82 rfl ?_
            have o8 : (4096 - z22_.toInt).toNat < n28_ := by omega
            have o9 : 0 ≤ z22_.toInt := by omega
            exact ih28_ φ20_ τ21_ z22_ _ _ _ o8 hτ21_ hφ20_ o9 hP hD hS (lv_sub hl [0, 1, 2] rfl)
    have kk23_ : (0 : Int32).toInt = 0 := rg_11
    have kk24_ : (0 : Int32).toInt = 0 := rg_11
    have o10 : 0 ≤ (0 : Int32).toInt := by omega
    have o11 : (0 : Int32).toInt ≤ 4096 := by omega
    exact pt28_ _ (sI (sI φ 1 x) 2 0) τ3_ 0 _ _ _ (Nat.lt_succ_self _) hτ3_ ⟨o10, o11⟩ o10 hP hD hS (lv_sub hl [0, 1, 2] rfl)
  · have tc1_ := (show (φ.1 1).toInt = x.toInt from ti_eq rfl rfl c1_)
    rw [hQ]
    exact W.vret hx hb hr (fun t ht hW => ⟨⟨(φ, σ), rfl, ⟨hI, hF, trivial⟩, wEn_of hP (hK.sub [] rfl) hD ht hW⟩, hS.F ht⟩) hS.2.2 dX1_gather_8
