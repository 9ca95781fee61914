theorem dX12_isLet_70 : decode cX12_isLet 70 = .ok (.iload 7, 2) := by decide +kernel
theorem dX12_isLet_72 : decode cX12_isLet 72 = .ok (.aload_n 0, 1) := by decide +kernel
theorem dX12_isLet_73 : decode cX12_isLet 73 = .ok (.getfield 249, 3) := by decide +kernel
theorem dX12_isLet_76 : decode cX12_isLet 76 = .ok (.if_icmp .ge 57, 3) := by decide +kernel
theorem dX12_isLet_133 : decode cX12_isLet 133 = .ok (.aload_n 0, 1) := by decide +kernel
theorem dX12_isLet_134 : decode cX12_isLet 134 = .ok (.getfield 60, 3) := by decide +kernel
theorem dX12_isLet_137 : decode cX12_isLet 137 = .ok (.iload_n 3, 1) := by decide +kernel
theorem dX12_isLet_138 : decode cX12_isLet 138 = .ok (.iaload, 1) := by decide +kernel
theorem dX12_isLet_139 : decode cX12_isLet 139 = .ok (.iconst 1, 1) := by decide +kernel
theorem dX12_isLet_140 : decode cX12_isLet 140 = .ok (.if_icmp .ne 22, 3) := by decide +kernel
theorem dX12_isLet_162 : decode cX12_isLet 162 = .ok (.aload_n 0, 1) := by decide +kernel
theorem dX12_isLet_163 : decode cX12_isLet 163 = .ok (.getfield 60, 3) := by decide +kernel
theorem dX12_isLet_166 : decode cX12_isLet 166 = .ok (.iload_n 3, 1) := by decide +kernel
theorem dX12_isLet_167 : decode cX12_isLet 167 = .ok (.iaload, 1) := by decide +kernel
theorem dX12_isLet_168 : decode cX12_isLet 168 = .ok (.iconst 2, 1) := by decide +kernel
theorem dX12_isLet_169 : decode cX12_isLet 169 = .ok (.if_icmp .ne 17, 3) := by decide +kernel
theorem dX12_isLet_186 : decode cX12_isLet 186 = .ok (.iinc 2 1, 3) := by decide +kernel
theorem dX12_isLet_189 : decode cX12_isLet 189 = .ok (.goto (-177), 3) := by decide +kernel
theorem dX12_isLet_172 : decode cX12_isLet 172 = .ok (.iload 6, 2) := by decide +kernel
theorem dX12_isLet_174 : decode cX12_isLet 174 = .ok (.bipush 100, 2) := by decide +kernel
theorem dX12_isLet_176 : decode cX12_isLet 176 = .ok (.imul, 1) := by decide +kernel
theorem dX12_isLet_177 : decode cX12_isLet 177 = .ok (.aload_n 0, 1) := by decide +kernel
theorem dX12_isLet_178 : decode cX12_isLet 178 = .ok (.getfield 249, 3) := by decide +kernel
theorem dX12_isLet_181 : decode cX12_isLet 181 = .ok (.if_icmp .le 5, 3) := by decide +kernel
theorem dX12_isLet_184 : decode cX12_isLet 184 = .ok (.iconst 0, 1) := by decide +kernel
theorem dX12_isLet_185 : decode cX12_isLet 185 = .ok (.ireturn, 1) := by decide +kernel
theorem dX12_isLet_143 : decode cX12_isLet 143 = .ok (.lload 4, 2) := by decide +kernel
theorem dX12_isLet_145 : decode cX12_isLet 145 = .ok (.aload_n 0, 1) := by decide +kernel
theorem dX12_isLet_146 : decode cX12_isLet 146 = .ok (.getfield 57, 3) := by decide +kernel
theorem dX12_isLet_149 : decode cX12_isLet 149 = .ok (.iload_n 3, 1) := by decide +kernel
theorem dX12_isLet_150 : decode cX12_isLet 150 = .ok (.iaload, 1) := by decide +kernel
theorem dX12_isLet_151 : decode cX12_isLet 151 = .ok (.i2l, 1) := by decide +kernel
theorem dX12_isLet_152 : decode cX12_isLet 152 = .ok (.aload_n 0, 1) := by decide +kernel
theorem dX12_isLet_153 : decode cX12_isLet 153 = .ok (.getfield 249, 3) := by decide +kernel
theorem dX12_isLet_156 : decode cX12_isLet 156 = .ok (.i2l, 1) := by decide +kernel
theorem dX12_isLet_157 : decode cX12_isLet 157 = .ok (.lmul, 1) := by decide +kernel
theorem dX12_isLet_158 : decode cX12_isLet 158 = .ok (.lcmp, 1) := by decide +kernel
theorem dX12_isLet_159 : decode cX12_isLet 159 = .ok (.ifCond .gt 25, 3) := by decide +kernel
theorem dX12_isLet_79 : decode cX12_isLet 79 = .ok (.aload_n 0, 1) := by decide +kernel
theorem dX12_isLet_80 : decode cX12_isLet 80 = .ok (.getfield 60, 3) := by decide +kernel
theorem dX12_isLet_83 : decode cX12_isLet 83 = .ok (.iload_n 3, 1) := by decide +kernel
theorem dX12_isLet_84 : decode cX12_isLet 84 = .ok (.iaload, 1) := by decide +kernel
theorem dX12_isLet_85 : decode cX12_isLet 85 = .ok (.ifCond .eq 48, 3) := by decide +kernel
theorem dX12_isLet_88 : decode cX12_isLet 88 = .ok (.aload_n 0, 1) := by decide +kernel
theorem dX12_isLet_89 : decode cX12_isLet 89 = .ok (.iload_n 2, 1) := by decide +kernel
theorem dX12_isLet_90 : decode cX12_isLet 90 = .ok (.iload 7, 2) := by decide +kernel
theorem dX12_isLet_92 : decode cX12_isLet 92 = .ok (.invokevirtual 438, 3) := by decide +kernel
theorem dX12_isLet_95 : decode cX12_isLet 95 = .ok (.lstore 8, 2) := by decide +kernel
theorem dX12_isLet_97 : decode cX12_isLet 97 = .ok (.lload 4, 2) := by decide +kernel
theorem dX12_isLet_99 : decode cX12_isLet 99 = .ok (.lload 8, 2) := by decide +kernel
theorem dX12_isLet_101 : decode cX12_isLet 101 = .ok (.ladd, 1) := by decide +kernel
theorem dX12_isLet_102 : decode cX12_isLet 102 = .ok (.lstore 4, 2) := by decide +kernel
theorem dX12_isLet_104 : decode cX12_isLet 104 = .ok (.iload 6, 2) := by decide +kernel
theorem dX12_isLet_106 : decode cX12_isLet 106 = .ok (.lload 8, 2) := by decide +kernel
theorem dX12_isLet_108 : decode cX12_isLet 108 = .ok (.aload_n 0, 1) := by decide +kernel
theorem dX12_isLet_109 : decode cX12_isLet 109 = .ok (.getfield 57, 3) := by decide +kernel
theorem dX12_isLet_112 : decode cX12_isLet 112 = .ok (.iload_n 3, 1) := by decide +kernel
theorem dX12_isLet_113 : decode cX12_isLet 113 = .ok (.iaload, 1) := by decide +kernel
theorem dX12_isLet_114 : decode cX12_isLet 114 = .ok (.i2l, 1) := by decide +kernel
theorem dX12_isLet_115 : decode cX12_isLet 115 = .ok (.lcmp, 1) := by decide +kernel
theorem dX12_isLet_116 : decode cX12_isLet 116 = .ok (.ifCond .le 7, 3) := by decide +kernel
theorem dX12_isLet_123 : decode cX12_isLet 123 = .ok (.iconst 0, 1) := by decide +kernel
theorem dX12_isLet_124 : decode cX12_isLet 124 = .ok (.iadd, 1) := by decide +kernel
theorem dX12_isLet_125 : decode cX12_isLet 125 = .ok (.istore 6, 2) := by decide +kernel
theorem dX12_isLet_127 : decode cX12_isLet 127 = .ok (.iinc 7 1, 3) := by decide +kernel
theorem dX12_isLet_130 : decode cX12_isLet 130 = .ok (.goto (-60), 3) := by decide +kernel
theorem dX12_isLet_119 : decode cX12_isLet 119 = .ok (.iconst 1, 1) := by decide +kernel
theorem dX12_isLet_120 : decode cX12_isLet 120 = .ok (.goto 4, 3) := by decide +kernel
theorem dX12_isLet_12 : decode cX12_isLet 12 = .ok (.iload_n 2, 1) := by decide +kernel
theorem dX12_isLet_13 : decode cX12_isLet 13 = .ok (.aload_n 0, 1) := by decide +kernel
theorem dX12_isLet_14 : decode cX12_isLet 14 = .ok (.getfield 27, 3) := by decide +kernel
theorem dX12_isLet_17 : decode cX12_isLet 17 = .ok (.aload_n 0, 1) := by decide +kernel
theorem dX12_isLet_18 : decode cX12_isLet 18 = .ok (.getfield 240, 3) := by decide +kernel
theorem dX12_isLet_21 : decode cX12_isLet 21 = .ok (.iaload, 1) := by decide +kernel
theorem dX12_isLet_22 : decode cX12_isLet 22 = .ok (.if_icmp .ge 170, 3) := by decide +kernel
theorem dX12_isLet_192 : decode cX12_isLet 192 = .ok (.iconst 1, 1) := by decide +kernel
theorem dX12_isLet_193 : decode cX12_isLet 193 = .ok (.ireturn, 1) := by decide +kernel
theorem dX12_isLet_25 : decode cX12_isLet 25 = .ok (.iconst 4, 1) := by decide +kernel
theorem dX12_isLet_26 : decode cX12_isLet 26 = .ok (.aload_n 0, 1) := by decide +kernel
theorem dX12_isLet_27 : decode cX12_isLet 27 = .ok (.getfield 240, 3) := by decide +kernel
theorem dX12_isLet_30 : decode cX12_isLet 30 = .ok (.imul, 1) := by decide +kernel
theorem dX12_isLet_31 : decode cX12_isLet 31 = .ok (.iload_n 2, 1) := by decide +kernel
theorem dX12_isLet_32 : decode cX12_isLet 32 = .ok (.iadd, 1) := by decide +kernel
theorem dX12_isLet_33 : decode cX12_isLet 33 = .ok (.istore_n 3, 1) := by decide +kernel
theorem dX12_isLet_34 : decode cX12_isLet 34 = .ok (.aload_n 0, 1) := by decide +kernel
theorem dX12_isLet_35 : decode cX12_isLet 35 = .ok (.getfield 60, 3) := by decide +kernel
theorem dX12_isLet_38 : decode cX12_isLet 38 = .ok (.iload_n 3, 1) := by decide +kernel
theorem dX12_isLet_39 : decode cX12_isLet 39 = .ok (.iaload, 1) := by decide +kernel
theorem dX12_isLet_40 : decode cX12_isLet 40 = .ok (.ifCond .ne 21, 3) := by decide +kernel
theorem dX12_isLet_61 : decode cX12_isLet 61 = .ok (.lconst 0, 1) := by decide +kernel
theorem dX12_isLet_62 : decode cX12_isLet 62 = .ok (.lstore 4, 2) := by decide +kernel
theorem dX12_isLet_64 : decode cX12_isLet 64 = .ok (.iconst 0, 1) := by decide +kernel
theorem dX12_isLet_65 : decode cX12_isLet 65 = .ok (.istore 6, 2) := by decide +kernel
theorem dX12_isLet_67 : decode cX12_isLet 67 = .ok (.iconst 0, 1) := by decide +kernel
theorem dX12_isLet_68 : decode cX12_isLet 68 = .ok (.istore 7, 2) := by decide +kernel
theorem dX12_isLet_43 : decode cX12_isLet 43 = .ok (.aload_n 0, 1) := by decide +kernel
theorem dX12_isLet_44 : decode cX12_isLet 44 = .ok (.iload_n 2, 1) := by decide +kernel
theorem dX12_isLet_45 : decode cX12_isLet 45 = .ok (.invokevirtual 434, 3) := by decide +kernel
theorem dX12_isLet_48 : decode cX12_isLet 48 = .ok (.aload_n 0, 1) := by decide +kernel
theorem dX12_isLet_49 : decode cX12_isLet 49 = .ok (.getfield 57, 3) := by decide +kernel
theorem dX12_isLet_52 : decode cX12_isLet 52 = .ok (.iload_n 3, 1) := by decide +kernel
theorem dX12_isLet_53 : decode cX12_isLet 53 = .ok (.iaload, 1) := by decide +kernel
theorem dX12_isLet_54 : decode cX12_isLet 54 = .ok (.i2l, 1) := by decide +kernel
theorem dX12_isLet_55 : decode cX12_isLet 55 = .ok (.lcmp, 1) := by decide +kernel
theorem dX12_isLet_56 : decode cX12_isLet 56 = .ok (.ifCond .le 5, 3) := by decide +kernel
theorem dX12_isLet_59 : decode cX12_isLet 59 = .ok (.iconst 0, 1) := by decide +kernel
theorem dX12_isLet_60 : decode cX12_isLet 60 = .ok (.ireturn, 1) := by decide +kernel
theorem dX12_isLet_0 : decode cX12_isLet 0 = .ok (.aload_n 0, 1) := by decide +kernel
theorem dX12_isLet_1 : decode cX12_isLet 1 = .ok (.iload_n 1, 1) := by decide +kernel
theorem dX12_isLet_2 : decode cX12_isLet 2 = .ok (.invokevirtual 370, 3) := by decide +kernel
theorem dX12_isLet_5 : decode cX12_isLet 5 = .ok (.ifCond .ne 5, 3) := by decide +kernel
theorem dX12_isLet_10 : decode cX12_isLet 10 = .ok (.iconst 0, 1) := by decide +kernel
theorem dX12_isLet_11 : decode cX12_isLet 11 = .ok (.istore_n 2, 1) := by decide +kernel
theorem dX12_isLet_8 : decode cX12_isLet 8 = .ok (.iconst 0, 1) := by decide +kernel
theorem dX12_isLet_9 : decode cX12_isLet 9 = .ok (.ireturn, 1) := by decide +kernel
theorem rg_584 : 24 ∉ [37, 41, 42, 43, 44, 45, 46, 32, 47, 48, 49, 54, 55, 56, 57] := by decide
theorem rg_585 : Int32.ofInt 100 = 100 := by decide
theorem rg_586 : 23 ∉ [37, 41, 42, 43, 44, 45, 46, 32, 47, 48, 49, 54, 55, 56, 57] := by decide
theorem rg_587 : 23 ∉ [42, 41] := by decide
def ow_n_isLet : List Cond := [.fieldLink RX12 249 "NearEnoughModel" "sheets" "I", .fieldLink RX12 60 "NearEnoughModel" "eHow" "[I", .fieldLink RX12 57 "NearEnoughModel" "eOff" "[I", .fieldLink RX12 27 "NearEnoughModel" "endMany" "[I", .fieldLink RX12 240 "NearEnoughModel" "bank" "I"]
def vs_n_isLet : List Cond := .code yX12_isLet cX12_isLet 10 (some .boolean) :: (ow_n_isLet ++ (([.methodLink RX12 438 yX12_farOn, .instanceMethod yX12_farOn, .selects RX12 yX12_farOn yX12_farOn, .initialized RX12] : List Cond) ++ (vs_n_farOn ++ (([.methodLink RX12 434 yX12_offOf, .instanceMethod yX12_offOf, .selects RX12 yX12_offOf yX12_offOf, .initialized RX12] : List Cond) ++ (vs_n_offOf ++ (([.methodLink RX12 370 yX12_isOpen, .instanceMethod yX12_isOpen, .selects RX12 yX12_isOpen yX12_isOpen, .initialized RX12] : List Cond) ++ (vs_n_isOpen ++ (wsX120))))))))
theorem vg_n_isLet : vs_n_isLet.all goodWord = true := by decide +kernel
theorem dd_n_isLet : yX12_isLet.cls = RX12 ∧ yX12_isLet.cls ≠ "java/lang/invoke/MethodHandle" ∧ yX12_isLet.cls ≠ "java/lang/invoke/VarHandle" ∧ (parseMethodDescriptor yX12_isLet.desc).map (fun d => d.parameters.length) = some 1 := by decide +kernel
def rm_n_isLet : Room := { frames := 7, cells := 0, slots := 0, locals := 180 }
theorem gd_n_isLet_438_n_farOn : GoodIn vs_n_isLet (wsV RX12 438 RX12 yX12_farOn vs_n_farOn) := goodIn_app (goodIn_sub (fun w h => (List.mem_cons_of_mem _ (List.mem_append_right _ (List.mem_append_left _ h)))) (by decide +kernel)) (goodIn_sub (fun w h => (List.mem_cons_of_mem _ (List.mem_append_right _ (List.mem_append_right _ (List.mem_append_left _ h))))) vg_n_farOn)
theorem gd_n_isLet_434_n_offOf : GoodIn vs_n_isLet (wsV RX12 434 RX12 yX12_offOf vs_n_offOf) := goodIn_app (goodIn_sub (fun w h => (List.mem_cons_of_mem _ (List.mem_append_right _ (List.mem_append_right _ (List.mem_append_right _ (List.mem_append_left _ h)))))) (by decide +kernel)) (goodIn_sub (fun w h => (List.mem_cons_of_mem _ (List.mem_append_right _ (List.mem_append_right _ (List.mem_append_right _ (List.mem_append_right _ (List.mem_append_left _ h))))))) vg_n_offOf)
theorem gd_n_isLet_370_n_isOpen : GoodIn vs_n_isLet (wsV RX12 370 RX12 yX12_isOpen vs_n_isOpen) := goodIn_app (goodIn_sub (fun w h => (List.mem_cons_of_mem _ (List.mem_append_right _ (List.mem_append_right _ (List.mem_append_right _ (List.mem_append_right _ (List.mem_append_right _ (List.mem_append_left _ h)))))))) (by decide +kernel)) (goodIn_sub (fun w h => (List.mem_cons_of_mem _ (List.mem_append_right _ (List.mem_append_right _ (List.mem_append_right _ (List.mem_append_right _ (List.mem_append_right _ (List.mem_append_right _ (List.mem_append_left _ h))))))))) vg_n_isOpen)
set_option maxHeartbeats 4000000 in
set_option maxRecDepth 100000 in
theorem n_isLet (l : Launch) (dC : Nat → ClassId) (dI : Nat → Nat → Nat) (h : Nat) (ad : Nat → Nat) (cl : Nat → ClassId) (sz : Nat) (σ : MS) (x : Int32) (hI : Inv σ) (hR : RelP σ (σ.1 29).toNatClampNeg) (hC : ChR σ) : Met l yX12_isLet vs_n_isLet rm_n_isLet (va_Pc [.ref h, .int x] (wSt dC dI (mW h ad cl σ) (mT cl) sz)) (va_Qi (fun (r : Int32) (τ : MS) => Inv τ ∧ eqx [37, 41, 42, 43, 44, 45, 46, 32, 47, 48, 49, 54, 55, 56, 57] τ σ) (fun (τ : MS) => wEn dC dI (va_A (mW h ad cl σ) sz) (mW h ad cl τ) []) (va_A (mW h ad cl σ) sz)) 0 0 (va_A (mW h ad cl σ) sz) := by
  refine Met.ofW (cc := cX12_isLet) (maxL := 10) (ret := (some .boolean)) (by decide) rfl ?_
  intro p e s m args below meth c s₁ B hml hv
  obtain ⟨rfl, hsz, hP, hK, hD0, hE⟩ := hv
  have hx := B.exec
  have hb := B.bytes
  have hr := B.returns
  have hts := atoms_spec (ws := vs_n_isLet) B.pre
  have hown : s.vm.findClass RX12 = some m.cls := findClass_of_methodNamed B.named
  have hlocks := B.notSynchronized
  subst hsz
  have hD := hD0.self (sz := s.heap.size)
  generalize hAe : va_A (mW h ad cl σ) s.heap.size = A at hD ⊢
  have hA : ∀ q : Nat, s.heap.size ≤ q → A q := fun q h => by rw [← hAe]; exact Or.inr h
  have hl := lv_entry ([.ref h, .int x]) (n := 10) (Nat.le_of_ble_eq_true rfl)
  rw [lg_entry_eq]
  generalize (lg_sl ([.ref h, .int x]) ++ List.replicate (10 - (lg_sl ([.ref h, .int x])).length) Slot.unset).toArray = ls at hl ⊢
  have hl : lv_has ls 10 [(0, .ref h), (1, .int x)] := hl
  have ho := fun w (h : w ∈ ow_n_isLet) => hts w (List.mem_cons_of_mem _ (List.mem_append_left _ h))
  have hin12 : ∀ w ∈ u_ws RX12 TX12 59, w ∈ vs_n_isLet := fun w h => (List.mem_cons_of_mem _ (List.mem_append_right _ (List.mem_append_right _ (List.mem_append_right _ (List.mem_append_right _ (List.mem_append_right _ (List.mem_append_right _ (List.mem_append_right _ h))))))))
  refine zQ (fun Q hQ => ?_)
  have pt_12 : ∀ (n12 : Nat) (τ : MS) (ev : Int32) (H : Heap) (locs : List Loc) (ls : Array Slot), (4 - ev.toInt).toNat < n12 → (Inv τ) → (eqx [37, 41, 42, 43, 44, 45, 46, 32, 47, 48, 49, 54, 55, 56, 57] τ σ) → (0 ≤ ev.toInt) → (OnOk τ) → va_P (dC, dI) vwCl (mW h ad cl τ) H → va_D A (mW h ad cl τ) → va_S A s.heap H locs → lv_has ls 10 [(0, .ref h), (1, .int x), (2, .int ev)] → W p l e (headSpec vs_n_isLet rm_n_isLet).room s m #[Value.ref h, Value.int x] below meth c H locs 0 0 Q (F0 m 12 ls []) := by
    intro n12
    induction n12 with
    | zero => intro τ ev H locs ls hn12 hIτ hxτ hk0τ honτ hP hD hS hl; exact absurd hn12 (Nat.not_lt_zero _)
    | succ n12 ih12 =>
      intro τ ev H locs ls hn12 hIτ hxτ hk0τ honτ hP hD hS hl
      have bτ_29 : 0 ≤ (τ.1 29).toInt ∧ (τ.1 29).toInt ≤ 1 := hIτ.1 29
      have qq1_ : (τ.1 29).toInt = ((σ.1 29) : Int32).toInt := congrArg Int32.toInt (((hxτ 29 rg_571).1))
      have bτ_39 : 0 ≤ (τ.1 39).toInt ∧ (τ.1 39).toInt ≤ 40 := hIτ.1 39
      have qq2_ : (τ.1 39).toInt = ((σ.1 39) : Int32).toInt := congrArg Int32.toInt (((hxτ 39 rg_582).1))
      have pt_70 : ∀ (n70 : Nat) (υ : MS) (xv : Int32) (sm : Int64) (ov : Int32) (kv : Int32) (H : Heap) (locs : List Loc) (ls : Array Slot), (40 - kv.toInt).toNat < n70 → (Inv υ) → (eqx [37, 41, 42, 43, 44, 45, 46, 32, 47, 48, 49, 54, 55, 56, 57] υ σ) → (0 ≤ kv.toInt) → (OnOk υ) → (EndOk σ ev) → (0 ≤ xv.toInt ∧ xv.toInt ≤ 7) → (0 ≤ ev.toInt ∧ ev.toInt ≤ 3) → va_P (dC, dI) vwCl (mW h ad cl υ) H → va_D A (mW h ad cl υ) → va_S A s.heap H locs → lv_has ls 10 [(0, .ref h), (1, .int x), (2, .int ev), (3, .int xv), (4, .long sm), (6, .int ov), (7, .int kv)] → W p l e (headSpec vs_n_isLet rm_n_isLet).room s m #[Value.ref h, Value.int x] below meth c H locs 0 0 Q (F0 m 70 ls []) := by
        intro n70
        induction n70 with
        | zero => intro υ xv sm ov kv H locs ls hn70 hIυ hxυ hk0υ honυ henυ hxv hev hP hD hS hl; exact absurd hn70 (Nat.not_lt_zero _)
        | succ n70 ih70 =>
          intro υ xv sm ov kv H locs ls hn70 hIυ hxυ hk0υ honυ henυ hxv hev hP hD hS hl
          have bυ_29 : 0 ≤ (υ.1 29).toInt ∧ (υ.1 29).toInt ≤ 1 := hIυ.1 29
          have qq3_ : (υ.1 29).toInt = ((σ.1 29) : Int32).toInt := congrArg Int32.toInt (((hxυ 29 rg_571).1))
          have bυ_39 : 0 ≤ (υ.1 39).toInt ∧ (υ.1 39).toInt ≤ 40 := hIυ.1 39
          have qq4_ : (υ.1 39).toInt = ((σ.1 39) : Int32).toInt := congrArg Int32.toInt (((hxυ 39 rg_582).1))
          refine lv_iload hx hb dX12_isLet_70 (lv_at hl 6 rfl) ?_
          refine lv_aload_n hx hb dX12_isLet_72 rfl (lv_at hl 0 rfl) ?_
          refine va_get (D := (dC, dI)) (ci := 12) (v := .int (υ.1 39)) (C := RX12) (T := TX12) (N := 59) hx hb hts hin12 hown hK hP 0 rfl rfl 39 (Nat.le_of_ble_eq_true rfl) (ho (.fieldLink RX12 249 "NearEnoughModel" "sheets" "I") (List.mem_of_getElem? (i := 0) rfl)) (fun _ h9 => h9) rfl dX12_isLet_73 ?_
          refine zi (v := (σ.1 39)) ((hxυ 39 rg_582).1) ?_
          have bb5_ : 0 ≤ (σ.1 39).toInt ∧ (σ.1 39).toInt ≤ 40 := by have h9 := hIυ.1 39; rw [show (υ.1 39) = (σ.1 39) from ((hxυ 39 rg_582).1)] at h9; exact h9
          refine lv_icmp_ge (tgt := 133) hx hb dX12_isLet_76 rfl (fun c6_ => ?_) (fun c6_ => ?_)
          · have tc6_ := (show (σ.1 39).toInt ≤ kv.toInt from ti_le rfl rfl c6_)
            refine lv_aload_n hx hb dX12_isLet_133 rfl (lv_at hl 0 rfl) ?_
            refine va_get (D := (dC, dI)) (ci := 12) (v := .ref (ad 24)) (C := RX12) (T := TX12) (N := 59) hx hb hts hin12 hown hK hP 0 rfl rfl 24 (Nat.le_of_ble_eq_true rfl) (ho (.fieldLink RX12 60 "NearEnoughModel" "eHow" "[I") (List.mem_of_getElem? (i := 1) rfl)) (fun _ h9 => h9) rfl dX12_isLet_134 ?_
            refine lv_iload_n hx hb dX12_isLet_137 rfl (lv_at hl 3 rfl) ?_
            have o1 : 0 ≤ xv.toInt := by omega
            have o2 : xv.toInt < ((8 : Nat) : Int) := by omega
            refine va_iald hx hb hK hP 16 15 rfl rfl (ti_inx o1 o2) dX12_isLet_138 ?_
            refine lv_topi (fun z7_ ez7_ => ?_)
            have gz7_ : z7_.toInt = ((σ.2.1 24) (Int32.toNatClampNeg xv)).toInt := congrArg Int32.toInt (ez7_.trans (congrFun (hxυ 24 rg_584).2.1 (Int32.toNatClampNeg xv)))
            refine lv_iconst (v := 1) hx hb dX12_isLet_139 rg_6 ?_
            refine lv_icmp_ne (tgt := 162) hx hb dX12_isLet_140 rfl (fun c8_ => ?_) (fun c8_ => ?_)
            · have tc8_ := (show z7_.toInt ≠ 1 from ti_ne rfl rg_18 c8_)
              refine lv_aload_n hx hb dX12_isLet_162 rfl (lv_at hl 0 rfl) ?_
              refine va_get (D := (dC, dI)) (ci := 12) (v := .ref (ad 24)) (C := RX12) (T := TX12) (N := 59) hx hb hts hin12 hown hK hP 0 rfl rfl 24 (Nat.le_of_ble_eq_true rfl) (ho (.fieldLink RX12 60 "NearEnoughModel" "eHow" "[I") (List.mem_of_getElem? (i := 1) rfl)) (fun _ h9 => h9) rfl dX12_isLet_163 ?_
              refine lv_iload_n hx hb dX12_isLet_166 rfl (lv_at hl 3 rfl) ?_
              refine va_iald hx hb hK hP 16 15 rfl rfl (ti_inx o1 o2) dX12_isLet_167 ?_
              refine lv_topi (fun z9_ ez9_ => ?_)
              have qq10_ : z9_.toInt = z7_.toInt := congrArg Int32.toInt ((ez9_.trans (congrFun (hxυ 24 rg_584).2.1 (Int32.toNatClampNeg xv))).trans ((ez7_.trans (congrFun (hxυ 24 rg_584).2.1 (Int32.toNatClampNeg xv)))).symm)
              have gz9_ : z9_.toInt = ((σ.2.1 24) (Int32.toNatClampNeg xv)).toInt := congrArg Int32.toInt (ez9_.trans (congrFun (hxυ 24 rg_584).2.1 (Int32.toNatClampNeg xv)))
              refine lv_iconst (v := 2) hx hb dX12_isLet_168 rg_19 ?_
              refine lv_icmp_ne (tgt := 186) hx hb dX12_isLet_169 rfl (fun c11_ => ?_) (fun c11_ => ?_)
              · have tc11_ := (show z9_.toInt ≠ 2 from ti_ne rfl rg_20 c11_)
                obtain ⟨z12_, ez12_⟩ : ∃ y : Int32, y = ev + 1 := ⟨_, rfl⟩
                have o3 : -2147483648 ≤ ev.toInt + 1 := by omega
                have o4 : ev.toInt + 1 ≤ 2147483647 := by omega
                have tz12_ := ti_add ez12_ rfl rg_18 o3 o4
                refine lv_iinc (v := z12_) (lv' := [(2, .int z12_), (0, .ref h), (1, .int x), (3, .int xv), (4, .long sm), (6, .int ov), (7, .int kv)]) hx hb dX12_isLet_186 hl (k := 2) rfl (iincp ez12_ rg_6) (Nat.le_of_ble_eq_true rfl) rfl (fun ls hl => ?_)
                refine lv_goto (tgt := 12) hx hb dX12_isLet_189 rfl ?_
                have o5 : (4 - z12_.toInt).toNat < n12 := by omega
                have o6 : 0 ≤ z12_.toInt := by omega
                exact ih12 υ z12_ _ _ _ (show (4 - z12_.toInt).toNat < n12 from o5) hIυ hxυ (show 0 ≤ z12_.toInt from o6) honυ hP hD hS (lv_sub hl [1, 2, 0] rfl)
              · have tc11_ := (show z9_.toInt = 2 from ti_eq rfl rg_20 c11_)
                refine lv_iload hx hb dX12_isLet_172 (lv_at hl 5 rfl) ?_
                refine lv_bipush (v := 100) hx hb dX12_isLet_174 rg_585 ?_
                refine lv_imul hx hb dX12_isLet_176 ?_
                refine lv_topi (fun z13_ ez13_ => ?_)
                refine lv_aload_n hx hb dX12_isLet_177 rfl (lv_at hl 0 rfl) ?_
                refine va_get (D := (dC, dI)) (ci := 12) (v := .int (υ.1 39)) (C := RX12) (T := TX12) (N := 59) hx hb hts hin12 hown hK hP 0 rfl rfl 39 (Nat.le_of_ble_eq_true rfl) (ho (.fieldLink RX12 249 "NearEnoughModel" "sheets" "I") (List.mem_of_getElem? (i := 0) rfl)) (fun _ h9 => h9) rfl dX12_isLet_178 ?_
                refine zi (v := (σ.1 39)) ((hxυ 39 rg_582).1) ?_
                have bb14_ : 0 ≤ (σ.1 39).toInt ∧ (σ.1 39).toInt ≤ 40 := by have h9 := hIυ.1 39; rw [show (υ.1 39) = (σ.1 39) from ((hxυ 39 rg_582).1)] at h9; exact h9
                refine lv_icmp_le (tgt := 186) hx hb dX12_isLet_181 rfl (fun c15_ => ?_) (fun c15_ => ?_)
                · have tc15_ := (show z13_.toInt ≤ (σ.1 39).toInt from ti_le rfl rfl c15_)
                  obtain ⟨z16_, ez16_⟩ : ∃ y : Int32, y = ev + 1 := ⟨_, rfl⟩
                  have o7 : -2147483648 ≤ ev.toInt + 1 := by omega
                  have o8 : ev.toInt + 1 ≤ 2147483647 := by omega
                  have tz16_ := ti_add ez16_ rfl rg_18 o7 o8
                  refine lv_iinc (v := z16_) (lv' := [(2, .int z16_), (0, .ref h), (1, .int x), (3, .int xv), (4, .long sm), (6, .int ov), (7, .int kv)]) hx hb dX12_isLet_186 hl (k := 2) rfl (iincp ez16_ rg_6) (Nat.le_of_ble_eq_true rfl) rfl (fun ls hl => ?_)
                  refine lv_goto (tgt := 12) hx hb dX12_isLet_189 rfl ?_
                  have o9 : (4 - z16_.toInt).toNat < n12 := by omega
                  have o10 : 0 ≤ z16_.toInt := by omega
                  exact ih12 υ z16_ _ _ _ (show (4 - z16_.toInt).toNat < n12 from o9) hIυ hxυ (show 0 ≤ z16_.toInt from o10) honυ hP hD hS (lv_sub hl [1, 2, 0] rfl)
                · have tc15_ := (show (σ.1 39).toInt < z13_.toInt from ti_nle rfl rfl c15_)
                  refine lv_iconst (v := 0) hx hb dX12_isLet_184 rg_0 ?_
                  rw [hQ]
                  exact W.zret (v := 0) hx hb hr rfl (fun t ht hW => ⟨⟨0, υ, rfl, ⟨hIυ, hxυ⟩, wEn_of hP (hK.sub [] rfl) hD ht hW⟩, hS.F ht⟩) hS.2.2 dX12_isLet_185
            · have tc8_ := (show z7_.toInt = 1 from ti_eq rfl rg_18 c8_)
              refine lv_lload hx hb dX12_isLet_143 (lv_at hl 4 rfl) ?_
              refine lv_aload_n hx hb dX12_isLet_145 rfl (lv_at hl 0 rfl) ?_
              refine va_get (D := (dC, dI)) (ci := 12) (v := .ref (ad 23)) (C := RX12) (T := TX12) (N := 59) hx hb hts hin12 hown hK hP 0 rfl rfl 23 (Nat.le_of_ble_eq_true rfl) (ho (.fieldLink RX12 57 "NearEnoughModel" "eOff" "[I") (List.mem_of_getElem? (i := 2) rfl)) (fun _ h9 => h9) rfl dX12_isLet_146 ?_
              refine lv_iload_n hx hb dX12_isLet_149 rfl (lv_at hl 3 rfl) ?_
              refine va_iald hx hb hK hP 15 14 rfl rfl (ti_inx o1 o2) dX12_isLet_150 ?_
              refine lv_topi (fun z17_ ez17_ => ?_)
              have gz17_ : z17_.toInt = ((σ.2.1 23) (Int32.toNatClampNeg xv)).toInt := congrArg Int32.toInt (ez17_.trans (congrFun (hxυ 23 rg_586).2.1 (Int32.toNatClampNeg xv)))
              refine lv_i2l hx hb dX12_isLet_151 rfl ?_
              refine lv_topl (fun y18_ ey18_ => ?_)
              refine lv_aload_n hx hb dX12_isLet_152 rfl (lv_at hl 0 rfl) ?_
              refine va_get (D := (dC, dI)) (ci := 12) (v := .int (υ.1 39)) (C := RX12) (T := TX12) (N := 59) hx hb hts hin12 hown hK hP 0 rfl rfl 39 (Nat.le_of_ble_eq_true rfl) (ho (.fieldLink RX12 249 "NearEnoughModel" "sheets" "I") (List.mem_of_getElem? (i := 0) rfl)) (fun _ h9 => h9) rfl dX12_isLet_153 ?_
              refine zi (v := (σ.1 39)) ((hxυ 39 rg_582).1) ?_
              have bb19_ : 0 ≤ (σ.1 39).toInt ∧ (σ.1 39).toInt ≤ 40 := by have h9 := hIυ.1 39; rw [show (υ.1 39) = (σ.1 39) from ((hxυ 39 rg_582).1)] at h9; exact h9
              refine lv_i2l hx hb dX12_isLet_156 rfl ?_
              refine lv_topl (fun y20_ ey20_ => ?_)
              refine lv_lmul hx hb dX12_isLet_157 ?_
              refine lv_topl (fun y21_ ey21_ => ?_)
              refine W.lcmp hx hb dX12_isLet_158 ?_
              refine lv_topi (fun z22_ ez22_ => ?_)
              refine lv_if_gt (tgt := 184) hx hb dX12_isLet_159 rfl (fun c23_ => ?_) (fun c23_ => ?_)
              · have tc23_ := (show 0 < z22_.toInt from ti_lt rg_11 rfl c23_)
                have lc23_ : y21_ < sm := (lg_cmp_gt sm y21_).mp (by rw [← ez22_]; exact c23_)
                refine lv_iconst (v := 0) hx hb dX12_isLet_184 rg_0 ?_
                rw [hQ]
                exact W.zret (v := 0) hx hb hr rfl (fun t ht hW => ⟨⟨0, υ, rfl, ⟨hIυ, hxυ⟩, wEn_of hP (hK.sub [] rfl) hD ht hW⟩, hS.F ht⟩) hS.2.2 dX12_isLet_185
              · have tc23_ := (show z22_.toInt ≤ 0 from ti_nlt rg_11 rfl c23_)
                have lc23_ : ¬ y21_ < sm := fun h => c23_ (by rw [ez22_]; exact (lg_cmp_gt sm y21_).mpr h)
                refine lv_aload_n hx hb dX12_isLet_162 rfl (lv_at hl 0 rfl) ?_
                refine va_get (D := (dC, dI)) (ci := 12) (v := .ref (ad 24)) (C := RX12) (T := TX12) (N := 59) hx hb hts hin12 hown hK hP 0 rfl rfl 24 (Nat.le_of_ble_eq_true rfl) (ho (.fieldLink RX12 60 "NearEnoughModel" "eHow" "[I") (List.mem_of_getElem? (i := 1) rfl)) (fun _ h9 => h9) rfl dX12_isLet_163 ?_
                refine lv_iload_n hx hb dX12_isLet_166 rfl (lv_at hl 3 rfl) ?_
                refine va_iald hx hb hK hP 16 15 rfl rfl (ti_inx o1 o2) dX12_isLet_167 ?_
                refine lv_topi (fun z24_ ez24_ => ?_)
                have qq25_ : z24_.toInt = z7_.toInt := congrArg Int32.toInt ((ez24_.trans (congrFun (hxυ 24 rg_584).2.1 (Int32.toNatClampNeg xv))).trans ((ez7_.trans (congrFun (hxυ 24 rg_584).2.1 (Int32.toNatClampNeg xv)))).symm)
                have gz24_ : z24_.toInt = ((σ.2.1 24) (Int32.toNatClampNeg xv)).toInt := congrArg Int32.toInt (ez24_.trans (congrFun (hxυ 24 rg_584).2.1 (Int32.toNatClampNeg xv)))
                refine lv_iconst (v := 2) hx hb dX12_isLet_168 rg_19 ?_
                refine lv_icmp_ne (tgt := 186) hx hb dX12_isLet_169 rfl (fun c26_ => ?_) (fun c26_ => ?_)
                · have tc26_ := (show z24_.toInt ≠ 2 from ti_ne rfl rg_20 c26_)
                  obtain ⟨z27_, ez27_⟩ : ∃ y : Int32, y = ev + 1 := ⟨_, rfl⟩
                  have o11 : -2147483648 ≤ ev.toInt + 1 := by omega
                  have o12 : ev.toInt + 1 ≤ 2147483647 := by omega
                  have tz27_ := ti_add ez27_ rfl rg_18 o11 o12
                  refine lv_iinc (v := z27_) (lv' := [(2, .int z27_), (0, .ref h), (1, .int x), (3, .int xv), (4, .long sm), (6, .int ov), (7, .int kv)]) hx hb dX12_isLet_186 hl (k := 2) rfl (iincp ez27_ rg_6) (Nat.le_of_ble_eq_true rfl) rfl (fun ls hl => ?_)
                  refine lv_goto (tgt := 12) hx hb dX12_isLet_189 rfl ?_
                  have o13 : (4 - z27_.toInt).toNat < n12 := by omega
                  have o14 : 0 ≤ z27_.toInt := by omega
                  exact ih12 υ z27_ _ _ _ (show (4 - z27_.toInt).toNat < n12 from o13) hIυ hxυ (show 0 ≤ z27_.toInt from o14) honυ hP hD hS (lv_sub hl [1, 2, 0] rfl)
                · have tc26_ := (show z24_.toInt = 2 from ti_eq rfl rg_20 c26_)
                  refine lv_iload hx hb dX12_isLet_172 (lv_at hl 5 rfl) ?_
                  refine lv_bipush (v := 100) hx hb dX12_isLet_174 rg_585 ?_
                  refine lv_imul hx hb dX12_isLet_176 ?_
                  refine lv_topi (fun z28_ ez28_ => ?_)
                  refine lv_aload_n hx hb dX12_isLet_177 rfl (lv_at hl 0 rfl) ?_
                  refine va_get (D := (dC, dI)) (ci := 12) (v := .int (υ.1 39)) (C := RX12) (T := TX12) (N := 59) hx hb hts hin12 hown hK hP 0 rfl rfl 39 (Nat.le_of_ble_eq_true rfl) (ho (.fieldLink RX12 249 "NearEnoughModel" "sheets" "I") (List.mem_of_getElem? (i := 0) rfl)) (fun _ h9 => h9) rfl dX12_isLet_178 ?_
                  refine zi (v := (σ.1 39)) ((hxυ 39 rg_582).1) ?_
                  have bb29_ : 0 ≤ (σ.1 39).toInt ∧ (σ.1 39).toInt ≤ 40 := by have h9 := hIυ.1 39; rw [show (υ.1 39) = (σ.1 39) from ((hxυ 39 rg_582).1)] at h9; exact h9
                  refine lv_icmp_le (tgt := 186) hx hb dX12_isLet_181 rfl (fun c30_ => ?_) (fun c30_ => ?_)
                  · have tc30_ := (show z28_.toInt ≤ (σ.1 39).toInt from ti_le rfl rfl c30_)
                    obtain ⟨z31_, ez31_⟩ : ∃ y : Int32, y = ev + 1 := ⟨_, rfl⟩
                    have o15 : -2147483648 ≤ ev.toInt + 1 := by omega
                    have o16 : ev.toInt + 1 ≤ 2147483647 := by omega
                    have tz31_ := ti_add ez31_ rfl rg_18 o15 o16
                    refine lv_iinc (v := z31_) (lv' := [(2, .int z31_), (0, .ref h), (1, .int x), (3, .int xv), (4, .long sm), (6, .int ov), (7, .int kv)]) hx hb dX12_isLet_186 hl (k := 2) rfl (iincp ez31_ rg_6) (Nat.le_of_ble_eq_true rfl) rfl (fun ls hl => ?_)
                    refine lv_goto (tgt := 12) hx hb dX12_isLet_189 rfl ?_
                    have o17 : (4 - z31_.toInt).toNat < n12 := by omega
                    have o18 : 0 ≤ z31_.toInt := by omega
                    exact ih12 υ z31_ _ _ _ (show (4 - z31_.toInt).toNat < n12 from o17) hIυ hxυ (show 0 ≤ z31_.toInt from o18) honυ hP hD hS (lv_sub hl [1, 2, 0] rfl)
                  · have tc30_ := (show (σ.1 39).toInt < z28_.toInt from ti_nle rfl rfl c30_)
                    refine lv_iconst (v := 0) hx hb dX12_isLet_184 rg_0 ?_
                    rw [hQ]
                    exact W.zret (v := 0) hx hb hr rfl (fun t ht hW => ⟨⟨0, υ, rfl, ⟨hIυ, hxυ⟩, wEn_of hP (hK.sub [] rfl) hD ht hW⟩, hS.F ht⟩) hS.2.2 dX12_isLet_185
          · have tc6_ := (show kv.toInt < (σ.1 39).toInt from ti_nle rfl rfl c6_)
            refine lv_aload_n hx hb dX12_isLet_79 rfl (lv_at hl 0 rfl) ?_
            refine va_get (D := (dC, dI)) (ci := 12) (v := .ref (ad 24)) (C := RX12) (T := TX12) (N := 59) hx hb hts hin12 hown hK hP 0 rfl rfl 24 (Nat.le_of_ble_eq_true rfl) (ho (.fieldLink RX12 60 "NearEnoughModel" "eHow" "[I") (List.mem_of_getElem? (i := 1) rfl)) (fun _ h9 => h9) rfl dX12_isLet_80 ?_
            refine lv_iload_n hx hb dX12_isLet_83 rfl (lv_at hl 3 rfl) ?_
            have o19 : 0 ≤ xv.toInt := by omega
            have o20 : xv.toInt < ((8 : Nat) : Int) := by omega
            refine va_iald hx hb hK hP 16 15 rfl rfl (ti_inx o19 o20) dX12_isLet_84 ?_
            refine lv_topi (fun z32_ ez32_ => ?_)
            have gz32_ : z32_.toInt = ((σ.2.1 24) (Int32.toNatClampNeg xv)).toInt := congrArg Int32.toInt (ez32_.trans (congrFun (hxυ 24 rg_584).2.1 (Int32.toNatClampNeg xv)))
            refine lv_if_eq (tgt := 133) hx hb dX12_isLet_85 rfl (fun c33_ => ?_) (fun c33_ => ?_)
            · have tc33_ := (show z32_.toInt = 0 from ti_eq rfl rg_11 c33_)
              refine lv_aload_n hx hb dX12_isLet_133 rfl (lv_at hl 0 rfl) ?_
              refine va_get (D := (dC, dI)) (ci := 12) (v := .ref (ad 24)) (C := RX12) (T := TX12) (N := 59) hx hb hts hin12 hown hK hP 0 rfl rfl 24 (Nat.le_of_ble_eq_true rfl) (ho (.fieldLink RX12 60 "NearEnoughModel" "eHow" "[I") (List.mem_of_getElem? (i := 1) rfl)) (fun _ h9 => h9) rfl dX12_isLet_134 ?_
              refine lv_iload_n hx hb dX12_isLet_137 rfl (lv_at hl 3 rfl) ?_
              refine va_iald hx hb hK hP 16 15 rfl rfl (ti_inx o19 o20) dX12_isLet_138 ?_
              refine lv_topi (fun z34_ ez34_ => ?_)
              have qq35_ : z34_.toInt = z32_.toInt := congrArg Int32.toInt ((ez34_.trans (congrFun (hxυ 24 rg_584).2.1 (Int32.toNatClampNeg xv))).trans ((ez32_.trans (congrFun (hxυ 24 rg_584).2.1 (Int32.toNatClampNeg xv)))).symm)
              have gz34_ : z34_.toInt = ((σ.2.1 24) (Int32.toNatClampNeg xv)).toInt := congrArg Int32.toInt (ez34_.trans (congrFun (hxυ 24 rg_584).2.1 (Int32.toNatClampNeg xv)))
              refine lv_iconst (v := 1) hx hb dX12_isLet_139 rg_6 ?_
              refine lv_icmp_ne (tgt := 162) hx hb dX12_isLet_140 rfl (fun c36_ => ?_) (fun c36_ => ?_)
              · have tc36_ := (show z34_.toInt ≠ 1 from ti_ne rfl rg_18 c36_)
                refine lv_aload_n hx hb dX12_isLet_162 rfl (lv_at hl 0 rfl) ?_
                refine va_get (D := (dC, dI)) (ci := 12) (v := .ref (ad 24)) (C := RX12) (T := TX12) (N := 59) hx hb hts hin12 hown hK hP 0 rfl rfl 24 (Nat.le_of_ble_eq_true rfl) (ho (.fieldLink RX12 60 "NearEnoughModel" "eHow" "[I") (List.mem_of_getElem? (i := 1) rfl)) (fun _ h9 => h9) rfl dX12_isLet_163 ?_
                refine lv_iload_n hx hb dX12_isLet_166 rfl (lv_at hl 3 rfl) ?_
                refine va_iald hx hb hK hP 16 15 rfl rfl (ti_inx o19 o20) dX12_isLet_167 ?_
                refine lv_topi (fun z37_ ez37_ => ?_)
                have qq38_ : z37_.toInt = z32_.toInt := congrArg Int32.toInt ((ez37_.trans (congrFun (hxυ 24 rg_584).2.1 (Int32.toNatClampNeg xv))).trans ((ez32_.trans (congrFun (hxυ 24 rg_584).2.1 (Int32.toNatClampNeg xv)))).symm)
                have gz37_ : z37_.toInt = ((σ.2.1 24) (Int32.toNatClampNeg xv)).toInt := congrArg Int32.toInt (ez37_.trans (congrFun (hxυ 24 rg_584).2.1 (Int32.toNatClampNeg xv)))
                refine lv_iconst (v := 2) hx hb dX12_isLet_168 rg_19 ?_
                refine lv_icmp_ne (tgt := 186) hx hb dX12_isLet_169 rfl (fun c39_ => ?_) (fun c39_ => ?_)
                · have tc39_ := (show z37_.toInt ≠ 2 from ti_ne rfl rg_20 c39_)
                  obtain ⟨z40_, ez40_⟩ : ∃ y : Int32, y = ev + 1 := ⟨_, rfl⟩
                  have o21 : -2147483648 ≤ ev.toInt + 1 := by omega
                  have o22 : ev.toInt + 1 ≤ 2147483647 := by omega
                  have tz40_ := ti_add ez40_ rfl rg_18 o21 o22
                  refine lv_iinc (v := z40_) (lv' := [(2, .int z40_), (0, .ref h), (1, .int x), (3, .int xv), (4, .long sm), (6, .int ov), (7, .int kv)]) hx hb dX12_isLet_186 hl (k := 2) rfl (iincp ez40_ rg_6) (Nat.le_of_ble_eq_true rfl) rfl (fun ls hl => ?_)
                  refine lv_goto (tgt := 12) hx hb dX12_isLet_189 rfl ?_
                  have o23 : (4 - z40_.toInt).toNat < n12 := by omega
                  have o24 : 0 ≤ z40_.toInt := by omega
                  exact ih12 υ z40_ _ _ _ (show (4 - z40_.toInt).toNat < n12 from o23) hIυ hxυ (show 0 ≤ z40_.toInt from o24) honυ hP hD hS (lv_sub hl [1, 2, 0] rfl)
                · have tc39_ := (show z37_.toInt = 2 from ti_eq rfl rg_20 c39_)
                  refine lv_iload hx hb dX12_isLet_172 (lv_at hl 5 rfl) ?_
                  refine lv_bipush (v := 100) hx hb dX12_isLet_174 rg_585 ?_
                  refine lv_imul hx hb dX12_isLet_176 ?_
                  refine lv_topi (fun z41_ ez41_ => ?_)
                  refine lv_aload_n hx hb dX12_isLet_177 rfl (lv_at hl 0 rfl) ?_
                  refine va_get (D := (dC, dI)) (ci := 12) (v := .int (υ.1 39)) (C := RX12) (T := TX12) (N := 59) hx hb hts hin12 hown hK hP 0 rfl rfl 39 (Nat.le_of_ble_eq_true rfl) (ho (.fieldLink RX12 249 "NearEnoughModel" "sheets" "I") (List.mem_of_getElem? (i := 0) rfl)) (fun _ h9 => h9) rfl dX12_isLet_178 ?_
                  refine zi (v := (σ.1 39)) ((hxυ 39 rg_582).1) ?_
                  have bb42_ : 0 ≤ (σ.1 39).toInt ∧ (σ.1 39).toInt ≤ 40 := by have h9 := hIυ.1 39; rw [show (υ.1 39) = (σ.1 39) from ((hxυ 39 rg_582).1)] at h9; exact h9
                  refine lv_icmp_le (tgt := 186) hx hb dX12_isLet_181 rfl (fun c43_ => ?_) (fun c43_ => ?_)
                  · have tc43_ := (show z41_.toInt ≤ (σ.1 39).toInt from ti_le rfl rfl c43_)
                    obtain ⟨z44_, ez44_⟩ : ∃ y : Int32, y = ev + 1 := ⟨_, rfl⟩
                    have o25 : -2147483648 ≤ ev.toInt + 1 := by omega
                    have o26 : ev.toInt + 1 ≤ 2147483647 := by omega
                    have tz44_ := ti_add ez44_ rfl rg_18 o25 o26
                    refine lv_iinc (v := z44_) (lv' := [(2, .int z44_), (0, .ref h), (1, .int x), (3, .int xv), (4, .long sm), (6, .int ov), (7, .int kv)]) hx hb dX12_isLet_186 hl (k := 2) rfl (iincp ez44_ rg_6) (Nat.le_of_ble_eq_true rfl) rfl (fun ls hl => ?_)
                    refine lv_goto (tgt := 12) hx hb dX12_isLet_189 rfl ?_
                    have o27 : (4 - z44_.toInt).toNat < n12 := by omega
                    have o28 : 0 ≤ z44_.toInt := by omega
                    exact ih12 υ z44_ _ _ _ (show (4 - z44_.toInt).toNat < n12 from o27) hIυ hxυ (show 0 ≤ z44_.toInt from o28) honυ hP hD hS (lv_sub hl [1, 2, 0] rfl)
                  · have tc43_ := (show (σ.1 39).toInt < z41_.toInt from ti_nle rfl rfl c43_)
                    refine lv_iconst (v := 0) hx hb dX12_isLet_184 rg_0 ?_
                    rw [hQ]
                    exact W.zret (v := 0) hx hb hr rfl (fun t ht hW => ⟨⟨0, υ, rfl, ⟨hIυ, hxυ⟩, wEn_of hP (hK.sub [] rfl) hD ht hW⟩, hS.F ht⟩) hS.2.2 dX12_isLet_185
              · have tc36_ := (show z34_.toInt = 1 from ti_eq rfl rg_18 c36_)
                refine lv_lload hx hb dX12_isLet_143 (lv_at hl 4 rfl) ?_
                refine lv_aload_n hx hb dX12_isLet_145 rfl (lv_at hl 0 rfl) ?_
                refine va_get (D := (dC, dI)) (ci := 12) (v := .ref (ad 23)) (C := RX12) (T := TX12) (N := 59) hx hb hts hin12 hown hK hP 0 rfl rfl 23 (Nat.le_of_ble_eq_true rfl) (ho (.fieldLink RX12 57 "NearEnoughModel" "eOff" "[I") (List.mem_of_getElem? (i := 2) rfl)) (fun _ h9 => h9) rfl dX12_isLet_146 ?_
                refine lv_iload_n hx hb dX12_isLet_149 rfl (lv_at hl 3 rfl) ?_
                refine va_iald hx hb hK hP 15 14 rfl rfl (ti_inx o19 o20) dX12_isLet_150 ?_
                refine lv_topi (fun z45_ ez45_ => ?_)
                have gz45_ : z45_.toInt = ((σ.2.1 23) (Int32.toNatClampNeg xv)).toInt := congrArg Int32.toInt (ez45_.trans (congrFun (hxυ 23 rg_586).2.1 (Int32.toNatClampNeg xv)))
                refine lv_i2l hx hb dX12_isLet_151 rfl ?_
                refine lv_topl (fun y46_ ey46_ => ?_)
                refine lv_aload_n hx hb dX12_isLet_152 rfl (lv_at hl 0 rfl) ?_
                refine va_get (D := (dC, dI)) (ci := 12) (v := .int (υ.1 39)) (C := RX12) (T := TX12) (N := 59) hx hb hts hin12 hown hK hP 0 rfl rfl 39 (Nat.le_of_ble_eq_true rfl) (ho (.fieldLink RX12 249 "NearEnoughModel" "sheets" "I") (List.mem_of_getElem? (i := 0) rfl)) (fun _ h9 => h9) rfl dX12_isLet_153 ?_
                refine zi (v := (σ.1 39)) ((hxυ 39 rg_582).1) ?_
                have bb47_ : 0 ≤ (σ.1 39).toInt ∧ (σ.1 39).toInt ≤ 40 := by have h9 := hIυ.1 39; rw [show (υ.1 39) = (σ.1 39) from ((hxυ 39 rg_582).1)] at h9; exact h9
                refine lv_i2l hx hb dX12_isLet_156 rfl ?_
                refine lv_topl (fun y48_ ey48_ => ?_)
                refine lv_lmul hx hb dX12_isLet_157 ?_
                refine lv_topl (fun y49_ ey49_ => ?_)
                refine W.lcmp hx hb dX12_isLet_158 ?_
                refine lv_topi (fun z50_ ez50_ => ?_)
                refine lv_if_gt (tgt := 184) hx hb dX12_isLet_159 rfl (fun c51_ => ?_) (fun c51_ => ?_)
                · have tc51_ := (show 0 < z50_.toInt from ti_lt rg_11 rfl c51_)
                  have lc51_ : y49_ < sm := (lg_cmp_gt sm y49_).mp (by rw [← ez50_]; exact c51_)
                  refine lv_iconst (v := 0) hx hb dX12_isLet_184 rg_0 ?_
                  rw [hQ]
                  exact W.zret (v := 0) hx hb hr rfl (fun t ht hW => ⟨⟨0, υ, rfl, ⟨hIυ, hxυ⟩, wEn_of hP (hK.sub [] rfl) hD ht hW⟩, hS.F ht⟩) hS.2.2 dX12_isLet_185
                · have tc51_ := (show z50_.toInt ≤ 0 from ti_nlt rg_11 rfl c51_)
                  have lc51_ : ¬ y49_ < sm := fun h => c51_ (by rw [ez50_]; exact (lg_cmp_gt sm y49_).mpr h)
                  refine lv_aload_n hx hb dX12_isLet_162 rfl (lv_at hl 0 rfl) ?_
                  refine va_get (D := (dC, dI)) (ci := 12) (v := .ref (ad 24)) (C := RX12) (T := TX12) (N := 59) hx hb hts hin12 hown hK hP 0 rfl rfl 24 (Nat.le_of_ble_eq_true rfl) (ho (.fieldLink RX12 60 "NearEnoughModel" "eHow" "[I") (List.mem_of_getElem? (i := 1) rfl)) (fun _ h9 => h9) rfl dX12_isLet_163 ?_
                  refine lv_iload_n hx hb dX12_isLet_166 rfl (lv_at hl 3 rfl) ?_
                  refine va_iald hx hb hK hP 16 15 rfl rfl (ti_inx o19 o20) dX12_isLet_167 ?_
                  refine lv_topi (fun z52_ ez52_ => ?_)
                  have qq53_ : z52_.toInt = z32_.toInt := congrArg Int32.toInt ((ez52_.trans (congrFun (hxυ 24 rg_584).2.1 (Int32.toNatClampNeg xv))).trans ((ez32_.trans (congrFun (hxυ 24 rg_584).2.1 (Int32.toNatClampNeg xv)))).symm)
                  have gz52_ : z52_.toInt = ((σ.2.1 24) (Int32.toNatClampNeg xv)).toInt := congrArg Int32.toInt (ez52_.trans (congrFun (hxυ 24 rg_584).2.1 (Int32.toNatClampNeg xv)))
                  refine lv_iconst (v := 2) hx hb dX12_isLet_168 rg_19 ?_
                  refine lv_icmp_ne (tgt := 186) hx hb dX12_isLet_169 rfl (fun c54_ => ?_) (fun c54_ => ?_)
                  · have tc54_ := (show z52_.toInt ≠ 2 from ti_ne rfl rg_20 c54_)
                    obtain ⟨z55_, ez55_⟩ : ∃ y : Int32, y = ev + 1 := ⟨_, rfl⟩
                    have o29 : -2147483648 ≤ ev.toInt + 1 := by omega
                    have o30 : ev.toInt + 1 ≤ 2147483647 := by omega
                    have tz55_ := ti_add ez55_ rfl rg_18 o29 o30
                    refine lv_iinc (v := z55_) (lv' := [(2, .int z55_), (0, .ref h), (1, .int x), (3, .int xv), (4, .long sm), (6, .int ov), (7, .int kv)]) hx hb dX12_isLet_186 hl (k := 2) rfl (iincp ez55_ rg_6) (Nat.le_of_ble_eq_true rfl) rfl (fun ls hl => ?_)
                    refine lv_goto (tgt := 12) hx hb dX12_isLet_189 rfl ?_
                    have o31 : (4 - z55_.toInt).toNat < n12 := by omega
                    have o32 : 0 ≤ z55_.toInt := by omega
                    exact ih12 υ z55_ _ _ _ (show (4 - z55_.toInt).toNat < n12 from o31) hIυ hxυ (show 0 ≤ z55_.toInt from o32) honυ hP hD hS (lv_sub hl [1, 2, 0] rfl)
                  · have tc54_ := (show z52_.toInt = 2 from ti_eq rfl rg_20 c54_)
                    refine lv_iload hx hb dX12_isLet_172 (lv_at hl 5 rfl) ?_
                    refine lv_bipush (v := 100) hx hb dX12_isLet_174 rg_585 ?_
                    refine lv_imul hx hb dX12_isLet_176 ?_
                    refine lv_topi (fun z56_ ez56_ => ?_)
                    refine lv_aload_n hx hb dX12_isLet_177 rfl (lv_at hl 0 rfl) ?_
                    refine va_get (D := (dC, dI)) (ci := 12) (v := .int (υ.1 39)) (C := RX12) (T := TX12) (N := 59) hx hb hts hin12 hown hK hP 0 rfl rfl 39 (Nat.le_of_ble_eq_true rfl) (ho (.fieldLink RX12 249 "NearEnoughModel" "sheets" "I") (List.mem_of_getElem? (i := 0) rfl)) (fun _ h9 => h9) rfl dX12_isLet_178 ?_
                    refine zi (v := (σ.1 39)) ((hxυ 39 rg_582).1) ?_
                    have bb57_ : 0 ≤ (σ.1 39).toInt ∧ (σ.1 39).toInt ≤ 40 := by have h9 := hIυ.1 39; rw [show (υ.1 39) = (σ.1 39) from ((hxυ 39 rg_582).1)] at h9; exact h9
                    refine lv_icmp_le (tgt := 186) hx hb dX12_isLet_181 rfl (fun c58_ => ?_) (fun c58_ => ?_)
                    · have tc58_ := (show z56_.toInt ≤ (σ.1 39).toInt from ti_le rfl rfl c58_)
                      obtain ⟨z59_, ez59_⟩ : ∃ y : Int32, y = ev + 1 := ⟨_, rfl⟩
                      have o33 : -2147483648 ≤ ev.toInt + 1 := by omega
                      have o34 : ev.toInt + 1 ≤ 2147483647 := by omega
                      have tz59_ := ti_add ez59_ rfl rg_18 o33 o34
                      refine lv_iinc (v := z59_) (lv' := [(2, .int z59_), (0, .ref h), (1, .int x), (3, .int xv), (4, .long sm), (6, .int ov), (7, .int kv)]) hx hb dX12_isLet_186 hl (k := 2) rfl (iincp ez59_ rg_6) (Nat.le_of_ble_eq_true rfl) rfl (fun ls hl => ?_)
                      refine lv_goto (tgt := 12) hx hb dX12_isLet_189 rfl ?_
                      have o35 : (4 - z59_.toInt).toNat < n12 := by omega
                      have o36 : 0 ≤ z59_.toInt := by omega
                      exact ih12 υ z59_ _ _ _ (show (4 - z59_.toInt).toNat < n12 from o35) hIυ hxυ (show 0 ≤ z59_.toInt from o36) honυ hP hD hS (lv_sub hl [1, 2, 0] rfl)
                    · have tc58_ := (show (σ.1 39).toInt < z56_.toInt from ti_nle rfl rfl c58_)
                      refine lv_iconst (v := 0) hx hb dX12_isLet_184 rg_0 ?_
                      rw [hQ]
                      exact W.zret (v := 0) hx hb hr rfl (fun t ht hW => ⟨⟨0, υ, rfl, ⟨hIυ, hxυ⟩, wEn_of hP (hK.sub [] rfl) hD ht hW⟩, hS.F ht⟩) hS.2.2 dX12_isLet_185
            · have tc33_ := (show z32_.toInt ≠ 0 from ti_ne rfl rg_11 c33_)
              refine lv_aload_n hx hb dX12_isLet_88 rfl (lv_at hl 0 rfl) ?_
              refine lv_iload_n hx hb dX12_isLet_89 rfl (lv_at hl 2 rfl) ?_
              refine lv_iload hx hb dX12_isLet_90 (lv_at hl 6 rfl) ?_
              have o37 : 0 ≤ kv.toInt := by omega
              have o38 : kv.toInt ≤ 39 := by omega
              refine zy_l (va_runV (As := [.int ev, .int kv]) (rest := []) ⟨hx, hb, hml, hown, hts⟩ (n_farOn l dC dI h ad cl H.size υ ev kv hIυ (RelP.x hR hxυ rg_571 rg_572) honυ (EndOk.x henυ hxυ rg_571 rg_577) ⟨o37, o38⟩) (cwV 2 hts gd_n_isLet_438_n_farOn rfl rfl rfl dd_n_farOn ⟨Nat.le_of_ble_eq_true rfl, Nat.le_of_ble_eq_true rfl⟩) (preV hP hK hD hE (ci := 12) (q0 := 0) rfl rfl) rfl rfl hl.1 rfl (lv_room (Nat.le_of_ble_eq_true rfl)) dX12_isLet_92 ⟨Nat.le_of_ble_eq_true rfl, Nat.le_of_ble_eq_true rfl⟩) hD hS hA (fun y61_ τ60_ H locs hq hP hD hS => ?_)
              obtain ⟨hI62_, hx63_, f64_⟩ := hq
              have Xτ60_ : eqx [37, 41, 42, 43, 44, 45, 46, 32, 47, 48, 49, 54, 55, 56, 57] τ60_ σ := eqx.tr hx63_ hxυ rg_575
              have qq65_ : (τ60_.1 29).toInt = ((σ.1 29) : Int32).toInt := congrArg Int32.toInt ((show τ60_.1 29 = (σ.1 29) from ((hx63_ 29 rg_483).1).trans ((hxυ 29 rg_571).1)))
              have qq66_ : (τ60_.1 39).toInt = ((σ.1 39) : Int32).toInt := congrArg Int32.toInt ((show τ60_.1 39 = (σ.1 39) from ((hx63_ 39 rg_576).1).trans ((hxυ 39 rg_582).1)))
              refine W.widen (k := 0) (n := 0) (Nat.le_of_ble_eq_true rfl) (Nat.le_of_ble_eq_true rfl) ?_
              refine lv_lstore (lv' := [(8, .long y61_), (0, .ref h), (1, .int x), (2, .int ev), (3, .int xv), (4, .long sm), (6, .int ov), (7, .int kv)]) hx hb dX12_isLet_95 hl (Nat.le_of_ble_eq_true rfl) rfl (fun ls hl => ?_)
              refine lv_lload hx hb dX12_isLet_97 (lv_at hl 5 rfl) ?_
              refine lv_lload hx hb dX12_isLet_99 (lv_at hl 0 rfl) ?_
              refine lv_ladd hx hb dX12_isLet_101 ?_
              refine lv_topl (fun y67_ ey67_ => ?_)
              refine lv_lstore (lv' := [(4, .long y67_), (8, .long y61_), (0, .ref h), (1, .int x), (2, .int ev), (3, .int xv), (6, .int ov), (7, .int kv)]) hx hb dX12_isLet_102 hl (Nat.le_of_ble_eq_true rfl) rfl (fun ls hl => ?_)
              refine lv_iload hx hb dX12_isLet_104 (lv_at hl 6 rfl) ?_
              refine lv_lload hx hb dX12_isLet_106 (lv_at hl 1 rfl) ?_
              refine lv_aload_n hx hb dX12_isLet_108 rfl (lv_at hl 2 rfl) ?_
              refine va_get (D := (dC, dI)) (ci := 12) (v := .ref (ad 23)) (C := RX12) (T := TX12) (N := 59) hx hb hts hin12 hown hK hP 0 rfl rfl 23 (Nat.le_of_ble_eq_true rfl) (ho (.fieldLink RX12 57 "NearEnoughModel" "eOff" "[I") (List.mem_of_getElem? (i := 2) rfl)) (fun _ h9 => h9) rfl dX12_isLet_109 ?_
              refine lv_iload_n hx hb dX12_isLet_112 rfl (lv_at hl 5 rfl) ?_
              refine va_iald hx hb hK hP 15 14 rfl rfl (ti_inx o19 o20) dX12_isLet_113 ?_
              refine lv_topi (fun z68_ ez68_ => ?_)
              have gz68_ : z68_.toInt = ((σ.2.1 23) (Int32.toNatClampNeg xv)).toInt := congrArg Int32.toInt (ez68_.trans (congrFun (((hx63_ 23 rg_587).2.1).trans (hxυ 23 rg_586).2.1) (Int32.toNatClampNeg xv)))
              refine lv_i2l hx hb dX12_isLet_114 rfl ?_
              refine lv_topl (fun y69_ ey69_ => ?_)
              refine W.lcmp hx hb dX12_isLet_115 ?_
              refine lv_topi (fun z70_ ez70_ => ?_)
              refine lv_if_le (tgt := 123) hx hb dX12_isLet_116 rfl (fun c71_ => ?_) (fun c71_ => ?_)
              · have tc71_ := (show z70_.toInt ≤ 0 from ti_le rfl rg_11 c71_)
                have lc71_ : y61_ ≤ y69_ := (lg_cmp_le y61_ y69_).mp (by rw [← ez70_]; exact c71_)
                refine lv_iconst (v := 0) hx hb dX12_isLet_123 rg_0 ?_
                refine lv_iadd hx hb dX12_isLet_124 ?_
                refine lv_topi (fun z72_ ez72_ => ?_)
                refine lv_istore (lv' := [(6, .int z72_), (4, .long y67_), (8, .long y61_), (0, .ref h), (1, .int x), (2, .int ev), (3, .int xv), (7, .int kv)]) hx hb dX12_isLet_125 hl (Nat.le_of_ble_eq_true rfl) rfl (fun ls hl => ?_)
                obtain ⟨z73_, ez73_⟩ : ∃ y : Int32, y = kv + 1 := ⟨_, rfl⟩
                have o39 : -2147483648 ≤ kv.toInt + 1 := by omega
                have o40 : kv.toInt + 1 ≤ 2147483647 := by omega
                have tz73_ := ti_add ez73_ rfl rg_18 o39 o40
                refine lv_iinc (v := z73_) (lv' := [(7, .int z73_), (6, .int z72_), (4, .long y67_), (8, .long y61_), (0, .ref h), (1, .int x), (2, .int ev), (3, .int xv)]) hx hb dX12_isLet_127 hl (k := 7) rfl (iincp ez73_ rg_6) (Nat.le_of_ble_eq_true rfl) rfl (fun ls hl => ?_)
                refine lv_goto (tgt := 70) hx hb dX12_isLet_130 rfl ?_
                have o41 : (40 - z73_.toInt).toNat < n70 := by omega
                have o42 : 0 ≤ z73_.toInt := by omega
                have o43 : 0 ≤ xv.toInt ∧ xv.toInt ≤ 7 := by omega
                have o44 : 0 ≤ ev.toInt ∧ ev.toInt ≤ 3 := by omega
                exact ih70 τ60_ xv y67_ z72_ z73_ _ _ _ (show (40 - z73_.toInt).toNat < n70 from o41) hI62_ Xτ60_ (show 0 ≤ z73_.toInt from o42) (OnOk.x honυ hx63_ rg_492 rg_493 rg_487) henυ (show 0 ≤ xv.toInt ∧ xv.toInt ≤ 7 from o43) (show 0 ≤ ev.toInt ∧ ev.toInt ≤ 3 from o44) hP hD hS (lv_sub hl [4, 5, 6, 7, 2, 1, 0] rfl)
              · have tc71_ := (show 0 < z70_.toInt from ti_nle rfl rg_11 c71_)
                have lc71_ : ¬ y61_ ≤ y69_ := fun h => c71_ (by rw [ez70_]; exact (lg_cmp_le y61_ y69_).mpr h)
                refine lv_iconst (v := 1) hx hb dX12_isLet_119 rg_6 ?_
                refine lv_goto (tgt := 124) hx hb dX12_isLet_120 rfl ?_
                refine lv_iadd hx hb dX12_isLet_124 ?_
                refine lv_topi (fun z74_ ez74_ => ?_)
                refine lv_istore (lv' := [(6, .int z74_), (4, .long y67_), (8, .long y61_), (0, .ref h), (1, .int x), (2, .int ev), (3, .int xv), (7, .int kv)]) hx hb dX12_isLet_125 hl (Nat.le_of_ble_eq_true rfl) rfl (fun ls hl => ?_)
                obtain ⟨z75_, ez75_⟩ : ∃ y : Int32, y = kv + 1 := ⟨_, rfl⟩
                have o45 : -2147483648 ≤ kv.toInt + 1 := by omega
                have o46 : kv.toInt + 1 ≤ 2147483647 := by omega
                have tz75_ := ti_add ez75_ rfl rg_18 o45 o46
                refine lv_iinc (v := z75_) (lv' := [(7, .int z75_), (6, .int z74_), (4, .long y67_), (8, .long y61_), (0, .ref h), (1, .int x), (2, .int ev), (3, .int xv)]) hx hb dX12_isLet_127 hl (k := 7) rfl (iincp ez75_ rg_6) (Nat.le_of_ble_eq_true rfl) rfl (fun ls hl => ?_)
                refine lv_goto (tgt := 70) hx hb dX12_isLet_130 rfl ?_
                have o47 : (40 - z75_.toInt).toNat < n70 := by omega
                have o48 : 0 ≤ z75_.toInt := by omega
                have o49 : 0 ≤ xv.toInt ∧ xv.toInt ≤ 7 := by omega
                have o50 : 0 ≤ ev.toInt ∧ ev.toInt ≤ 3 := by omega
                exact ih70 τ60_ xv y67_ z74_ z75_ _ _ _ (show (40 - z75_.toInt).toNat < n70 from o47) hI62_ Xτ60_ (show 0 ≤ z75_.toInt from o48) (OnOk.x honυ hx63_ rg_492 rg_493 rg_487) henυ (show 0 ≤ xv.toInt ∧ xv.toInt ≤ 7 from o49) (show 0 ≤ ev.toInt ∧ ev.toInt ≤ 3 from o50) hP hD hS (lv_sub hl [4, 5, 6, 7, 2, 1, 0] rfl)
      refine lv_iload_n hx hb dX12_isLet_12 rfl (lv_at hl 2 rfl) ?_
      refine lv_aload_n hx hb dX12_isLet_13 rfl (lv_at hl 0 rfl) ?_
      refine va_get (D := (dC, dI)) (ci := 12) (v := .ref (ad 13)) (C := RX12) (T := TX12) (N := 59) hx hb hts hin12 hown hK hP 0 rfl rfl 13 (Nat.le_of_ble_eq_true rfl) (ho (.fieldLink RX12 27 "NearEnoughModel" "endMany" "[I") (List.mem_of_getElem? (i := 3) rfl)) (fun _ h9 => h9) rfl dX12_isLet_14 ?_
      refine lv_aload_n hx hb dX12_isLet_17 rfl (lv_at hl 0 rfl) ?_
      refine va_get (D := (dC, dI)) (ci := 12) (v := .int (τ.1 29)) (C := RX12) (T := TX12) (N := 59) hx hb hts hin12 hown hK hP 0 rfl rfl 29 (Nat.le_of_ble_eq_true rfl) (ho (.fieldLink RX12 240 "NearEnoughModel" "bank" "I") (List.mem_of_getElem? (i := 4) rfl)) (fun _ h9 => h9) rfl dX12_isLet_18 ?_
      refine zi (v := (σ.1 29)) ((hxτ 29 rg_571).1) ?_
      have bb76_ : 0 ≤ (σ.1 29).toInt ∧ (σ.1 29).toInt ≤ 1 := by have h9 := hIτ.1 29; rw [show (τ.1 29) = (σ.1 29) from ((hxτ 29 rg_571).1)] at h9; exact h9
      have o51 : 0 ≤ (σ.1 29).toInt := by omega
      have o52 : (σ.1 29).toInt < ((2 : Nat) : Int) := by omega
      refine va_iald hx hb hK hP 5 4 rfl rfl (ti_inx o51 o52) dX12_isLet_21 ?_
      refine lv_topi (fun z77_ ez77_ => ?_)
      have gz77_ : z77_.toInt = ((σ.2.1 13) (Int32.toNatClampNeg (σ.1 29))).toInt := congrArg Int32.toInt (ez77_.trans (congrFun (hxτ 13 rg_577).2.1 (Int32.toNatClampNeg (σ.1 29))))
      have bz77_ : 0 ≤ z77_.toInt ∧ z77_.toInt ≤ 4 := by rw [ez77_]; exact (hIτ.2 13) _ (cl_lt (n := 2) o51 o52)
      refine lv_icmp_ge (tgt := 192) hx hb dX12_isLet_22 rfl (fun c78_ => ?_) (fun c78_ => ?_)
      · have tc78_ := (show z77_.toInt ≤ ev.toInt from ti_le rfl rfl c78_)
        refine lv_iconst (v := 1) hx hb dX12_isLet_192 rg_6 ?_
        rw [hQ]
        exact W.zret (v := 1) hx hb hr rfl (fun t ht hW => ⟨⟨1, τ, rfl, ⟨hIτ, hxτ⟩, wEn_of hP (hK.sub [] rfl) hD ht hW⟩, hS.F ht⟩) hS.2.2 dX12_isLet_193
      · have tc78_ := (show ev.toInt < z77_.toInt from ti_nle rfl rfl c78_)
        refine lv_iconst (v := 4) hx hb dX12_isLet_25 rg_31 ?_
        refine lv_aload_n hx hb dX12_isLet_26 rfl (lv_at hl 0 rfl) ?_
        refine va_get (D := (dC, dI)) (ci := 12) (v := .int (τ.1 29)) (C := RX12) (T := TX12) (N := 59) hx hb hts hin12 hown hK hP 0 rfl rfl 29 (Nat.le_of_ble_eq_true rfl) (ho (.fieldLink RX12 240 "NearEnoughModel" "bank" "I") (List.mem_of_getElem? (i := 4) rfl)) (fun _ h9 => h9) rfl dX12_isLet_27 ?_
        refine zi (v := (σ.1 29)) ((hxτ 29 rg_571).1) ?_
        have bb79_ : 0 ≤ (σ.1 29).toInt ∧ (σ.1 29).toInt ≤ 1 := by have h9 := hIτ.1 29; rw [show (τ.1 29) = (σ.1 29) from ((hxτ 29 rg_571).1)] at h9; exact h9
        refine lv_imul hx hb dX12_isLet_30 ?_
        refine lv_topi (fun z80_ ez80_ => ?_)
        have o53 : -2147483648 ≤ 4 * (σ.1 29).toInt := by omega
        have o54 : 4 * (σ.1 29).toInt ≤ 2147483647 := by omega
        have tz80_ : z80_.toInt = 4 * (σ.1 29).toInt := ti_mul ez80_ rg_32 rfl o53 o54
        refine lv_iload_n hx hb dX12_isLet_31 rfl (lv_at hl 2 rfl) ?_
        refine lv_iadd hx hb dX12_isLet_32 ?_
        refine lv_topi (fun z81_ ez81_ => ?_)
        have o55 : -2147483648 ≤ z80_.toInt + ev.toInt := by omega
        have o56 : z80_.toInt + ev.toInt ≤ 2147483647 := by omega
        have tz81_ : z81_.toInt = z80_.toInt + ev.toInt := ti_add ez81_ rfl rfl o55 o56
        refine lv_istore_n (lv' := [(3, .int z81_), (0, .ref h), (1, .int x), (2, .int ev)]) hx hb dX12_isLet_33 rfl hl (Nat.le_of_ble_eq_true rfl) rfl (fun ls hl => ?_)
        refine lv_aload_n hx hb dX12_isLet_34 rfl (lv_at hl 1 rfl) ?_
        refine va_get (D := (dC, dI)) (ci := 12) (v := .ref (ad 24)) (C := RX12) (T := TX12) (N := 59) hx hb hts hin12 hown hK hP 0 rfl rfl 24 (Nat.le_of_ble_eq_true rfl) (ho (.fieldLink RX12 60 "NearEnoughModel" "eHow" "[I") (List.mem_of_getElem? (i := 1) rfl)) (fun _ h9 => h9) rfl dX12_isLet_35 ?_
        refine lv_iload_n hx hb dX12_isLet_38 rfl (lv_at hl 0 rfl) ?_
        have o57 : 0 ≤ z81_.toInt := by omega
        have o58 : z81_.toInt < ((8 : Nat) : Int) := by omega
        refine va_iald hx hb hK hP 16 15 rfl rfl (ti_inx o57 o58) dX12_isLet_39 ?_
        refine lv_topi (fun z82_ ez82_ => ?_)
        have gz82_ : z82_.toInt = ((σ.2.1 24) (Int32.toNatClampNeg z81_)).toInt := congrArg Int32.toInt (ez82_.trans (congrFun (hxτ 24 rg_584).2.1 (Int32.toNatClampNeg z81_)))
        refine lv_if_ne (tgt := 61) hx hb dX12_isLet_40 rfl (fun c83_ => ?_) (fun c83_ => ?_)
        · have tc83_ := (show z82_.toInt ≠ 0 from ti_ne rfl rg_11 c83_)
          refine lv_lconst (v := 0) hx hb dX12_isLet_61 (by decide) ?_
          refine lv_lstore (lv' := [(4, .long 0), (3, .int z81_), (0, .ref h), (1, .int x), (2, .int ev)]) hx hb dX12_isLet_62 hl (Nat.le_of_ble_eq_true rfl) rfl (fun ls hl => ?_)
          refine lv_iconst (v := 0) hx hb dX12_isLet_64 rg_0 ?_
          refine lv_istore (lv' := [(6, .int 0), (4, .long 0), (3, .int z81_), (0, .ref h), (1, .int x), (2, .int ev)]) hx hb dX12_isLet_65 hl (Nat.le_of_ble_eq_true rfl) rfl (fun ls hl => ?_)
          refine lv_iconst (v := 0) hx hb dX12_isLet_67 rg_0 ?_
          refine lv_istore (lv' := [(7, .int 0), (6, .int 0), (4, .long 0), (3, .int z81_), (0, .ref h), (1, .int x), (2, .int ev)]) hx hb dX12_isLet_68 hl (Nat.le_of_ble_eq_true rfl) rfl (fun ls hl => ?_)
          have o59 : 0 ≤ ev.toInt := by omega
          have o60 : ev.toInt ≤ 3 := by omega
          have o61 : ev.toInt < (σ.2.1 13 (σ.1 29).toNatClampNeg).toInt := by omega
          have HE84_ : EndOk σ ev := ⟨o59, o60, o61⟩
          have o62 : 0 ≤ z81_.toInt ∧ z81_.toInt ≤ 7 := by omega
          have o63 : 0 ≤ ev.toInt ∧ ev.toInt ≤ 3 := by omega
          exact pt_70 _ τ z81_ 0 0 0 _ _ _ (Nat.lt_succ_self _) hIτ hxτ rg_56 honτ HE84_ (show 0 ≤ z81_.toInt ∧ z81_.toInt ≤ 7 from o62) (show 0 ≤ ev.toInt ∧ ev.toInt ≤ 3 from o63) hP hD hS (lv_sub hl [4, 5, 6, 3, 2, 1, 0] rfl)
        · have tc83_ := (show z82_.toInt = 0 from ti_eq rfl rg_11 c83_)
          refine lv_aload_n hx hb dX12_isLet_43 rfl (lv_at hl 1 rfl) ?_
          refine lv_iload_n hx hb dX12_isLet_44 rfl (lv_at hl 3 rfl) ?_
          have o64 : 0 ≤ ev.toInt := by omega
          have o65 : ev.toInt ≤ 3 := by omega
          have o66 : ev.toInt < (σ.2.1 13 (σ.1 29).toNatClampNeg).toInt := by omega
          have HE85_ : EndOk σ ev := ⟨o64, o65, o66⟩
          refine zy_l (va_runV (As := [.int ev]) (rest := []) ⟨hx, hb, hml, hown, hts⟩ (n_offOf l dC dI h ad cl H.size τ ev hIτ (RelP.x hR hxτ rg_571 rg_572) (EndOk.x HE85_ hxτ rg_571 rg_577)) (cwV 1 hts gd_n_isLet_434_n_offOf rfl rfl rfl dd_n_offOf ⟨Nat.le_of_ble_eq_true rfl, Nat.le_of_ble_eq_true rfl⟩) (preV hP hK hD hE (ci := 12) (q0 := 0) rfl rfl) rfl rfl hl.1 rfl (lv_room (Nat.le_of_ble_eq_true rfl)) dX12_isLet_45 ⟨Nat.le_of_ble_eq_true rfl, Nat.le_of_ble_eq_true rfl⟩) hD hS hA (fun y87_ τ86_ H locs hq hP hD hS => ?_)
          obtain rfl := hq
          refine W.widen (k := 0) (n := 0) (Nat.le_of_ble_eq_true rfl) (Nat.le_of_ble_eq_true rfl) ?_
          refine lv_aload_n hx hb dX12_isLet_48 rfl (lv_at hl 1 rfl) ?_
          refine va_get (D := (dC, dI)) (ci := 12) (v := .ref (ad 23)) (C := RX12) (T := TX12) (N := 59) hx hb hts hin12 hown hK hP 0 rfl rfl 23 (Nat.le_of_ble_eq_true rfl) (ho (.fieldLink RX12 57 "NearEnoughModel" "eOff" "[I") (List.mem_of_getElem? (i := 2) rfl)) (fun _ h9 => h9) rfl dX12_isLet_49 ?_
          refine lv_iload_n hx hb dX12_isLet_52 rfl (lv_at hl 0 rfl) ?_
          refine va_iald hx hb hK hP 15 14 rfl rfl (ti_inx o57 o58) dX12_isLet_53 ?_
          refine lv_topi (fun z88_ ez88_ => ?_)
          have gz88_ : z88_.toInt = ((σ.2.1 23) (Int32.toNatClampNeg z81_)).toInt := congrArg Int32.toInt (ez88_.trans (congrFun (hxτ 23 rg_586).2.1 (Int32.toNatClampNeg z81_)))
          refine lv_i2l hx hb dX12_isLet_54 rfl ?_
          refine lv_topl (fun y89_ ey89_ => ?_)
          refine W.lcmp hx hb dX12_isLet_55 ?_
          refine lv_topi (fun z90_ ez90_ => ?_)
          refine lv_if_le (tgt := 61) hx hb dX12_isLet_56 rfl (fun c91_ => ?_) (fun c91_ => ?_)
          · have tc91_ := (show z90_.toInt ≤ 0 from ti_le rfl rg_11 c91_)
            have lc91_ : y87_ ≤ y89_ := (lg_cmp_le y87_ y89_).mp (by rw [← ez90_]; exact c91_)
            refine lv_lconst (v := 0) hx hb dX12_isLet_61 (by decide) ?_
            refine lv_lstore (lv' := [(4, .long 0), (3, .int z81_), (0, .ref h), (1, .int x), (2, .int ev)]) hx hb dX12_isLet_62 hl (Nat.le_of_ble_eq_true rfl) rfl (fun ls hl => ?_)
            refine lv_iconst (v := 0) hx hb dX12_isLet_64 rg_0 ?_
            refine lv_istore (lv' := [(6, .int 0), (4, .long 0), (3, .int z81_), (0, .ref h), (1, .int x), (2, .int ev)]) hx hb dX12_isLet_65 hl (Nat.le_of_ble_eq_true rfl) rfl (fun ls hl => ?_)
            refine lv_iconst (v := 0) hx hb dX12_isLet_67 rg_0 ?_
            refine lv_istore (lv' := [(7, .int 0), (6, .int 0), (4, .long 0), (3, .int z81_), (0, .ref h), (1, .int x), (2, .int ev)]) hx hb dX12_isLet_68 hl (Nat.le_of_ble_eq_true rfl) rfl (fun ls hl => ?_)
            have o67 : 0 ≤ z81_.toInt ∧ z81_.toInt ≤ 7 := by omega
            have o68 : 0 ≤ ev.toInt ∧ ev.toInt ≤ 3 := by omega
            exact pt_70 _ τ z81_ 0 0 0 _ _ _ (Nat.lt_succ_self _) hIτ hxτ rg_56 honτ HE85_ (show 0 ≤ z81_.toInt ∧ z81_.toInt ≤ 7 from o67) (show 0 ≤ ev.toInt ∧ ev.toInt ≤ 3 from o68) hP hD hS (lv_sub hl [4, 5, 6, 3, 2, 1, 0] rfl)
          · have tc91_ := (show 0 < z90_.toInt from ti_nle rfl rg_11 c91_)
            have lc91_ : ¬ y87_ ≤ y89_ := fun h => c91_ (by rw [ez90_]; exact (lg_cmp_le y87_ y89_).mpr h)
            refine lv_iconst (v := 0) hx hb dX12_isLet_59 rg_0 ?_
            rw [hQ]
            exact W.zret (v := 0) hx hb hr rfl (fun t ht hW => ⟨⟨0, τ, rfl, ⟨hIτ, hxτ⟩, wEn_of hP (hK.sub [] rfl) hD ht hW⟩, hS.F ht⟩) hS.2.2 dX12_isLet_60
  refine zH (A := A) (ws := mW h ad cl σ) (fun H hP hS => ?_) hP
  have bσ_29 : 0 ≤ (σ.1 29).toInt ∧ (σ.1 29).toInt ≤ 1 := hI.1 29
  have bσ_39 : 0 ≤ (σ.1 39).toInt ∧ (σ.1 39).toInt ≤ 40 := hI.1 39
  refine lv_aload_n hx hb dX12_isLet_0 rfl (lv_at hl 0 rfl) ?_
  refine lv_iload_n hx hb dX12_isLet_1 rfl (lv_at hl 1 rfl) ?_
  refine zy_i (va_runV (As := [.int x]) (rest := []) ⟨hx, hb, hml, hown, hts⟩ (n_isOpen l dC dI h ad cl H.size σ x hI hR hC) (cwV 1 hts gd_n_isLet_370_n_isOpen rfl rfl rfl dd_n_isOpen ⟨Nat.le_of_ble_eq_true rfl, Nat.le_of_ble_eq_true rfl⟩) (preV hP hK hD hE (ci := 12) (q0 := 0) rfl rfl) rfl rfl hl.1 rfl (lv_room (Nat.le_of_ble_eq_true rfl)) dX12_isLet_2 ⟨Nat.le_of_ble_eq_true rfl, Nat.le_of_ble_eq_true rfl⟩) hD hS hA (fun z93_ τ92_ H locs hq hP hD hS => ?_)
  obtain ⟨hI94_, hx95_, f96_⟩ := hq
  have Xτ92_ : eqx [37, 41, 42, 43, 44, 45, 46, 32, 47, 48, 49, 54, 55, 56, 57] τ92_ σ := eqx.tr hx95_ eqx.rf rg_568
  have qq97_ : (τ92_.1 29).toInt = ((σ.1 29) : Int32).toInt := congrArg Int32.toInt ((show τ92_.1 29 = (σ.1 29) from ((hx95_ 29 rg_569).1).trans rfl))
  have qq98_ : (τ92_.1 39).toInt = ((σ.1 39) : Int32).toInt := congrArg Int32.toInt ((show τ92_.1 39 = (σ.1 39) from ((hx95_ 39 rg_570).1).trans rfl))
  refine W.widen (k := 0) (n := 0) (Nat.le_of_ble_eq_true rfl) (Nat.le_of_ble_eq_true rfl) ?_
  refine lv_if_ne (tgt := 10) hx hb dX12_isLet_5 rfl (fun c99_ => ?_) (fun c99_ => ?_)
  · have tc99_ := (show z93_.toInt ≠ 0 from ti_ne rfl rg_11 c99_)
    refine lv_iconst (v := 0) hx hb dX12_isLet_10 rg_0 ?_
    refine lv_istore_n (lv' := [(2, .int 0), (0, .ref h), (1, .int x)]) hx hb dX12_isLet_11 rfl hl (Nat.le_of_ble_eq_true rfl) rfl (fun ls hl => ?_)
    have o69 : ¬ z93_.toInt = 0 := by omega
    have POK100_ : Opn σ x (τ92_.2.1 37) (τ92_.2.2.1 43) (τ92_.2.2.1 44) := by rcases f96_ with q | q; exact q.2; exact absurd q.1 o69
    have OK100_ : OnOk τ92_ := OnR.ok hI hC hx95_ rg_573 rg_574 POK100_.1
    exact pt_12 _ τ92_ 0 _ _ _ (Nat.lt_succ_self _) hI94_ Xτ92_ rg_56 OK100_ hP hD hS (lv_sub hl [1, 2, 0] rfl)
  · have tc99_ := (show z93_.toInt = 0 from ti_eq rfl rg_11 c99_)
    refine lv_iconst (v := 0) hx hb dX12_isLet_8 rg_0 ?_
    rw [hQ]
    exact W.zret (v := 0) hx hb hr rfl (fun t ht hW => ⟨⟨0, τ92_, rfl, ⟨hI94_, Xτ92_⟩, wEn_of hP (hK.sub [] rfl) hD ht hW⟩, hS.F ht⟩) hS.2.2 dX12_isLet_9
