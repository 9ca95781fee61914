theorem dX12_led_0 : decode cX12_led 0 = .ok (.aload_n 0, 1) := by decide +kernel
theorem dX12_led_1 : decode cX12_led 1 = .ok (.iload_n 1, 1) := by decide +kernel
theorem dX12_led_2 : decode cX12_led 2 = .ok (.invokevirtual 431, 3) := by decide +kernel
theorem dX12_led_5 : decode cX12_led 5 = .ok (.ifCond .eq 40, 3) := by decide +kernel
theorem dX12_led_45 : decode cX12_led 45 = .ok (.ldc2_w 429, 3) := by decide +kernel
theorem dX12_led_48 : decode cX12_led 48 = .ok (.lreturn, 1) := by decide +kernel
theorem dX12_led_8 : decode cX12_led 8 = .ok (.iload_n 2, 1) := by decide +kernel
theorem dX12_led_9 : decode cX12_led 9 = .ok (.iconst 0, 1) := by decide +kernel
theorem dX12_led_10 : decode cX12_led 10 = .ok (.aload_n 0, 1) := by decide +kernel
theorem dX12_led_11 : decode cX12_led 11 = .ok (.getfield 249, 3) := by decide +kernel
theorem dX12_led_14 : decode cX12_led 14 = .ok (.iconst 1, 1) := by decide +kernel
theorem dX12_led_15 : decode cX12_led 15 = .ok (.isub, 1) := by decide +kernel
theorem dX12_led_16 : decode cX12_led 16 = .ok (.invokestatic 324, 3) := by decide +kernel
theorem dX12_led_19 : decode cX12_led 19 = .ok (.ifCond .eq 26, 3) := by decide +kernel
theorem dX12_led_22 : decode cX12_led 22 = .ok (.iload 4, 2) := by decide +kernel
theorem dX12_led_24 : decode cX12_led 24 = .ok (.iconst 0, 1) := by decide +kernel
theorem dX12_led_25 : decode cX12_led 25 = .ok (.aload_n 0, 1) := by decide +kernel
theorem dX12_led_26 : decode cX12_led 26 = .ok (.getfield 252, 3) := by decide +kernel
theorem dX12_led_29 : decode cX12_led 29 = .ok (.iconst 1, 1) := by decide +kernel
theorem dX12_led_30 : decode cX12_led 30 = .ok (.isub, 1) := by decide +kernel
theorem dX12_led_31 : decode cX12_led 31 = .ok (.invokestatic 324, 3) := by decide +kernel
theorem dX12_led_34 : decode cX12_led 34 = .ok (.ifCond .eq 11, 3) := by decide +kernel
theorem dX12_led_37 : decode cX12_led 37 = .ok (.aload_n 0, 1) := by decide +kernel
theorem dX12_led_38 : decode cX12_led 38 = .ok (.iload_n 3, 1) := by decide +kernel
theorem dX12_led_39 : decode cX12_led 39 = .ok (.invokevirtual 423, 3) := by decide +kernel
theorem dX12_led_42 : decode cX12_led 42 = .ok (.ifCond .ne 7, 3) := by decide +kernel
theorem dX12_led_49 : decode cX12_led 49 = .ok (.iload_n 3, 1) := by decide +kernel
theorem dX12_led_50 : decode cX12_led 50 = .ok (.iload 4, 2) := by decide +kernel
theorem dX12_led_52 : decode cX12_led 52 = .ok (.ishr, 1) := by decide +kernel
theorem dX12_led_53 : decode cX12_led 53 = .ok (.iconst 1, 1) := by decide +kernel
theorem dX12_led_54 : decode cX12_led 54 = .ok (.iand, 1) := by decide +kernel
theorem dX12_led_55 : decode cX12_led 55 = .ok (.ifCond .ne 7, 3) := by decide +kernel
theorem dX12_led_62 : decode cX12_led 62 = .ok (.iload_n 3, 1) := by decide +kernel
theorem dX12_led_63 : decode cX12_led 63 = .ok (.iconst 1, 1) := by decide +kernel
theorem dX12_led_64 : decode cX12_led 64 = .ok (.iload 4, 2) := by decide +kernel
theorem dX12_led_66 : decode cX12_led 66 = .ok (.ishl, 1) := by decide +kernel
theorem dX12_led_67 : decode cX12_led 67 = .ok (.iconst 1, 1) := by decide +kernel
theorem dX12_led_68 : decode cX12_led 68 = .ok (.isub, 1) := by decide +kernel
theorem dX12_led_69 : decode cX12_led 69 = .ok (.iand, 1) := by decide +kernel
theorem dX12_led_70 : decode cX12_led 70 = .ok (.istore 5, 2) := by decide +kernel
theorem dX12_led_72 : decode cX12_led 72 = .ok (.aload_n 0, 1) := by decide +kernel
theorem dX12_led_73 : decode cX12_led 73 = .ok (.iload 5, 2) := by decide +kernel
theorem dX12_led_75 : decode cX12_led 75 = .ok (.invokevirtual 370, 3) := by decide +kernel
theorem dX12_led_78 : decode cX12_led 78 = .ok (.ifCond .eq 17, 3) := by decide +kernel
theorem dX12_led_95 : decode cX12_led 95 = .ok (.ldc2_w 429, 3) := by decide +kernel
theorem dX12_led_98 : decode cX12_led 98 = .ok (.lreturn, 1) := by decide +kernel
theorem dX12_led_81 : decode cX12_led 81 = .ok (.aload_n 0, 1) := by decide +kernel
theorem dX12_led_82 : decode cX12_led 82 = .ok (.iload 5, 2) := by decide +kernel
theorem dX12_led_84 : decode cX12_led 84 = .ok (.iconst 1, 1) := by decide +kernel
theorem dX12_led_85 : decode cX12_led 85 = .ok (.iload 4, 2) := by decide +kernel
theorem dX12_led_87 : decode cX12_led 87 = .ok (.ishl, 1) := by decide +kernel
theorem dX12_led_88 : decode cX12_led 88 = .ok (.ior, 1) := by decide +kernel
theorem dX12_led_89 : decode cX12_led 89 = .ok (.invokevirtual 370, 3) := by decide +kernel
theorem dX12_led_92 : decode cX12_led 92 = .ok (.ifCond .ne 7, 3) := by decide +kernel
theorem dX12_led_99 : decode cX12_led 99 = .ok (.aload_n 0, 1) := by decide +kernel
theorem dX12_led_100 : decode cX12_led 100 = .ok (.iload_n 1, 1) := by decide +kernel
theorem dX12_led_101 : decode cX12_led 101 = .ok (.iload_n 2, 1) := by decide +kernel
theorem dX12_led_102 : decode cX12_led 102 = .ok (.iload 5, 2) := by decide +kernel
theorem dX12_led_104 : decode cX12_led 104 = .ok (.iconst 1, 1) := by decide +kernel
theorem dX12_led_105 : decode cX12_led 105 = .ok (.iload 4, 2) := by decide +kernel
theorem dX12_led_107 : decode cX12_led 107 = .ok (.ishl, 1) := by decide +kernel
theorem dX12_led_108 : decode cX12_led 108 = .ok (.ior, 1) := by decide +kernel
theorem dX12_led_109 : decode cX12_led 109 = .ok (.invokevirtual 477, 3) := by decide +kernel
theorem dX12_led_112 : decode cX12_led 112 = .ok (.aload_n 0, 1) := by decide +kernel
theorem dX12_led_113 : decode cX12_led 113 = .ok (.iload_n 1, 1) := by decide +kernel
theorem dX12_led_114 : decode cX12_led 114 = .ok (.iload_n 2, 1) := by decide +kernel
theorem dX12_led_115 : decode cX12_led 115 = .ok (.iload 5, 2) := by decide +kernel
theorem dX12_led_117 : decode cX12_led 117 = .ok (.invokevirtual 477, 3) := by decide +kernel
theorem dX12_led_120 : decode cX12_led 120 = .ok (.lsub, 1) := by decide +kernel
theorem dX12_led_121 : decode cX12_led 121 = .ok (.lreturn, 1) := by decide +kernel
theorem dX12_led_58 : decode cX12_led 58 = .ok (.ldc2_w 429, 3) := by decide +kernel
theorem dX12_led_61 : decode cX12_led 61 = .ok (.lreturn, 1) := by decide +kernel
theorem dX12_day_0 : decode cX12_day 0 = .ok (.aload_n 0, 1) := by decide +kernel
theorem dX12_day_1 : decode cX12_day 1 = .ok (.iload_n 1, 1) := by decide +kernel
theorem dX12_day_2 : decode cX12_day 2 = .ok (.invokevirtual 431, 3) := by decide +kernel
theorem dX12_day_5 : decode cX12_day 5 = .ok (.ifCond .eq 25, 3) := by decide +kernel
theorem dX12_day_30 : decode cX12_day 30 = .ok (.iconst (-1), 1) := by decide +kernel
theorem dX12_day_31 : decode cX12_day 31 = .ok (.ireturn, 1) := by decide +kernel
theorem dX12_day_8 : decode cX12_day 8 = .ok (.iload_n 2, 1) := by decide +kernel
theorem dX12_day_9 : decode cX12_day 9 = .ok (.iconst 0, 1) := by decide +kernel
theorem dX12_day_10 : decode cX12_day 10 = .ok (.aload_n 0, 1) := by decide +kernel
theorem dX12_day_11 : decode cX12_day 11 = .ok (.getfield 249, 3) := by decide +kernel
theorem dX12_day_14 : decode cX12_day 14 = .ok (.iconst 1, 1) := by decide +kernel
theorem dX12_day_15 : decode cX12_day 15 = .ok (.isub, 1) := by decide +kernel
theorem dX12_day_16 : decode cX12_day 16 = .ok (.invokestatic 324, 3) := by decide +kernel
theorem dX12_day_19 : decode cX12_day 19 = .ok (.ifCond .eq 11, 3) := by decide +kernel
theorem dX12_day_22 : decode cX12_day 22 = .ok (.aload_n 0, 1) := by decide +kernel
theorem dX12_day_23 : decode cX12_day 23 = .ok (.iload_n 3, 1) := by decide +kernel
theorem dX12_day_24 : decode cX12_day 24 = .ok (.invokevirtual 370, 3) := by decide +kernel
theorem dX12_day_27 : decode cX12_day 27 = .ok (.ifCond .ne 5, 3) := by decide +kernel
theorem dX12_day_32 : decode cX12_day 32 = .ok (.aload_n 0, 1) := by decide +kernel
theorem dX12_day_33 : decode cX12_day 33 = .ok (.iload_n 1, 1) := by decide +kernel
theorem dX12_day_34 : decode cX12_day 34 = .ok (.iload_n 2, 1) := by decide +kernel
theorem dX12_day_35 : decode cX12_day 35 = .ok (.invokevirtual 438, 3) := by decide +kernel
theorem dX12_day_38 : decode cX12_day 38 = .ok (.lstore 4, 2) := by decide +kernel
theorem dX12_day_40 : decode cX12_day 40 = .ok (.lload 4, 2) := by decide +kernel
theorem dX12_day_42 : decode cX12_day 42 = .ok (.aload_n 0, 1) := by decide +kernel
theorem dX12_day_43 : decode cX12_day 43 = .ok (.getfield 258, 3) := by decide +kernel
theorem dX12_day_46 : decode cX12_day 46 = .ok (.i2l, 1) := by decide +kernel
theorem dX12_day_47 : decode cX12_day 47 = .ok (.lcmp, 1) := by decide +kernel
theorem dX12_day_48 : decode cX12_day 48 = .ok (.ifCond .le 6, 3) := by decide +kernel
theorem dX12_day_54 : decode cX12_day 54 = .ok (.aload_n 0, 1) := by decide +kernel
theorem dX12_day_55 : decode cX12_day 55 = .ok (.dup, 1) := by decide +kernel
theorem dX12_day_56 : decode cX12_day 56 = .ok (.getfield 258, 3) := by decide +kernel
theorem dX12_day_59 : decode cX12_day 59 = .ok (.lload 4, 2) := by decide +kernel
theorem dX12_day_61 : decode cX12_day 61 = .ok (.l2i, 1) := by decide +kernel
theorem dX12_day_62 : decode cX12_day 62 = .ok (.isub, 1) := by decide +kernel
theorem dX12_day_63 : decode cX12_day 63 = .ok (.putfield 258, 3) := by decide +kernel
theorem dX12_day_66 : decode cX12_day 66 = .ok (.aload_n 0, 1) := by decide +kernel
theorem dX12_day_67 : decode cX12_day 67 = .ok (.getfield 258, 3) := by decide +kernel
theorem dX12_day_70 : decode cX12_day 70 = .ok (.ireturn, 1) := by decide +kernel
theorem dX12_day_51 : decode cX12_day 51 = .ok (.bipush (-2), 2) := by decide +kernel
theorem dX12_day_53 : decode cX12_day 53 = .ok (.ireturn, 1) := by decide +kernel
theorem rg_626 : 39 ∉ [37] := by decide
theorem rg_627 : ∀ q, q ∈ [37, 41, 42] → q ∈ [37, 41, 42, 43, 44, 45, 46, 32, 47, 48, 49, 54, 55, 56, 57] := by decide
theorem rg_628 : 39 ∉ [37, 41, 42] := by decide
theorem rg_629 : 40 ∉ [37, 41, 42] := by decide
theorem rg_630 : ∀ q, q ∈ [37, 43, 44, 45, 46] → q ∈ [37, 41, 42, 43, 44, 45, 46, 32, 47, 48, 49, 54, 55, 56, 57, 58] := by decide
theorem rg_631 : 58 ∉ [37, 43, 44, 45, 46] := by decide
theorem rg_632 : 29 ∉ [37, 41, 42, 43, 44, 45, 46, 32, 47, 48, 49, 54, 55, 56, 57, 58] := by decide
theorem rg_633 : ∀ q, 11 ≤ q → q ≤ 22 → q ∉ [37, 41, 42, 43, 44, 45, 46, 32, 47, 48, 49, 54, 55, 56, 57, 58] := by intro q h1 h2 h; simp at h; omega
theorem rg_634 : 13 ∉ [37, 41, 42, 43, 44, 45, 46, 32, 47, 48, 49, 54, 55, 56, 57, 58] := by decide
theorem rg_635 : ∀ q, q ∈ [42, 41] → q ∈ [37, 41, 42, 43, 44, 45, 46, 32, 47, 48, 49, 54, 55, 56, 57, 58] := by decide
theorem rg_636 : 58 ∉ [42, 41] := by decide
theorem rg_637 : ∀ p ∈ [37, 43, 44, 45, 46], ¬ ((11 ≤ p ∧ p ≤ 24) ∨ (33 ≤ p ∧ p ≤ 36)) := by intro p h; simp at h; omega
theorem rg_638 : ∀ p ∈ [37, 43, 44, 45, 46], ¬ (p = 27 ∨ p = 28) := by intro p h; simp at h; omega
theorem rg_639 : 31 ∉ [37, 43, 44, 45, 46] := by decide
theorem rg_640 : 58 ∈ [37, 41, 42, 43, 44, 45, 46, 32, 47, 48, 49, 54, 55, 56, 57, 58] := by decide
theorem rg_653 : ∀ q, 11 ≤ q → q ≤ 22 → q ∉ [31] := by intro q h1 h2 h; simp at h; omega
theorem rg_654 : 39 ∉ [31] := by decide
theorem rg_655 : 29 ∉ [31] := by decide
def ow_n_led : List Cond := [.constantLong RX12 429 (-1000000000000), .fieldLink RX12 249 "NearEnoughModel" "sheets" "I", .fieldLink RX12 252 "NearEnoughModel" "changes" "I"]
def vs_n_led : List Cond := .code yX12_led cX12_led 6 (some .long) :: (ow_n_led ++ (([.methodLink RX12 431 yX12_isEnd, .instanceMethod yX12_isEnd, .selects RX12 yX12_isEnd yX12_isEnd, .initialized RX12] : List Cond) ++ (vs_n_isEnd ++ (([.methodLink RX12 324 yX12_isIn, .static yX12_isIn, .initialized yX12_isIn.cls] : List Cond) ++ (vs_n_isIn ++ (([.methodLink RX12 423 yX12_isChoice, .instanceMethod yX12_isChoice, .selects RX12 yX12_isChoice yX12_isChoice, .initialized RX12] : List Cond) ++ (vs_n_isChoiceV ++ (([.methodLink RX12 370 yX12_isOpen, .instanceMethod yX12_isOpen, .selects RX12 yX12_isOpen yX12_isOpen, .initialized RX12] : List Cond) ++ (vs_n_isOpen ++ (([.methodLink RX12 477 yX12_errorOn, .instanceMethod yX12_errorOn, .selects RX12 yX12_errorOn yX12_errorOn, .initialized RX12] : List Cond) ++ (vs_n_errorOn ++ (wsX120))))))))))))
theorem vg_n_led : vs_n_led.all goodWord = true := by decide +kernel
theorem dd_n_led : yX12_led.cls = RX12 ∧ yX12_led.cls ≠ "java/lang/invoke/MethodHandle" ∧ yX12_led.cls ≠ "java/lang/invoke/VarHandle" ∧ (parseMethodDescriptor yX12_led.desc).map (fun d => d.parameters.length) = some 4 := by decide +kernel
def rm_n_led : Room := { frames := 7, cells := 0, slots := 0, locals := 180 }
theorem gd_n_led_431_n_isEnd : GoodIn vs_n_led (wsV RX12 431 RX12 yX12_isEnd vs_n_isEnd) := goodIn_app (goodIn_sub (fun w h => (List.mem_cons_of_mem _ (List.mem_append_right _ (List.mem_append_left _ h)))) (by decide +kernel)) (goodIn_sub (fun w h => (List.mem_cons_of_mem _ (List.mem_append_right _ (List.mem_append_right _ (List.mem_append_left _ h))))) vg_n_isEnd)
theorem gd_n_led_324_n_isIn : GoodIn vs_n_led (va_wsS RX12 324 yX12_isIn vs_n_isIn) := goodIn_app (goodIn_sub (fun w h => (List.mem_cons_of_mem _ (List.mem_append_right _ (List.mem_append_right _ (List.mem_append_right _ (List.mem_append_left _ h)))))) (by decide +kernel)) (goodIn_sub (fun w h => (List.mem_cons_of_mem _ (List.mem_append_right _ (List.mem_append_right _ (List.mem_append_right _ (List.mem_append_right _ (List.mem_append_left _ h))))))) vg_n_isIn)
theorem gd_n_led_423_n_isChoiceV : GoodIn vs_n_led (wsV RX12 423 RX12 yX12_isChoice vs_n_isChoiceV) := goodIn_app (goodIn_sub (fun w h => (List.mem_cons_of_mem _ (List.mem_append_right _ (List.mem_append_right _ (List.mem_append_right _ (List.mem_append_right _ (List.mem_append_right _ (List.mem_append_left _ h)))))))) (by decide +kernel)) (goodIn_sub (fun w h => (List.mem_cons_of_mem _ (List.mem_append_right _ (List.mem_append_right _ (List.mem_append_right _ (List.mem_append_right _ (List.mem_append_right _ (List.mem_append_right _ (List.mem_append_left _ h))))))))) vg_n_isChoiceV)
theorem gd_n_led_370_n_isOpen : GoodIn vs_n_led (wsV RX12 370 RX12 yX12_isOpen vs_n_isOpen) := goodIn_app (goodIn_sub (fun w h => (List.mem_cons_of_mem _ (List.mem_append_right _ (List.mem_append_right _ (List.mem_append_right _ (List.mem_append_right _ (List.mem_append_right _ (List.mem_append_right _ (List.mem_append_right _ (List.mem_append_left _ h)))))))))) (by decide +kernel)) (goodIn_sub (fun w h => (List.mem_cons_of_mem _ (List.mem_append_right _ (List.mem_append_right _ (List.mem_append_right _ (List.mem_append_right _ (List.mem_append_right _ (List.mem_append_right _ (List.mem_append_right _ (List.mem_append_right _ (List.mem_append_left _ h))))))))))) vg_n_isOpen)
theorem gd_n_led_477_n_errorOn : GoodIn vs_n_led (wsV RX12 477 RX12 yX12_errorOn vs_n_errorOn) := goodIn_app (goodIn_sub (fun w h => (List.mem_cons_of_mem _ (List.mem_append_right _ (List.mem_append_right _ (List.mem_append_right _ (List.mem_append_right _ (List.mem_append_right _ (List.mem_append_right _ (List.mem_append_right _ (List.mem_append_right _ (List.mem_append_right _ (List.mem_append_left _ h)))))))))))) (by decide +kernel)) (goodIn_sub (fun w h => (List.mem_cons_of_mem _ (List.mem_append_right _ (List.mem_append_right _ (List.mem_append_right _ (List.mem_append_right _ (List.mem_append_right _ (List.mem_append_right _ (List.mem_append_right _ (List.mem_append_right _ (List.mem_append_right _ (List.mem_append_right _ (List.mem_append_left _ h))))))))))))) vg_n_errorOn)
set_option maxHeartbeats 4000000 in
set_option maxRecDepth 100000 in
theorem n_led (l : Launch) (dC : Nat → ClassId) (dI : Nat → Nat → Nat) (h : Nat) (ad : Nat → Nat) (cl : Nat → ClassId) (sz : Nat) (σ : MS) (x : Int32) (y : Int32) (z : Int32) (u : Int32) (hI : Inv σ) (hR : RelP σ (σ.1 29).toNatClampNeg) (hC : ChR σ) : Met l yX12_led vs_n_led rm_n_led (va_Pc [.ref h, .int x, .int y, .int z, .int u] (wSt dC dI (mW h ad cl σ) (mT cl) sz)) (va_Ql (fun (r : Int64) (τ : MS) => Inv τ ∧ eqx [37, 41, 42, 43, 44, 45, 46, 32, 47, 48, 49, 54, 55, 56, 57] τ σ) (fun (τ : MS) => wEn dC dI (va_A (mW h ad cl σ) sz) (mW h ad cl τ) []) (va_A (mW h ad cl σ) sz)) 0 0 (va_A (mW h ad cl σ) sz) := by
  refine Met.ofW (cc := cX12_led) (maxL := 6) (ret := (some .long)) (by decide) rfl ?_
  intro p e s m args below meth c s₁ B hml hv
  obtain ⟨rfl, hsz, hP, hK, hD0, hE⟩ := hv
  have hx := B.exec
  have hb := B.bytes
  have hr := B.returns
  have hts := atoms_spec (ws := vs_n_led) B.pre
  have hown : s.vm.findClass RX12 = some m.cls := findClass_of_methodNamed B.named
  have hlocks := B.notSynchronized
  subst hsz
  have hD := hD0.self (sz := s.heap.size)
  generalize hAe : va_A (mW h ad cl σ) s.heap.size = A at hD ⊢
  have hA : ∀ q : Nat, s.heap.size ≤ q → A q := fun q h => by rw [← hAe]; exact Or.inr h
  have hl := lv_entry ([.ref h, .int x, .int y, .int z, .int u]) (n := 6) (Nat.le_of_ble_eq_true rfl)
  rw [lg_entry_eq]
  generalize (lg_sl ([.ref h, .int x, .int y, .int z, .int u]) ++ List.replicate (6 - (lg_sl ([.ref h, .int x, .int y, .int z, .int u])).length) Slot.unset).toArray = ls at hl ⊢
  have hl : lv_has ls 6 [(0, .ref h), (1, .int x), (2, .int y), (3, .int z), (4, .int u)] := hl
  have ho := fun w (h : w ∈ ow_n_led) => hts w (List.mem_cons_of_mem _ (List.mem_append_left _ h))
  have hin12 : ∀ w ∈ u_ws RX12 TX12 59, w ∈ vs_n_led := fun w h => (List.mem_cons_of_mem _ (List.mem_append_right _ (List.mem_append_right _ (List.mem_append_right _ (List.mem_append_right _ (List.mem_append_right _ (List.mem_append_right _ (List.mem_append_right _ (List.mem_append_right _ (List.mem_append_right _ (List.mem_append_right _ (List.mem_append_right _ h))))))))))))
  refine zQ (fun Q hQ => ?_)
  refine zH (A := A) (ws := mW h ad cl σ) (fun H hP hS => ?_) hP
  have bσ_29 : 0 ≤ (σ.1 29).toInt ∧ (σ.1 29).toInt ≤ 1 := hI.1 29
  have bσ_39 : 0 ≤ (σ.1 39).toInt ∧ (σ.1 39).toInt ≤ 40 := hI.1 39
  have bσ_40 : 0 ≤ (σ.1 40).toInt ∧ (σ.1 40).toInt ≤ 12 := hI.1 40
  refine lv_aload_n hx hb dX12_led_0 rfl (lv_at hl 0 rfl) ?_
  refine lv_iload_n hx hb dX12_led_1 rfl (lv_at hl 1 rfl) ?_
  refine zy_i (va_runV (As := [.int x]) (rest := []) ⟨hx, hb, hml, hown, hts⟩ (n_isEnd l dC dI h ad cl H.size σ x hI) (cwV 1 hts gd_n_led_431_n_isEnd rfl rfl rfl dd_n_isEnd ⟨Nat.le_of_ble_eq_true rfl, Nat.le_of_ble_eq_true rfl⟩) (preV hP hK hD hE (ci := 12) (q0 := 0) rfl rfl) rfl rfl hl.1 rfl (lv_room (Nat.le_of_ble_eq_true rfl)) dX12_led_2 ⟨Nat.le_of_ble_eq_true rfl, Nat.le_of_ble_eq_true rfl⟩) hD hS hA (fun z2_ τ1_ H locs hq hP hD hS => ?_)
  obtain ⟨rfl, f3_⟩ := hq
  refine W.widen (k := 0) (n := 0) (Nat.le_of_ble_eq_true rfl) (Nat.le_of_ble_eq_true rfl) ?_
  refine lv_if_eq (tgt := 45) hx hb dX12_led_5 rfl (fun c4_ => ?_) (fun c4_ => ?_)
  · have tc4_ := (show z2_.toInt = 0 from ti_eq rfl rg_11 c4_)
    refine lv_ldc2 (v := (-1000000000000)) hx hb hown (ho (.constantLong RX12 429 (-1000000000000)) (List.mem_of_getElem? (i := 0) rfl)) dX12_led_45 ?_
    rw [hQ]
    exact W.lret (v := (-1000000000000)) hx hb hr (fun t ht hW => ⟨⟨(-1000000000000), σ, rfl, ⟨hI, eqx.rf⟩, wEn_of hP (hK.sub [] rfl) hD ht hW⟩, hS.F ht⟩) hS.2.2 dX12_led_48
  · have tc4_ := (show z2_.toInt ≠ 0 from ti_ne rfl rg_11 c4_)
    refine lv_iload_n hx hb dX12_led_8 rfl (lv_at hl 2 rfl) ?_
    refine lv_iconst (v := 0) hx hb dX12_led_9 rg_0 ?_
    refine lv_aload_n hx hb dX12_led_10 rfl (lv_at hl 0 rfl) ?_
    refine va_get (D := (dC, dI)) (ci := 12) (v := .int (σ.1 39)) (C := RX12) (T := TX12) (N := 59) hx hb hts hin12 hown hK hP 0 rfl rfl 39 (Nat.le_of_ble_eq_true rfl) (ho (.fieldLink RX12 249 "NearEnoughModel" "sheets" "I") (List.mem_of_getElem? (i := 1) rfl)) (fun _ h9 => h9) rfl dX12_led_11 ?_
    have bσ_39 : 0 ≤ (σ.1 39).toInt ∧ (σ.1 39).toInt ≤ 40 := hI.1 39
    refine lv_iconst (v := 1) hx hb dX12_led_14 rg_6 ?_
    refine lv_isub hx hb dX12_led_15 ?_
    refine lv_topi (fun z5_ ez5_ => ?_)
    have o1 : -2147483648 ≤ (σ.1 39).toInt - 1 := by omega
    have o2 : (σ.1 39).toInt - 1 ≤ 2147483647 := by omega
    have tz5_ : z5_.toInt = (σ.1 39).toInt - 1 := ti_sub ez5_ rfl rg_18 o1 o2
    have kk6_ : (0 : Int32).toInt = 0 := rg_11
    refine zs_i (va_runS (As := [.int y, .int 0, .int z5_]) (rest := []) ⟨hx, hb, hml, hown, hts⟩ (n_isIn l dC dI y 0 z5_  H.size) (va_cwS 3 hts gd_n_led_324_n_isIn rfl rfl rfl dd_n_isIn ⟨Nat.le_of_ble_eq_true rfl, Nat.le_of_ble_eq_true rfl⟩) (preS (A := A) empP (hK.sub (tys' := []) [] rfl) empD hE) rfl rfl hl.1 rfl (lv_room (Nat.le_of_ble_eq_true rfl)) dX12_led_16 ⟨Nat.le_of_ble_eq_true rfl, Nat.le_of_ble_eq_true rfl⟩) hP hD hS hA (fun z7_ H locs hq hP hD hS => ?_)
    have f8_ := hq
    refine W.widen (k := 0) (n := 0) (Nat.le_of_ble_eq_true rfl) (Nat.le_of_ble_eq_true rfl) ?_
    refine lv_if_eq (tgt := 45) hx hb dX12_led_19 rfl (fun c9_ => ?_) (fun c9_ => ?_)
    · have tc9_ := (show z7_.toInt = 0 from ti_eq rfl rg_11 c9_)
      refine lv_ldc2 (v := (-1000000000000)) hx hb hown (ho (.constantLong RX12 429 (-1000000000000)) (List.mem_of_getElem? (i := 0) rfl)) dX12_led_45 ?_
      rw [hQ]
      exact W.lret (v := (-1000000000000)) hx hb hr (fun t ht hW => ⟨⟨(-1000000000000), σ, rfl, ⟨hI, eqx.rf⟩, wEn_of hP (hK.sub [] rfl) hD ht hW⟩, hS.F ht⟩) hS.2.2 dX12_led_48
    · have tc9_ := (show z7_.toInt ≠ 0 from ti_ne rfl rg_11 c9_)
      refine lv_iload hx hb dX12_led_22 (lv_at hl 4 rfl) ?_
      refine lv_iconst (v := 0) hx hb dX12_led_24 rg_0 ?_
      refine lv_aload_n hx hb dX12_led_25 rfl (lv_at hl 0 rfl) ?_
      refine va_get (D := (dC, dI)) (ci := 12) (v := .int (σ.1 40)) (C := RX12) (T := TX12) (N := 59) hx hb hts hin12 hown hK hP 0 rfl rfl 40 (Nat.le_of_ble_eq_true rfl) (ho (.fieldLink RX12 252 "NearEnoughModel" "changes" "I") (List.mem_of_getElem? (i := 2) rfl)) (fun _ h9 => h9) rfl dX12_led_26 ?_
      have bσ_40 : 0 ≤ (σ.1 40).toInt ∧ (σ.1 40).toInt ≤ 12 := hI.1 40
      refine lv_iconst (v := 1) hx hb dX12_led_29 rg_6 ?_
      refine lv_isub hx hb dX12_led_30 ?_
      refine lv_topi (fun z10_ ez10_ => ?_)
      have o3 : -2147483648 ≤ (σ.1 40).toInt - 1 := by omega
      have o4 : (σ.1 40).toInt - 1 ≤ 2147483647 := by omega
      have tz10_ : z10_.toInt = (σ.1 40).toInt - 1 := ti_sub ez10_ rfl rg_18 o3 o4
      have kk11_ : (0 : Int32).toInt = 0 := rg_11
      refine zs_i (va_runS (As := [.int u, .int 0, .int z10_]) (rest := []) ⟨hx, hb, hml, hown, hts⟩ (n_isIn l dC dI u 0 z10_  H.size) (va_cwS 3 hts gd_n_led_324_n_isIn rfl rfl rfl dd_n_isIn ⟨Nat.le_of_ble_eq_true rfl, Nat.le_of_ble_eq_true rfl⟩) (preS (A := A) empP (hK.sub (tys' := []) [] rfl) empD hE) rfl rfl hl.1 rfl (lv_room (Nat.le_of_ble_eq_true rfl)) dX12_led_31 ⟨Nat.le_of_ble_eq_true rfl, Nat.le_of_ble_eq_true rfl⟩) hP hD hS hA (fun z12_ H locs hq hP hD hS => ?_)
      have f13_ := hq
      refine W.widen (k := 0) (n := 0) (Nat.le_of_ble_eq_true rfl) (Nat.le_of_ble_eq_true rfl) ?_
      refine lv_if_eq (tgt := 45) hx hb dX12_led_34 rfl (fun c14_ => ?_) (fun c14_ => ?_)
      · have tc14_ := (show z12_.toInt = 0 from ti_eq rfl rg_11 c14_)
        refine lv_ldc2 (v := (-1000000000000)) hx hb hown (ho (.constantLong RX12 429 (-1000000000000)) (List.mem_of_getElem? (i := 0) rfl)) dX12_led_45 ?_
        rw [hQ]
        exact W.lret (v := (-1000000000000)) hx hb hr (fun t ht hW => ⟨⟨(-1000000000000), σ, rfl, ⟨hI, eqx.rf⟩, wEn_of hP (hK.sub [] rfl) hD ht hW⟩, hS.F ht⟩) hS.2.2 dX12_led_48
      · have tc14_ := (show z12_.toInt ≠ 0 from ti_ne rfl rg_11 c14_)
        refine lv_aload_n hx hb dX12_led_37 rfl (lv_at hl 0 rfl) ?_
        refine lv_iload_n hx hb dX12_led_38 rfl (lv_at hl 3 rfl) ?_
        refine zy_i (va_runV (As := [.int z]) (rest := []) ⟨hx, hb, hml, hown, hts⟩ (n_isChoiceV l dC dI h ad cl H.size σ z hI) (cwV 1 hts gd_n_led_423_n_isChoiceV rfl rfl rfl dd_n_isChoiceV ⟨Nat.le_of_ble_eq_true rfl, Nat.le_of_ble_eq_true rfl⟩) (preV hP hK hD hE (ci := 12) (q0 := 0) rfl rfl) rfl rfl hl.1 rfl (lv_room (Nat.le_of_ble_eq_true rfl)) dX12_led_39 ⟨Nat.le_of_ble_eq_true rfl, Nat.le_of_ble_eq_true rfl⟩) hD hS hA (fun z16_ τ15_ H locs hq hP hD hS => ?_)
        obtain ⟨hI17_, hx18_, f19_⟩ := hq
        have Xτ15_ : eqx [37, 41, 42, 43, 44, 45, 46, 32, 47, 48, 49, 54, 55, 56, 57] τ15_ σ := eqx.tr hx18_ eqx.rf rg_578
        have qq20_ : (τ15_.1 29).toInt = ((σ.1 29) : Int32).toInt := congrArg Int32.toInt ((show τ15_.1 29 = (σ.1 29) from ((hx18_ 29 rg_552).1).trans rfl))
        have qq21_ : (τ15_.1 39).toInt = ((σ.1 39) : Int32).toInt := congrArg Int32.toInt ((show τ15_.1 39 = (σ.1 39) from ((hx18_ 39 rg_626).1).trans rfl))
        have qq22_ : (τ15_.1 40).toInt = ((σ.1 40) : Int32).toInt := congrArg Int32.toInt ((show τ15_.1 40 = (σ.1 40) from ((hx18_ 40 rg_87).1).trans rfl))
        refine W.widen (k := 0) (n := 0) (Nat.le_of_ble_eq_true rfl) (Nat.le_of_ble_eq_true rfl) ?_
        refine lv_if_ne (tgt := 49) hx hb dX12_led_42 rfl (fun c23_ => ?_) (fun c23_ => ?_)
        · have tc23_ := (show z16_.toInt ≠ 0 from ti_ne rfl rg_11 c23_)
          refine lv_iload_n hx hb dX12_led_49 rfl (lv_at hl 3 rfl) ?_
          refine lv_iload hx hb dX12_led_50 (lv_at hl 4 rfl) ?_
          refine lv_ishr hx hb dX12_led_52 ?_
          refine lv_topi (fun z24_ ez24_ => ?_)
          refine lv_iconst (v := 1) hx hb dX12_led_53 rg_6 ?_
          refine lv_iand hx hb dX12_led_54 ?_
          refine lv_topi (fun z25_ ez25_ => ?_)
          refine lv_if_ne (tgt := 62) hx hb dX12_led_55 rfl (fun c26_ => ?_) (fun c26_ => ?_)
          · have tc26_ := (show z25_.toInt ≠ 0 from ti_ne rfl rg_11 c26_)
            refine lv_iload_n hx hb dX12_led_62 rfl (lv_at hl 3 rfl) ?_
            refine lv_iconst (v := 1) hx hb dX12_led_63 rg_6 ?_
            refine lv_iload hx hb dX12_led_64 (lv_at hl 4 rfl) ?_
            refine lv_ishl hx hb dX12_led_66 ?_
            refine lv_topi (fun z27_ ez27_ => ?_)
            refine lv_iconst (v := 1) hx hb dX12_led_67 rg_6 ?_
            refine lv_isub hx hb dX12_led_68 ?_
            refine lv_topi (fun z28_ ez28_ => ?_)
            refine lv_iand hx hb dX12_led_69 ?_
            refine lv_topi (fun z29_ ez29_ => ?_)
            refine lv_istore (lv' := [(5, .int z29_), (0, .ref h), (1, .int x), (2, .int y), (3, .int z), (4, .int u)]) hx hb dX12_led_70 hl (Nat.le_of_ble_eq_true rfl) rfl (fun ls hl => ?_)
            refine lv_aload_n hx hb dX12_led_72 rfl (lv_at hl 1 rfl) ?_
            refine lv_iload hx hb dX12_led_73 (lv_at hl 0 rfl) ?_
            refine zy_i (va_runV (As := [.int z29_]) (rest := []) ⟨hx, hb, hml, hown, hts⟩ (n_isOpen l dC dI h ad cl H.size τ15_ z29_ hI17_ (RelP.x hR Xτ15_ rg_571 rg_572) (ChR.x hC Xτ15_ rg_571 rg_588 rg_572 rg_589 rg_590 rg_591)) (cwV 1 hts gd_n_led_370_n_isOpen rfl rfl rfl dd_n_isOpen ⟨Nat.le_of_ble_eq_true rfl, Nat.le_of_ble_eq_true rfl⟩) (preV hP hK hD hE (ci := 12) (q0 := 0) rfl rfl) rfl rfl hl.1 rfl (lv_room (Nat.le_of_ble_eq_true rfl)) dX12_led_75 ⟨Nat.le_of_ble_eq_true rfl, Nat.le_of_ble_eq_true rfl⟩) hD hS hA (fun z31_ τ30_ H locs hq hP hD hS => ?_)
            obtain ⟨hI32_, hx33_, f34_⟩ := hq
            have Xτ30_ : eqx [37, 41, 42, 43, 44, 45, 46, 32, 47, 48, 49, 54, 55, 56, 57] τ30_ σ := eqx.tr hx33_ Xτ15_ rg_568
            have qq35_ : (τ30_.1 29).toInt = ((σ.1 29) : Int32).toInt := congrArg Int32.toInt ((show τ30_.1 29 = (σ.1 29) from ((hx33_ 29 rg_569).1).trans (show τ15_.1 29 = (σ.1 29) from ((hx18_ 29 rg_552).1).trans rfl)))
            have qq36_ : (τ30_.1 39).toInt = ((σ.1 39) : Int32).toInt := congrArg Int32.toInt ((show τ30_.1 39 = (σ.1 39) from ((hx33_ 39 rg_570).1).trans (show τ15_.1 39 = (σ.1 39) from ((hx18_ 39 rg_626).1).trans rfl)))
            have qq37_ : (τ30_.1 40).toInt = ((σ.1 40) : Int32).toInt := congrArg Int32.toInt ((show τ30_.1 40 = (σ.1 40) from ((hx33_ 40 rg_594).1).trans (show τ15_.1 40 = (σ.1 40) from ((hx18_ 40 rg_87).1).trans rfl)))
            refine W.widen (k := 0) (n := 0) (Nat.le_of_ble_eq_true rfl) (Nat.le_of_ble_eq_true rfl) ?_
            refine lv_if_eq (tgt := 95) hx hb dX12_led_78 rfl (fun c38_ => ?_) (fun c38_ => ?_)
            · have tc38_ := (show z31_.toInt = 0 from ti_eq rfl rg_11 c38_)
              refine lv_ldc2 (v := (-1000000000000)) hx hb hown (ho (.constantLong RX12 429 (-1000000000000)) (List.mem_of_getElem? (i := 0) rfl)) dX12_led_95 ?_
              rw [hQ]
              exact W.lret (v := (-1000000000000)) hx hb hr (fun t ht hW => ⟨⟨(-1000000000000), τ30_, rfl, ⟨hI32_, Xτ30_⟩, wEn_of hP (hK.sub [] rfl) hD ht hW⟩, hS.F ht⟩) hS.2.2 dX12_led_98
            · have tc38_ := (show z31_.toInt ≠ 0 from ti_ne rfl rg_11 c38_)
              refine lv_aload_n hx hb dX12_led_81 rfl (lv_at hl 1 rfl) ?_
              refine lv_iload hx hb dX12_led_82 (lv_at hl 0 rfl) ?_
              refine lv_iconst (v := 1) hx hb dX12_led_84 rg_6 ?_
              refine lv_iload hx hb dX12_led_85 (lv_at hl 5 rfl) ?_
              refine lv_ishl hx hb dX12_led_87 ?_
              refine lv_topi (fun z39_ ez39_ => ?_)
              refine lv_ior hx hb dX12_led_88 ?_
              refine lv_topi (fun z40_ ez40_ => ?_)
              refine zy_i (va_runV (As := [.int z40_]) (rest := []) ⟨hx, hb, hml, hown, hts⟩ (n_isOpen l dC dI h ad cl H.size τ30_ z40_ hI32_ (RelP.x hR Xτ30_ rg_571 rg_572) (ChR.x hC Xτ30_ rg_571 rg_588 rg_572 rg_589 rg_590 rg_591)) (cwV 1 hts gd_n_led_370_n_isOpen rfl rfl rfl dd_n_isOpen ⟨Nat.le_of_ble_eq_true rfl, Nat.le_of_ble_eq_true rfl⟩) (preV hP hK hD hE (ci := 12) (q0 := 0) rfl rfl) rfl rfl hl.1 rfl (lv_room (Nat.le_of_ble_eq_true rfl)) dX12_led_89 ⟨Nat.le_of_ble_eq_true rfl, Nat.le_of_ble_eq_true rfl⟩) hD hS hA (fun z42_ τ41_ H locs hq hP hD hS => ?_)
              obtain ⟨hI43_, hx44_, f45_⟩ := hq
              have Xτ41_ : eqx [37, 41, 42, 43, 44, 45, 46, 32, 47, 48, 49, 54, 55, 56, 57] τ41_ σ := eqx.tr hx44_ Xτ30_ rg_568
              have qq46_ : (τ41_.1 29).toInt = ((σ.1 29) : Int32).toInt := congrArg Int32.toInt ((show τ41_.1 29 = (σ.1 29) from ((hx44_ 29 rg_569).1).trans (show τ30_.1 29 = (σ.1 29) from ((hx33_ 29 rg_569).1).trans (show τ15_.1 29 = (σ.1 29) from ((hx18_ 29 rg_552).1).trans rfl))))
              have qq47_ : (τ41_.1 39).toInt = ((σ.1 39) : Int32).toInt := congrArg Int32.toInt ((show τ41_.1 39 = (σ.1 39) from ((hx44_ 39 rg_570).1).trans (show τ30_.1 39 = (σ.1 39) from ((hx33_ 39 rg_570).1).trans (show τ15_.1 39 = (σ.1 39) from ((hx18_ 39 rg_626).1).trans rfl))))
              have qq48_ : (τ41_.1 40).toInt = ((σ.1 40) : Int32).toInt := congrArg Int32.toInt ((show τ41_.1 40 = (σ.1 40) from ((hx44_ 40 rg_594).1).trans (show τ30_.1 40 = (σ.1 40) from ((hx33_ 40 rg_594).1).trans (show τ15_.1 40 = (σ.1 40) from ((hx18_ 40 rg_87).1).trans rfl))))
              refine W.widen (k := 0) (n := 0) (Nat.le_of_ble_eq_true rfl) (Nat.le_of_ble_eq_true rfl) ?_
              refine lv_if_ne (tgt := 99) hx hb dX12_led_92 rfl (fun c49_ => ?_) (fun c49_ => ?_)
              · have tc49_ := (show z42_.toInt ≠ 0 from ti_ne rfl rg_11 c49_)
                refine lv_aload_n hx hb dX12_led_99 rfl (lv_at hl 1 rfl) ?_
                refine lv_iload_n hx hb dX12_led_100 rfl (lv_at hl 2 rfl) ?_
                refine lv_iload_n hx hb dX12_led_101 rfl (lv_at hl 3 rfl) ?_
                refine lv_iload hx hb dX12_led_102 (lv_at hl 0 rfl) ?_
                refine lv_iconst (v := 1) hx hb dX12_led_104 rg_6 ?_
                refine lv_iload hx hb dX12_led_105 (lv_at hl 5 rfl) ?_
                refine lv_ishl hx hb dX12_led_107 ?_
                refine lv_topi (fun z50_ ez50_ => ?_)
                refine lv_ior hx hb dX12_led_108 ?_
                refine lv_topi (fun z51_ ez51_ => ?_)
                have o5 : 0 ≤ x.toInt := by omega
                have o6 : x.toInt ≤ 3 := by omega
                have o7 : x.toInt < (σ.2.1 13 (σ.1 29).toNatClampNeg).toInt := by omega
                have HE52_ : EndOk σ x := ⟨o5, o6, o7⟩
                have o8 : 0 ≤ y.toInt := by omega
                have o9 : y.toInt ≤ 39 := by omega
                have o10 : ¬ z42_.toInt = 0 := by omega
                have PHX53_ : OnR τ30_ z40_ (τ41_.2.1 37) := by rcases f45_ with q | q; exact q.2.1; exact absurd q.1 o10
                have HX53_ : OnR σ z40_ (τ41_.2.1 37) := OnR.y PHX53_ Xτ30_ rg_588 rg_589
                refine zy_l (va_runV (As := [.int x, .int y, .int z51_]) (rest := []) ⟨hx, hb, hml, hown, hts⟩ (n_errorOn l dC dI h ad cl H.size τ41_ x y z51_ hI43_ (RelP.x hR Xτ41_ rg_571 rg_572) (ChR.x hC Xτ41_ rg_571 rg_588 rg_572 rg_589 rg_590 rg_591) (EndOk.x HE52_ Xτ41_ rg_571 rg_577) ⟨o8, o9⟩ ⟨_, OnR.c (OnR.x HX53_ Xτ41_ rg_588 rg_589) (show z51_ = z40_ by simp only [ez5_, ez10_, ez24_, ez25_, ez27_, ez28_, ez29_, ez39_, ez40_, ez50_, ez51_])⟩) (cwV 3 hts gd_n_led_477_n_errorOn rfl rfl rfl dd_n_errorOn ⟨Nat.le_of_ble_eq_true rfl, Nat.le_of_ble_eq_true rfl⟩) (preV hP hK hD hE (ci := 12) (q0 := 0) rfl rfl) rfl rfl hl.1 rfl (lv_room (Nat.le_of_ble_eq_true rfl)) dX12_led_109 ⟨Nat.le_of_ble_eq_true rfl, Nat.le_of_ble_eq_true rfl⟩) hD hS hA (fun y55_ τ54_ H locs hq hP hD hS => ?_)
                obtain ⟨hI56_, hx57_⟩ := hq
                have Xτ54_ : eqx [37, 41, 42, 43, 44, 45, 46, 32, 47, 48, 49, 54, 55, 56, 57] τ54_ σ := eqx.tr hx57_ Xτ41_ rg_627
                have qq58_ : (τ54_.1 29).toInt = ((σ.1 29) : Int32).toInt := congrArg Int32.toInt ((show τ54_.1 29 = (σ.1 29) from ((hx57_ 29 rg_618).1).trans (show τ41_.1 29 = (σ.1 29) from ((hx44_ 29 rg_569).1).trans (show τ30_.1 29 = (σ.1 29) from ((hx33_ 29 rg_569).1).trans (show τ15_.1 29 = (σ.1 29) from ((hx18_ 29 rg_552).1).trans rfl)))))
                have qq59_ : (τ54_.1 39).toInt = ((σ.1 39) : Int32).toInt := congrArg Int32.toInt ((show τ54_.1 39 = (σ.1 39) from ((hx57_ 39 rg_628).1).trans (show τ41_.1 39 = (σ.1 39) from ((hx44_ 39 rg_570).1).trans (show τ30_.1 39 = (σ.1 39) from ((hx33_ 39 rg_570).1).trans (show τ15_.1 39 = (σ.1 39) from ((hx18_ 39 rg_626).1).trans rfl)))))
                have qq60_ : (τ54_.1 40).toInt = ((σ.1 40) : Int32).toInt := congrArg Int32.toInt ((show τ54_.1 40 = (σ.1 40) from ((hx57_ 40 rg_629).1).trans (show τ41_.1 40 = (σ.1 40) from ((hx44_ 40 rg_594).1).trans (show τ30_.1 40 = (σ.1 40) from ((hx33_ 40 rg_594).1).trans (show τ15_.1 40 = (σ.1 40) from ((hx18_ 40 rg_87).1).trans rfl)))))
                refine W.widen (k := 0) (n := 0) (Nat.le_of_ble_eq_true rfl) (Nat.le_of_ble_eq_true rfl) ?_
                refine lv_aload_n hx hb dX12_led_112 rfl (lv_at hl 1 rfl) ?_
                refine lv_iload_n hx hb dX12_led_113 rfl (lv_at hl 2 rfl) ?_
                refine lv_iload_n hx hb dX12_led_114 rfl (lv_at hl 3 rfl) ?_
                refine lv_iload hx hb dX12_led_115 (lv_at hl 0 rfl) ?_
                have o11 : ¬ z31_.toInt = 0 := by omega
                have PHX61_ : OnR τ15_ z29_ (τ30_.2.1 37) := by rcases f34_ with q | q; exact q.2.1; exact absurd q.1 o11
                have HX61_ : OnR σ z29_ (τ30_.2.1 37) := OnR.y PHX61_ Xτ15_ rg_588 rg_589
                refine zy_l (va_runV (As := [.int x, .int y, .int z29_]) (rest := [.long y55_]) ⟨hx, hb, hml, hown, hts⟩ (n_errorOn l dC dI h ad cl H.size τ54_ x y z29_ hI56_ (RelP.x hR Xτ54_ rg_571 rg_572) (ChR.x hC Xτ54_ rg_571 rg_588 rg_572 rg_589 rg_590 rg_591) (EndOk.x HE52_ Xτ54_ rg_571 rg_577) ⟨o8, o9⟩ ⟨_, (OnR.x HX61_ Xτ54_ rg_588 rg_589)⟩) (cwV 3 hts gd_n_led_477_n_errorOn rfl rfl rfl dd_n_errorOn ⟨Nat.le_of_ble_eq_true rfl, Nat.le_of_ble_eq_true rfl⟩) (preV hP hK hD hE (ci := 12) (q0 := 0) rfl rfl) rfl rfl hl.1 rfl (lv_room (Nat.le_of_ble_eq_true rfl)) dX12_led_117 ⟨Nat.le_of_ble_eq_true rfl, Nat.le_of_ble_eq_true rfl⟩) hD hS hA (fun y63_ τ62_ H locs hq hP hD hS => ?_)
                obtain ⟨hI64_, hx65_⟩ := hq
                have Xτ62_ : eqx [37, 41, 42, 43, 44, 45, 46, 32, 47, 48, 49, 54, 55, 56, 57] τ62_ σ := eqx.tr hx65_ Xτ54_ rg_627
                have qq66_ : (τ62_.1 29).toInt = ((σ.1 29) : Int32).toInt := congrArg Int32.toInt ((show τ62_.1 29 = (σ.1 29) from ((hx65_ 29 rg_618).1).trans (show τ54_.1 29 = (σ.1 29) from ((hx57_ 29 rg_618).1).trans (show τ41_.1 29 = (σ.1 29) from ((hx44_ 29 rg_569).1).trans (show τ30_.1 29 = (σ.1 29) from ((hx33_ 29 rg_569).1).trans (show τ15_.1 29 = (σ.1 29) from ((hx18_ 29 rg_552).1).trans rfl))))))
                have qq67_ : (τ62_.1 39).toInt = ((σ.1 39) : Int32).toInt := congrArg Int32.toInt ((show τ62_.1 39 = (σ.1 39) from ((hx65_ 39 rg_628).1).trans (show τ54_.1 39 = (σ.1 39) from ((hx57_ 39 rg_628).1).trans (show τ41_.1 39 = (σ.1 39) from ((hx44_ 39 rg_570).1).trans (show τ30_.1 39 = (σ.1 39) from ((hx33_ 39 rg_570).1).trans (show τ15_.1 39 = (σ.1 39) from ((hx18_ 39 rg_626).1).trans rfl))))))
                have qq68_ : (τ62_.1 40).toInt = ((σ.1 40) : Int32).toInt := congrArg Int32.toInt ((show τ62_.1 40 = (σ.1 40) from ((hx65_ 40 rg_629).1).trans (show τ54_.1 40 = (σ.1 40) from ((hx57_ 40 rg_629).1).trans (show τ41_.1 40 = (σ.1 40) from ((hx44_ 40 rg_594).1).trans (show τ30_.1 40 = (σ.1 40) from ((hx33_ 40 rg_594).1).trans (show τ15_.1 40 = (σ.1 40) from ((hx18_ 40 rg_87).1).trans rfl))))))
                refine W.widen (k := 0) (n := 0) (Nat.le_of_ble_eq_true rfl) (Nat.le_of_ble_eq_true rfl) ?_
                refine lv_lsub hx hb dX12_led_120 ?_
                refine lv_topl (fun y69_ ey69_ => ?_)
                rw [hQ]
                exact W.lret (v := y69_) hx hb hr (fun t ht hW => ⟨⟨y69_, τ62_, rfl, ⟨hI64_, Xτ62_⟩, wEn_of hP (hK.sub [] rfl) hD ht hW⟩, hS.F ht⟩) hS.2.2 dX12_led_121
              · have tc49_ := (show z42_.toInt = 0 from ti_eq rfl rg_11 c49_)
                refine lv_ldc2 (v := (-1000000000000)) hx hb hown (ho (.constantLong RX12 429 (-1000000000000)) (List.mem_of_getElem? (i := 0) rfl)) dX12_led_95 ?_
                rw [hQ]
                exact W.lret (v := (-1000000000000)) hx hb hr (fun t ht hW => ⟨⟨(-1000000000000), τ41_, rfl, ⟨hI43_, Xτ41_⟩, wEn_of hP (hK.sub [] rfl) hD ht hW⟩, hS.F ht⟩) hS.2.2 dX12_led_98
          · have tc26_ := (show z25_.toInt = 0 from ti_eq rfl rg_11 c26_)
            refine lv_ldc2 (v := (-1000000000000)) hx hb hown (ho (.constantLong RX12 429 (-1000000000000)) (List.mem_of_getElem? (i := 0) rfl)) dX12_led_58 ?_
            rw [hQ]
            exact W.lret (v := (-1000000000000)) hx hb hr (fun t ht hW => ⟨⟨(-1000000000000), τ15_, rfl, ⟨hI17_, Xτ15_⟩, wEn_of hP (hK.sub [] rfl) hD ht hW⟩, hS.F ht⟩) hS.2.2 dX12_led_61
        · have tc23_ := (show z16_.toInt = 0 from ti_eq rfl rg_11 c23_)
          refine lv_ldc2 (v := (-1000000000000)) hx hb hown (ho (.constantLong RX12 429 (-1000000000000)) (List.mem_of_getElem? (i := 0) rfl)) dX12_led_45 ?_
          rw [hQ]
          exact W.lret (v := (-1000000000000)) hx hb hr (fun t ht hW => ⟨⟨(-1000000000000), τ15_, rfl, ⟨hI17_, Xτ15_⟩, wEn_of hP (hK.sub [] rfl) hD ht hW⟩, hS.F ht⟩) hS.2.2 dX12_led_48
def ow_n_day : List Cond := [.fieldLink RX12 249 "NearEnoughModel" "sheets" "I", .fieldLink RX12 258 "NearEnoughModel" "purse" "I"]
def vs_n_day : List Cond := .code yX12_day cX12_day 6 (some .int) :: (ow_n_day ++ (([.methodLink RX12 431 yX12_isEnd, .instanceMethod yX12_isEnd, .selects RX12 yX12_isEnd yX12_isEnd, .initialized RX12] : List Cond) ++ (vs_n_isEnd ++ (([.methodLink RX12 324 yX12_isIn, .static yX12_isIn, .initialized yX12_isIn.cls] : List Cond) ++ (vs_n_isIn ++ (([.methodLink RX12 370 yX12_isOpen, .instanceMethod yX12_isOpen, .selects RX12 yX12_isOpen yX12_isOpen, .initialized RX12] : List Cond) ++ (vs_n_isOpen ++ (([.methodLink RX12 438 yX12_farOn, .instanceMethod yX12_farOn, .selects RX12 yX12_farOn yX12_farOn, .initialized RX12] : List Cond) ++ (vs_n_farOn ++ (wsX120))))))))))
theorem vg_n_day : vs_n_day.all goodWord = true := by decide +kernel
theorem dd_n_day : yX12_day.cls = RX12 ∧ yX12_day.cls ≠ "java/lang/invoke/MethodHandle" ∧ yX12_day.cls ≠ "java/lang/invoke/VarHandle" ∧ (parseMethodDescriptor yX12_day.desc).map (fun d => d.parameters.length) = some 3 := by decide +kernel
def rm_n_day : Room := { frames := 7, cells := 0, slots := 0, locals := 180 }
theorem gd_n_day_431_n_isEnd : GoodIn vs_n_day (wsV RX12 431 RX12 yX12_isEnd vs_n_isEnd) := goodIn_app (goodIn_sub (fun w h => (List.mem_cons_of_mem _ (List.mem_append_right _ (List.mem_append_left _ h)))) (by decide +kernel)) (goodIn_sub (fun w h => (List.mem_cons_of_mem _ (List.mem_append_right _ (List.mem_append_right _ (List.mem_append_left _ h))))) vg_n_isEnd)
theorem gd_n_day_324_n_isIn : GoodIn vs_n_day (va_wsS RX12 324 yX12_isIn vs_n_isIn) := goodIn_app (goodIn_sub (fun w h => (List.mem_cons_of_mem _ (List.mem_append_right _ (List.mem_append_right _ (List.mem_append_right _ (List.mem_append_left _ h)))))) (by decide +kernel)) (goodIn_sub (fun w h => (List.mem_cons_of_mem _ (List.mem_append_right _ (List.mem_append_right _ (List.mem_append_right _ (List.mem_append_right _ (List.mem_append_left _ h))))))) vg_n_isIn)
theorem gd_n_day_370_n_isOpen : GoodIn vs_n_day (wsV RX12 370 RX12 yX12_isOpen vs_n_isOpen) := goodIn_app (goodIn_sub (fun w h => (List.mem_cons_of_mem _ (List.mem_append_right _ (List.mem_append_right _ (List.mem_append_right _ (List.mem_append_right _ (List.mem_append_right _ (List.mem_append_left _ h)))))))) (by decide +kernel)) (goodIn_sub (fun w h => (List.mem_cons_of_mem _ (List.mem_append_right _ (List.mem_append_right _ (List.mem_append_right _ (List.mem_append_right _ (List.mem_append_right _ (List.mem_append_right _ (List.mem_append_left _ h))))))))) vg_n_isOpen)
theorem gd_n_day_438_n_farOn : GoodIn vs_n_day (wsV RX12 438 RX12 yX12_farOn vs_n_farOn) := goodIn_app (goodIn_sub (fun w h => (List.mem_cons_of_mem _ (List.mem_append_right _ (List.mem_append_right _ (List.mem_append_right _ (List.mem_append_right _ (List.mem_append_right _ (List.mem_append_right _ (List.mem_append_right _ (List.mem_append_left _ h)))))))))) (by decide +kernel)) (goodIn_sub (fun w h => (List.mem_cons_of_mem _ (List.mem_append_right _ (List.mem_append_right _ (List.mem_append_right _ (List.mem_append_right _ (List.mem_append_right _ (List.mem_append_right _ (List.mem_append_right _ (List.mem_append_right _ (List.mem_append_left _ h))))))))))) vg_n_farOn)
set_option maxHeartbeats 4000000 in
set_option maxRecDepth 100000 in
theorem n_day (l : Launch) (dC : Nat → ClassId) (dI : Nat → Nat → Nat) (h : Nat) (ad : Nat → Nat) (cl : Nat → ClassId) (sz : Nat) (σ : MS) (x : Int32) (y : Int32) (z : Int32) (hI : Inv σ) (hRI : RI σ) : Met l yX12_day vs_n_day rm_n_day (va_Pc [.ref h, .int x, .int y, .int z] (wSt dC dI (mW h ad cl σ) (mT cl) sz)) (va_Qi (fun (r : Int32) (τ : MS) => Inv τ ∧ eqx [37, 41, 42, 43, 44, 45, 46, 32, 47, 48, 49, 54, 55, 56, 57, 58] τ σ) (fun (τ : MS) => wEn dC dI (va_A (mW h ad cl σ) sz) (mW h ad cl τ) []) (va_A (mW h ad cl σ) sz)) 0 0 (va_A (mW h ad cl σ) sz) := by
  refine Met.ofW (cc := cX12_day) (maxL := 6) (ret := (some .int)) (by decide) rfl ?_
  intro p e s m args below meth c s₁ B hml hv
  obtain ⟨rfl, hsz, hP, hK, hD0, hE⟩ := hv
  have hx := B.exec
  have hb := B.bytes
  have hr := B.returns
  have hts := atoms_spec (ws := vs_n_day) B.pre
  have hown : s.vm.findClass RX12 = some m.cls := findClass_of_methodNamed B.named
  have hlocks := B.notSynchronized
  subst hsz
  have hD := hD0.self (sz := s.heap.size)
  generalize hAe : va_A (mW h ad cl σ) s.heap.size = A at hD ⊢
  have hA : ∀ q : Nat, s.heap.size ≤ q → A q := fun q h => by rw [← hAe]; exact Or.inr h
  have hl := lv_entry ([.ref h, .int x, .int y, .int z]) (n := 6) (Nat.le_of_ble_eq_true rfl)
  rw [lg_entry_eq]
  generalize (lg_sl ([.ref h, .int x, .int y, .int z]) ++ List.replicate (6 - (lg_sl ([.ref h, .int x, .int y, .int z])).length) Slot.unset).toArray = ls at hl ⊢
  have hl : lv_has ls 6 [(0, .ref h), (1, .int x), (2, .int y), (3, .int z)] := hl
  have ho := fun w (h : w ∈ ow_n_day) => hts w (List.mem_cons_of_mem _ (List.mem_append_left _ h))
  have hin12 : ∀ w ∈ u_ws RX12 TX12 59, w ∈ vs_n_day := fun w h => (List.mem_cons_of_mem _ (List.mem_append_right _ (List.mem_append_right _ (List.mem_append_right _ (List.mem_append_right _ (List.mem_append_right _ (List.mem_append_right _ (List.mem_append_right _ (List.mem_append_right _ (List.mem_append_right _ h))))))))))
  refine zQ (fun Q hQ => ?_)
  have hR : RelP σ (σ.1 29).toNatClampNeg := hRI.1
  have hC : ChR σ := hRI.2.2.1
  refine zH (A := A) (ws := mW h ad cl σ) (fun H hP hS => ?_) hP
  have bσ_29 : 0 ≤ (σ.1 29).toInt ∧ (σ.1 29).toInt ≤ 1 := hI.1 29
  have bσ_39 : 0 ≤ (σ.1 39).toInt ∧ (σ.1 39).toInt ≤ 40 := hI.1 39
  have bσ_58 : 0 ≤ (σ.1 58).toInt ∧ (σ.1 58).toInt ≤ 99999 := hI.1 58
  refine lv_aload_n hx hb dX12_day_0 rfl (lv_at hl 0 rfl) ?_
  refine lv_iload_n hx hb dX12_day_1 rfl (lv_at hl 1 rfl) ?_
  refine zy_i (va_runV (As := [.int x]) (rest := []) ⟨hx, hb, hml, hown, hts⟩ (n_isEnd l dC dI h ad cl H.size σ x hI) (cwV 1 hts gd_n_day_431_n_isEnd rfl rfl rfl dd_n_isEnd ⟨Nat.le_of_ble_eq_true rfl, Nat.le_of_ble_eq_true rfl⟩) (preV hP hK hD hE (ci := 12) (q0 := 0) rfl rfl) rfl rfl hl.1 rfl (lv_room (Nat.le_of_ble_eq_true rfl)) dX12_day_2 ⟨Nat.le_of_ble_eq_true rfl, Nat.le_of_ble_eq_true rfl⟩) hD hS hA (fun z2_ τ1_ H locs hq hP hD hS => ?_)
  obtain ⟨rfl, f3_⟩ := hq
  refine W.widen (k := 0) (n := 0) (Nat.le_of_ble_eq_true rfl) (Nat.le_of_ble_eq_true rfl) ?_
  refine lv_if_eq (tgt := 30) hx hb dX12_day_5 rfl (fun c4_ => ?_) (fun c4_ => ?_)
  · have tc4_ := (show z2_.toInt = 0 from ti_eq rfl rg_11 c4_)
    refine lv_iconst (v := (-1)) hx hb dX12_day_30 rg_53 ?_
    rw [hQ]
    exact W.iret (v := (-1)) hx hb hr (fun t ht hW => ⟨⟨(-1), σ, rfl, ⟨hI, eqx.rf⟩, wEn_of hP (hK.sub [] rfl) hD ht hW⟩, hS.F ht⟩) hS.2.2 dX12_day_31
  · have tc4_ := (show z2_.toInt ≠ 0 from ti_ne rfl rg_11 c4_)
    refine lv_iload_n hx hb dX12_day_8 rfl (lv_at hl 2 rfl) ?_
    refine lv_iconst (v := 0) hx hb dX12_day_9 rg_0 ?_
    refine lv_aload_n hx hb dX12_day_10 rfl (lv_at hl 0 rfl) ?_
    refine va_get (D := (dC, dI)) (ci := 12) (v := .int (σ.1 39)) (C := RX12) (T := TX12) (N := 59) hx hb hts hin12 hown hK hP 0 rfl rfl 39 (Nat.le_of_ble_eq_true rfl) (ho (.fieldLink RX12 249 "NearEnoughModel" "sheets" "I") (List.mem_of_getElem? (i := 0) rfl)) (fun _ h9 => h9) rfl dX12_day_11 ?_
    have bσ_39 : 0 ≤ (σ.1 39).toInt ∧ (σ.1 39).toInt ≤ 40 := hI.1 39
    refine lv_iconst (v := 1) hx hb dX12_day_14 rg_6 ?_
    refine lv_isub hx hb dX12_day_15 ?_
    refine lv_topi (fun z5_ ez5_ => ?_)
    have o1 : -2147483648 ≤ (σ.1 39).toInt - 1 := by omega
    have o2 : (σ.1 39).toInt - 1 ≤ 2147483647 := by omega
    have tz5_ : z5_.toInt = (σ.1 39).toInt - 1 := ti_sub ez5_ rfl rg_18 o1 o2
    have kk6_ : (0 : Int32).toInt = 0 := rg_11
    refine zs_i (va_runS (As := [.int y, .int 0, .int z5_]) (rest := []) ⟨hx, hb, hml, hown, hts⟩ (n_isIn l dC dI y 0 z5_  H.size) (va_cwS 3 hts gd_n_day_324_n_isIn rfl rfl rfl dd_n_isIn ⟨Nat.le_of_ble_eq_true rfl, Nat.le_of_ble_eq_true rfl⟩) (preS (A := A) empP (hK.sub (tys' := []) [] rfl) empD hE) rfl rfl hl.1 rfl (lv_room (Nat.le_of_ble_eq_true rfl)) dX12_day_16 ⟨Nat.le_of_ble_eq_true rfl, Nat.le_of_ble_eq_true rfl⟩) hP hD hS hA (fun z7_ H locs hq hP hD hS => ?_)
    have f8_ := hq
    refine W.widen (k := 0) (n := 0) (Nat.le_of_ble_eq_true rfl) (Nat.le_of_ble_eq_true rfl) ?_
    refine lv_if_eq (tgt := 30) hx hb dX12_day_19 rfl (fun c9_ => ?_) (fun c9_ => ?_)
    · have tc9_ := (show z7_.toInt = 0 from ti_eq rfl rg_11 c9_)
      refine lv_iconst (v := (-1)) hx hb dX12_day_30 rg_53 ?_
      rw [hQ]
      exact W.iret (v := (-1)) hx hb hr (fun t ht hW => ⟨⟨(-1), σ, rfl, ⟨hI, eqx.rf⟩, wEn_of hP (hK.sub [] rfl) hD ht hW⟩, hS.F ht⟩) hS.2.2 dX12_day_31
    · have tc9_ := (show z7_.toInt ≠ 0 from ti_ne rfl rg_11 c9_)
      refine lv_aload_n hx hb dX12_day_22 rfl (lv_at hl 0 rfl) ?_
      refine lv_iload_n hx hb dX12_day_23 rfl (lv_at hl 3 rfl) ?_
      refine zy_i (va_runV (As := [.int z]) (rest := []) ⟨hx, hb, hml, hown, hts⟩ (n_isOpen l dC dI h ad cl H.size σ z hI hR hC) (cwV 1 hts gd_n_day_370_n_isOpen rfl rfl rfl dd_n_isOpen ⟨Nat.le_of_ble_eq_true rfl, Nat.le_of_ble_eq_true rfl⟩) (preV hP hK hD hE (ci := 12) (q0 := 0) rfl rfl) rfl rfl hl.1 rfl (lv_room (Nat.le_of_ble_eq_true rfl)) dX12_day_24 ⟨Nat.le_of_ble_eq_true rfl, Nat.le_of_ble_eq_true rfl⟩) hD hS hA (fun z11_ τ10_ H locs hq hP hD hS => ?_)
      obtain ⟨hI12_, hx13_, f14_⟩ := hq
      have Xτ10_ : eqx [37, 41, 42, 43, 44, 45, 46, 32, 47, 48, 49, 54, 55, 56, 57, 58] τ10_ σ := eqx.tr hx13_ eqx.rf rg_630
      have qq15_ : (τ10_.1 29).toInt = ((σ.1 29) : Int32).toInt := congrArg Int32.toInt ((show τ10_.1 29 = (σ.1 29) from ((hx13_ 29 rg_569).1).trans rfl))
      have qq16_ : (τ10_.1 39).toInt = ((σ.1 39) : Int32).toInt := congrArg Int32.toInt ((show τ10_.1 39 = (σ.1 39) from ((hx13_ 39 rg_570).1).trans rfl))
      have qq17_ : (τ10_.1 58).toInt = ((σ.1 58) : Int32).toInt := congrArg Int32.toInt ((show τ10_.1 58 = (σ.1 58) from ((hx13_ 58 rg_631).1).trans rfl))
      refine W.widen (k := 0) (n := 0) (Nat.le_of_ble_eq_true rfl) (Nat.le_of_ble_eq_true rfl) ?_
      refine lv_if_ne (tgt := 32) hx hb dX12_day_27 rfl (fun c18_ => ?_) (fun c18_ => ?_)
      · have tc18_ := (show z11_.toInt ≠ 0 from ti_ne rfl rg_11 c18_)
        refine lv_aload_n hx hb dX12_day_32 rfl (lv_at hl 0 rfl) ?_
        refine lv_iload_n hx hb dX12_day_33 rfl (lv_at hl 1 rfl) ?_
        refine lv_iload_n hx hb dX12_day_34 rfl (lv_at hl 2 rfl) ?_
        have o3 : ¬ z11_.toInt = 0 := by omega
        have POK19_ : Opn σ z (τ10_.2.1 37) (τ10_.2.2.1 43) (τ10_.2.2.1 44) := by rcases f14_ with q | q; exact q.2; exact absurd q.1 o3
        have OK19_ : OnOk τ10_ := OnR.ok hI hC hx13_ rg_573 rg_574 POK19_.1
        have o4 : 0 ≤ x.toInt := by omega
        have o5 : x.toInt ≤ 3 := by omega
        have o6 : x.toInt < (σ.2.1 13 (σ.1 29).toNatClampNeg).toInt := by omega
        have HE20_ : EndOk σ x := ⟨o4, o5, o6⟩
        have o7 : 0 ≤ y.toInt := by omega
        have o8 : y.toInt ≤ 39 := by omega
        refine zy_l (va_runV (As := [.int x, .int y]) (rest := []) ⟨hx, hb, hml, hown, hts⟩ (n_farOn l dC dI h ad cl H.size τ10_ x y hI12_ (RelP.x hR Xτ10_ rg_632 rg_633) OK19_ (EndOk.x HE20_ Xτ10_ rg_632 rg_634) ⟨o7, o8⟩) (cwV 2 hts gd_n_day_438_n_farOn rfl rfl rfl dd_n_farOn ⟨Nat.le_of_ble_eq_true rfl, Nat.le_of_ble_eq_true rfl⟩) (preV hP hK hD hE (ci := 12) (q0 := 0) rfl rfl) rfl rfl hl.1 rfl (lv_room (Nat.le_of_ble_eq_true rfl)) dX12_day_35 ⟨Nat.le_of_ble_eq_true rfl, Nat.le_of_ble_eq_true rfl⟩) hD hS hA (fun y22_ τ21_ H locs hq hP hD hS => ?_)
        obtain ⟨hI23_, hx24_, f25_⟩ := hq
        have Xτ21_ : eqx [37, 41, 42, 43, 44, 45, 46, 32, 47, 48, 49, 54, 55, 56, 57, 58] τ21_ σ := eqx.tr hx24_ Xτ10_ rg_635
        have qq26_ : (τ21_.1 29).toInt = ((σ.1 29) : Int32).toInt := congrArg Int32.toInt ((show τ21_.1 29 = (σ.1 29) from ((hx24_ 29 rg_483).1).trans (show τ10_.1 29 = (σ.1 29) from ((hx13_ 29 rg_569).1).trans rfl)))
        have qq27_ : (τ21_.1 39).toInt = ((σ.1 39) : Int32).toInt := congrArg Int32.toInt ((show τ21_.1 39 = (σ.1 39) from ((hx24_ 39 rg_576).1).trans (show τ10_.1 39 = (σ.1 39) from ((hx13_ 39 rg_570).1).trans rfl)))
        have qq28_ : (τ21_.1 58).toInt = ((σ.1 58) : Int32).toInt := congrArg Int32.toInt ((show τ21_.1 58 = (σ.1 58) from ((hx24_ 58 rg_636).1).trans (show τ10_.1 58 = (σ.1 58) from ((hx13_ 58 rg_631).1).trans rfl)))
        refine W.widen (k := 0) (n := 0) (Nat.le_of_ble_eq_true rfl) (Nat.le_of_ble_eq_true rfl) ?_
        have o9 : y.toInt < (σ.1 39).toInt := by omega
        have FN29_ := far_nn hI hRI hx13_ rg_569 rg_637 rg_638 rg_639 POK19_ HE20_ o7 o9 o8 f25_
        refine lv_lstore (lv' := [(4, .long y22_), (0, .ref h), (1, .int x), (2, .int y), (3, .int z)]) hx hb dX12_day_38 hl (Nat.le_of_ble_eq_true rfl) rfl (fun ls hl => ?_)
        refine lv_lload hx hb dX12_day_40 (lv_at hl 0 rfl) ?_
        refine lv_aload_n hx hb dX12_day_42 rfl (lv_at hl 1 rfl) ?_
        refine va_get (D := (dC, dI)) (ci := 12) (v := .int (τ21_.1 58)) (C := RX12) (T := TX12) (N := 59) hx hb hts hin12 hown hK hP 0 rfl rfl 58 (Nat.le_of_ble_eq_true rfl) (ho (.fieldLink RX12 258 "NearEnoughModel" "purse" "I") (List.mem_of_getElem? (i := 1) rfl)) (fun _ h9 => h9) rfl dX12_day_43 ?_
        refine zi (v := (σ.1 58)) (show τ21_.1 58 = (σ.1 58) from ((hx24_ 58 rg_636).1).trans (show τ10_.1 58 = (σ.1 58) from ((hx13_ 58 rg_631).1).trans rfl)) ?_
        have bb30_ : 0 ≤ (σ.1 58).toInt ∧ (σ.1 58).toInt ≤ 99999 := by have h9 := hI23_.1 58; rw [show (τ21_.1 58) = (σ.1 58) from (show τ21_.1 58 = (σ.1 58) from ((hx24_ 58 rg_636).1).trans (show τ10_.1 58 = (σ.1 58) from ((hx13_ 58 rg_631).1).trans rfl))] at h9; exact h9
        refine lv_i2l hx hb dX12_day_46 rfl ?_
        refine lv_topl (fun y31_ ey31_ => ?_)
        refine W.lcmp hx hb dX12_day_47 ?_
        refine lv_topi (fun z32_ ez32_ => ?_)
        refine lv_if_le (tgt := 54) hx hb dX12_day_48 rfl (fun c33_ => ?_) (fun c33_ => ?_)
        · have tc33_ := (show z32_.toInt ≤ 0 from ti_le rfl rg_11 c33_)
          have lc33_ : y22_ ≤ y31_ := (lg_cmp_le y22_ y31_).mp (by rw [← ez32_]; exact c33_)
          refine lv_aload_n hx hb dX12_day_54 rfl (lv_at hl 1 rfl) ?_
          refine lv_dup hx hb dX12_day_55 rfl ?_
          refine va_get (D := (dC, dI)) (ci := 12) (v := .int (τ21_.1 58)) (C := RX12) (T := TX12) (N := 59) hx hb hts hin12 hown hK hP 0 rfl rfl 58 (Nat.le_of_ble_eq_true rfl) (ho (.fieldLink RX12 258 "NearEnoughModel" "purse" "I") (List.mem_of_getElem? (i := 1) rfl)) (fun _ h9 => h9) rfl dX12_day_56 ?_
          refine zi (v := (σ.1 58)) (show τ21_.1 58 = (σ.1 58) from ((hx24_ 58 rg_636).1).trans (show τ10_.1 58 = (σ.1 58) from ((hx13_ 58 rg_631).1).trans rfl)) ?_
          have bb34_ : 0 ≤ (σ.1 58).toInt ∧ (σ.1 58).toInt ≤ 99999 := by have h9 := hI23_.1 58; rw [show (τ21_.1 58) = (σ.1 58) from (show τ21_.1 58 = (σ.1 58) from ((hx24_ 58 rg_636).1).trans (show τ10_.1 58 = (σ.1 58) from ((hx13_ 58 rg_631).1).trans rfl))] at h9; exact h9
          refine lv_lload hx hb dX12_day_59 (lv_at hl 0 rfl) ?_
          refine lv_l2i hx hb dX12_day_61 rfl ?_
          refine lv_topi (fun z35_ ez35_ => ?_)
          have le_ := le64 lc33_
          have pv_ := i2l_val ey31_
          have o10 : 0 ≤ y22_.toInt := by omega
          have o11 : y22_.toInt ≤ 1000000000 := by omega
          have tz35_ := l2i_val ez35_ o10 o11
          refine lv_isub hx hb dX12_day_62 ?_
          refine lv_topi (fun z36_ ez36_ => ?_)
          have o12 : -2147483648 ≤ (σ.1 58).toInt - z35_.toInt := by omega
          have o13 : (σ.1 58).toInt - z35_.toInt ≤ 2147483647 := by omega
          have tz36_ : z36_.toInt = (σ.1 58).toInt - z35_.toInt := ti_sub ez36_ rfl rfl o12 o13
          refine va_put (D := (dC, dI)) (ci := 12) (v := .int z36_) (ty := tyX12 58) (C := RX12) (T := TX12) (N := 59) hx hb hts hin12 tyX12 tyX12_ok nmX12 hown hK hP hD hS 0 rfl rfl 58 (Nat.le_of_ble_eq_true rfl) (ho (.fieldLink RX12 258 "NearEnoughModel" "purse" "I") (List.mem_of_getElem? (i := 1) rfl)) (fun _ h9 => h9) rfl (tyX12_ok 58 (Nat.le_of_ble_eq_true rfl)) rfl rfl (Nat.le_of_ble_eq_true rfl) dX12_day_63 (fun H locs hP hD hS => ?_)
          have hP : va_P (dC, dI) vwCl (mW h ad cl (sI τ21_ 58 z36_)) H := hP
          have hD : va_D A (mW h ad cl (sI τ21_ 58 z36_)) := hD
          refine lv_aload_n hx hb dX12_day_66 rfl (lv_at hl 1 rfl) ?_
          refine va_get (D := (dC, dI)) (ci := 12) (v := .int z36_) (C := RX12) (T := TX12) (N := 59) hx hb hts hin12 hown hK hP 0 rfl rfl 58 (Nat.le_of_ble_eq_true rfl) (ho (.fieldLink RX12 258 "NearEnoughModel" "purse" "I") (List.mem_of_getElem? (i := 1) rfl)) (fun _ h9 => h9) rfl dX12_day_67 ?_
          rw [hQ]
          have o14 : (0 : Int) ≤ z36_.toInt := by omega
          have o15 : z36_.toInt ≤ 99999 := by omega
          exact W.iret (v := z36_) hx hb hr (fun t ht hW => ⟨⟨z36_, (sI τ21_ 58 z36_), rfl, ⟨(Inv.sI (k := 58) (v := z36_) hI23_ (show (0 : Int) ≤ z36_.toInt ∧ z36_.toInt ≤ 99999 from ⟨o14, o15⟩)), (eqx.sI Xτ21_ rg_640)⟩, wEn_of hP (hK.sub [] rfl) hD ht hW⟩, hS.F ht⟩) hS.2.2 dX12_day_70
        · have tc33_ := (show 0 < z32_.toInt from ti_nle rfl rg_11 c33_)
          have lc33_ : ¬ y22_ ≤ y31_ := fun h => c33_ (by rw [ez32_]; exact (lg_cmp_le y22_ y31_).mpr h)
          refine lv_bipush (v := (-2)) hx hb dX12_day_51 rg_579 ?_
          rw [hQ]
          exact W.iret (v := (-2)) hx hb hr (fun t ht hW => ⟨⟨(-2), τ21_, rfl, ⟨hI23_, Xτ21_⟩, wEn_of hP (hK.sub [] rfl) hD ht hW⟩, hS.F ht⟩) hS.2.2 dX12_day_53
      · have tc18_ := (show z11_.toInt = 0 from ti_eq rfl rg_11 c18_)
        refine lv_iconst (v := (-1)) hx hb dX12_day_30 rg_53 ?_
        rw [hQ]
        exact W.iret (v := (-1)) hx hb hr (fun t ht hW => ⟨⟨(-1), τ10_, rfl, ⟨hI12_, Xτ10_⟩, wEn_of hP (hK.sub [] rfl) hD ht hW⟩, hS.F ht⟩) hS.2.2 dX12_day_31
def ow_n_putV : List Cond := [.fieldLink RX12 249 "NearEnoughModel" "sheets" "I", .fieldLink RX12 20 "NearEnoughModel" "rowMany" "[I", .fieldLink RX12 240 "NearEnoughModel" "bank" "I", .fieldLink RX12 30 "NearEnoughModel" "rHas" "[I", .fieldLink RX12 33 "NearEnoughModel" "rLeast" "[I", .fieldLink RX12 36 "NearEnoughModel" "rMost" "[I", .fieldLink RX12 76 "NearEnoughModel" "numbers" "[I"]
def vs_n_putV : List Cond := .code yX12_put cX12_put 6 (some .boolean) :: (ow_n_putV ++ (([.methodLink RX12 324 yX12_isIn, .static yX12_isIn, .initialized yX12_isIn.cls] : List Cond) ++ (vs_n_isIn ++ (wsX120))))
theorem vg_n_putV : vs_n_putV.all goodWord = true := by decide +kernel
theorem dd_n_putV : yX12_put.cls = RX12 ∧ yX12_put.cls ≠ "java/lang/invoke/MethodHandle" ∧ yX12_put.cls ≠ "java/lang/invoke/VarHandle" ∧ (parseMethodDescriptor yX12_put.desc).map (fun d => d.parameters.length) = some 4 := by decide +kernel
def rm_n_putV : Room := { frames := 1, cells := 0, slots := 0, locals := 22 }
theorem gd_n_putV_324_n_isIn : GoodIn vs_n_putV (va_wsS RX12 324 yX12_isIn vs_n_isIn) := goodIn_app (goodIn_sub (fun w h => (List.mem_cons_of_mem _ (List.mem_append_right _ (List.mem_append_left _ h)))) (by decide +kernel)) (goodIn_sub (fun w h => (List.mem_cons_of_mem _ (List.mem_append_right _ (List.mem_append_right _ (List.mem_append_left _ h))))) vg_n_isIn)
set_option maxHeartbeats 4000000 in
set_option maxRecDepth 100000 in
theorem n_putV (l : Launch) (dC : Nat → ClassId) (dI : Nat → Nat → Nat) (h : Nat) (ad : Nat → Nat) (cl : Nat → ClassId) (sz : Nat) (σ : MS) (x0 : Int32) (x1 : Int32) (x2 : Int32) (x3 : Int32) (hI : Inv σ) : Met l yX12_put vs_n_putV rm_n_putV (va_Pc [.ref h, .int x0, .int x1, .int x2, .int x3] (wSt dC dI (mW h ad cl σ) (mT cl) sz)) (va_Qi (fun (r : Int32) (τ : MS) => Inv τ ∧ eqx [31] τ σ ∧ (NumS σ → NumS τ)) (fun (τ : MS) => wEn dC dI (va_A (mW h ad cl σ) sz) (mW h ad cl τ) []) (va_A (mW h ad cl σ) sz)) 0 0 (va_A (mW h ad cl σ) sz) := by
  refine Met.ofW (cc := cX12_put) (maxL := 6) (ret := (some .boolean)) (by decide) rfl ?_
  intro p e s m args below meth c s₁ B hml hv
  obtain ⟨rfl, hsz, hP, hK, hD0, hE⟩ := hv
  have hx := B.exec
  have hb := B.bytes
  have hr := B.returns
  have hts := atoms_spec (ws := vs_n_putV) B.pre
  have hown : s.vm.findClass RX12 = some m.cls := findClass_of_methodNamed B.named
  have hlocks := B.notSynchronized
  subst hsz
  have hD := hD0.self (sz := s.heap.size)
  generalize hAe : va_A (mW h ad cl σ) s.heap.size = A at hD ⊢
  have hA : ∀ q : Nat, s.heap.size ≤ q → A q := fun q h => by rw [← hAe]; exact Or.inr h
  have hl := lv_entry ([.ref h, .int x0, .int x1, .int x2, .int x3]) (n := 6) (Nat.le_of_ble_eq_true rfl)
  rw [lg_entry_eq]
  generalize (lg_sl ([.ref h, .int x0, .int x1, .int x2, .int x3]) ++ List.replicate (6 - (lg_sl ([.ref h, .int x0, .int x1, .int x2, .int x3])).length) Slot.unset).toArray = ls at hl ⊢
  have hl : lv_has ls 6 [(0, .ref h), (1, .int x0), (2, .int x1), (3, .int x2), (4, .int x3)] := hl
  have ho := fun w (h : w ∈ ow_n_putV) => hts w (List.mem_cons_of_mem _ (List.mem_append_left _ h))
  have hin12 : ∀ w ∈ u_ws RX12 TX12 59, w ∈ vs_n_putV := fun w h => (List.mem_cons_of_mem _ (List.mem_append_right _ (List.mem_append_right _ (List.mem_append_right _ h))))
  refine zQ (fun Q hQ => ?_)
  refine zH (A := A) (ws := mW h ad cl σ) (fun H hP hS => ?_) hP
  have bσ_29 : 0 ≤ (σ.1 29).toInt ∧ (σ.1 29).toInt ≤ 1 := hI.1 29
  have bσ_39 : 0 ≤ (σ.1 39).toInt ∧ (σ.1 39).toInt ≤ 40 := hI.1 39
  refine lv_iload_n hx hb dX12_put_0 rfl (lv_at hl 1 rfl) ?_
  refine lv_iconst (v := 0) hx hb dX12_put_1 rg_0 ?_
  refine lv_aload_n hx hb dX12_put_2 rfl (lv_at hl 0 rfl) ?_
  refine va_get (D := (dC, dI)) (ci := 12) (v := .int (σ.1 39)) (C := RX12) (T := TX12) (N := 59) hx hb hts hin12 hown hK hP 0 rfl rfl 39 (Nat.le_of_ble_eq_true rfl) (ho (.fieldLink RX12 249 "NearEnoughModel" "sheets" "I") (List.mem_of_getElem? (i := 0) rfl)) (fun _ h9 => h9) rfl dX12_put_3 ?_
  have bσ_39 : 0 ≤ (σ.1 39).toInt ∧ (σ.1 39).toInt ≤ 40 := hI.1 39
  refine lv_iconst (v := 1) hx hb dX12_put_6 rg_6 ?_
  refine lv_isub hx hb dX12_put_7 ?_
  refine lv_topi (fun z1_ ez1_ => ?_)
  have o1 : -2147483648 ≤ (σ.1 39).toInt - 1 := by omega
  have o2 : (σ.1 39).toInt - 1 ≤ 2147483647 := by omega
  have tz1_ : z1_.toInt = (σ.1 39).toInt - 1 := ti_sub ez1_ rfl rg_18 o1 o2
  have kk2_ : (0 : Int32).toInt = 0 := rg_11
  refine zs_i (va_runS (As := [.int x0, .int 0, .int z1_]) (rest := []) ⟨hx, hb, hml, hown, hts⟩ (n_isIn l dC dI x0 0 z1_  H.size) (va_cwS 3 hts gd_n_putV_324_n_isIn rfl rfl rfl dd_n_isIn ⟨Nat.le_of_ble_eq_true rfl, Nat.le_of_ble_eq_true rfl⟩) (preS (A := A) empP (hK.sub (tys' := []) [] rfl) empD hE) rfl rfl hl.1 rfl (lv_room (Nat.le_of_ble_eq_true rfl)) dX12_put_8 ⟨Nat.le_of_ble_eq_true rfl, Nat.le_of_ble_eq_true rfl⟩) hP hD hS hA (fun z3_ H locs hq hP hD hS => ?_)
  have f4_ := hq
  refine W.widen (k := 0) (n := 0) (Nat.le_of_ble_eq_true rfl) (Nat.le_of_ble_eq_true rfl) ?_
  refine lv_if_eq (tgt := 33) hx hb dX12_put_11 rfl (fun c5_ => ?_) (fun c5_ => ?_)
  · have tc5_ := (show z3_.toInt = 0 from ti_eq rfl rg_11 c5_)
    refine lv_iconst (v := 0) hx hb dX12_put_33 rg_0 ?_
    rw [hQ]
    exact W.zret (v := 0) hx hb hr rfl (fun t ht hW => ⟨⟨0, σ, rfl, ⟨hI, eqx.rf, (fun h9 => h9)⟩, wEn_of hP (hK.sub [] rfl) hD ht hW⟩, hS.F ht⟩) hS.2.2 dX12_put_34
  · have tc5_ := (show z3_.toInt ≠ 0 from ti_ne rfl rg_11 c5_)
    refine lv_iload_n hx hb dX12_put_14 rfl (lv_at hl 2 rfl) ?_
    refine lv_iconst (v := 0) hx hb dX12_put_15 rg_0 ?_
    refine lv_aload_n hx hb dX12_put_16 rfl (lv_at hl 0 rfl) ?_
    refine va_get (D := (dC, dI)) (ci := 12) (v := .ref (ad 11)) (C := RX12) (T := TX12) (N := 59) hx hb hts hin12 hown hK hP 0 rfl rfl 11 (Nat.le_of_ble_eq_true rfl) (ho (.fieldLink RX12 20 "NearEnoughModel" "rowMany" "[I") (List.mem_of_getElem? (i := 1) rfl)) (fun _ h9 => h9) rfl dX12_put_17 ?_
    refine lv_aload_n hx hb dX12_put_20 rfl (lv_at hl 0 rfl) ?_
    refine va_get (D := (dC, dI)) (ci := 12) (v := .int (σ.1 29)) (C := RX12) (T := TX12) (N := 59) hx hb hts hin12 hown hK hP 0 rfl rfl 29 (Nat.le_of_ble_eq_true rfl) (ho (.fieldLink RX12 240 "NearEnoughModel" "bank" "I") (List.mem_of_getElem? (i := 2) rfl)) (fun _ h9 => h9) rfl dX12_put_21 ?_
    have bσ_29 : 0 ≤ (σ.1 29).toInt ∧ (σ.1 29).toInt ≤ 1 := hI.1 29
    have o3 : 0 ≤ (σ.1 29).toInt := by omega
    have o4 : (σ.1 29).toInt < ((2 : Nat) : Int) := by omega
    refine va_iald hx hb hK hP 3 2 rfl rfl (ti_inx o3 o4) dX12_put_24 ?_
    refine lv_topi (fun z6_ ez6_ => ?_)
    have gz6_ : z6_.toInt = ((σ.2.1 11) (Int32.toNatClampNeg (σ.1 29))).toInt := congrArg Int32.toInt (ez6_.trans (congrFun rfl (Int32.toNatClampNeg (σ.1 29))))
    have bz6_ : 0 ≤ z6_.toInt ∧ z6_.toInt ≤ 2 := by rw [ez6_]; exact (hI.2 11) _ (cl_lt (n := 2) o3 o4)
    refine lv_iconst (v := 1) hx hb dX12_put_25 rg_6 ?_
    refine lv_isub hx hb dX12_put_26 ?_
    refine lv_topi (fun z7_ ez7_ => ?_)
    have o5 : -2147483648 ≤ z6_.toInt - 1 := by omega
    have o6 : z6_.toInt - 1 ≤ 2147483647 := by omega
    have tz7_ : z7_.toInt = z6_.toInt - 1 := ti_sub ez7_ rfl rg_18 o5 o6
    have kk8_ : (0 : Int32).toInt = 0 := rg_11
    refine zs_i (va_runS (As := [.int x1, .int 0, .int z7_]) (rest := []) ⟨hx, hb, hml, hown, hts⟩ (n_isIn l dC dI x1 0 z7_  H.size) (va_cwS 3 hts gd_n_putV_324_n_isIn rfl rfl rfl dd_n_isIn ⟨Nat.le_of_ble_eq_true rfl, Nat.le_of_ble_eq_true rfl⟩) (preS (A := A) empP (hK.sub (tys' := []) [] rfl) empD hE) rfl rfl hl.1 rfl (lv_room (Nat.le_of_ble_eq_true rfl)) dX12_put_27 ⟨Nat.le_of_ble_eq_true rfl, Nat.le_of_ble_eq_true rfl⟩) hP hD hS hA (fun z9_ H locs hq hP hD hS => ?_)
    have f10_ := hq
    refine W.widen (k := 0) (n := 0) (Nat.le_of_ble_eq_true rfl) (Nat.le_of_ble_eq_true rfl) ?_
    refine lv_if_ne (tgt := 35) hx hb dX12_put_30 rfl (fun c11_ => ?_) (fun c11_ => ?_)
    · have tc11_ := (show z9_.toInt ≠ 0 from ti_ne rfl rg_11 c11_)
      refine lv_iconst (v := 2) hx hb dX12_put_35 rg_19 ?_
      refine lv_aload_n hx hb dX12_put_36 rfl (lv_at hl 0 rfl) ?_
      refine va_get (D := (dC, dI)) (ci := 12) (v := .int (σ.1 29)) (C := RX12) (T := TX12) (N := 59) hx hb hts hin12 hown hK hP 0 rfl rfl 29 (Nat.le_of_ble_eq_true rfl) (ho (.fieldLink RX12 240 "NearEnoughModel" "bank" "I") (List.mem_of_getElem? (i := 2) rfl)) (fun _ h9 => h9) rfl dX12_put_37 ?_
      have bσ_29 : 0 ≤ (σ.1 29).toInt ∧ (σ.1 29).toInt ≤ 1 := hI.1 29
      refine lv_imul hx hb dX12_put_40 ?_
      refine lv_topi (fun z12_ ez12_ => ?_)
      have o7 : -2147483648 ≤ 2 * (σ.1 29).toInt := by omega
      have o8 : 2 * (σ.1 29).toInt ≤ 2147483647 := by omega
      have tz12_ : z12_.toInt = 2 * (σ.1 29).toInt := ti_mul ez12_ rg_20 rfl o7 o8
      refine lv_iload_n hx hb dX12_put_41 rfl (lv_at hl 2 rfl) ?_
      refine lv_iadd hx hb dX12_put_42 ?_
      refine lv_topi (fun z13_ ez13_ => ?_)
      have o9 : -2147483648 ≤ z12_.toInt + x1.toInt := by omega
      have o10 : z12_.toInt + x1.toInt ≤ 2147483647 := by omega
      have tz13_ : z13_.toInt = z12_.toInt + x1.toInt := ti_add ez13_ rfl rfl o9 o10
      refine lv_istore (lv' := [(5, .int z13_), (0, .ref h), (1, .int x0), (2, .int x1), (3, .int x2), (4, .int x3)]) hx hb dX12_put_43 hl (Nat.le_of_ble_eq_true rfl) rfl (fun ls hl => ?_)
      refine lv_iload_n hx hb dX12_put_45 rfl (lv_at hl 4 rfl) ?_
      refine lv_iconst (v := 0) hx hb dX12_put_46 rg_0 ?_
      refine lv_aload_n hx hb dX12_put_47 rfl (lv_at hl 1 rfl) ?_
      refine va_get (D := (dC, dI)) (ci := 12) (v := .ref (ad 14)) (C := RX12) (T := TX12) (N := 59) hx hb hts hin12 hown hK hP 0 rfl rfl 14 (Nat.le_of_ble_eq_true rfl) (ho (.fieldLink RX12 30 "NearEnoughModel" "rHas" "[I") (List.mem_of_getElem? (i := 3) rfl)) (fun _ h9 => h9) rfl dX12_put_48 ?_
      refine lv_iload hx hb dX12_put_51 (lv_at hl 0 rfl) ?_
      have o11 : 0 ≤ z13_.toInt := by omega
      have o12 : z13_.toInt < ((4 : Nat) : Int) := by omega
      refine va_iald hx hb hK hP 6 5 rfl rfl (ti_inx o11 o12) dX12_put_53 ?_
      refine lv_topi (fun z14_ ez14_ => ?_)
      have gz14_ : z14_.toInt = ((σ.2.1 14) (Int32.toNatClampNeg z13_)).toInt := congrArg Int32.toInt (ez14_.trans (congrFun rfl (Int32.toNatClampNeg z13_)))
      have bz14_ : 0 ≤ z14_.toInt ∧ z14_.toInt ≤ 6 := by rw [ez14_]; exact (hI.2 14) _ (cl_lt (n := 4) o11 o12)
      refine lv_iconst (v := 1) hx hb dX12_put_54 rg_6 ?_
      refine lv_isub hx hb dX12_put_55 ?_
      refine lv_topi (fun z15_ ez15_ => ?_)
      have o13 : -2147483648 ≤ z14_.toInt - 1 := by omega
      have o14 : z14_.toInt - 1 ≤ 2147483647 := by omega
      have tz15_ : z15_.toInt = z14_.toInt - 1 := ti_sub ez15_ rfl rg_18 o13 o14
      have kk16_ : (0 : Int32).toInt = 0 := rg_11
      refine zs_i (va_runS (As := [.int x2, .int 0, .int z15_]) (rest := []) ⟨hx, hb, hml, hown, hts⟩ (n_isIn l dC dI x2 0 z15_  H.size) (va_cwS 3 hts gd_n_putV_324_n_isIn rfl rfl rfl dd_n_isIn ⟨Nat.le_of_ble_eq_true rfl, Nat.le_of_ble_eq_true rfl⟩) (preS (A := A) empP (hK.sub (tys' := []) [] rfl) empD hE) rfl rfl hl.1 rfl (lv_room (Nat.le_of_ble_eq_true rfl)) dX12_put_56 ⟨Nat.le_of_ble_eq_true rfl, Nat.le_of_ble_eq_true rfl⟩) hP hD hS hA (fun z17_ H locs hq hP hD hS => ?_)
      have f18_ := hq
      refine W.widen (k := 0) (n := 0) (Nat.le_of_ble_eq_true rfl) (Nat.le_of_ble_eq_true rfl) ?_
      refine lv_if_eq (tgt := 84) hx hb dX12_put_59 rfl (fun c19_ => ?_) (fun c19_ => ?_)
      · have tc19_ := (show z17_.toInt = 0 from ti_eq rfl rg_11 c19_)
        refine lv_iconst (v := 0) hx hb dX12_put_84 rg_0 ?_
        rw [hQ]
        exact W.zret (v := 0) hx hb hr rfl (fun t ht hW => ⟨⟨0, σ, rfl, ⟨hI, eqx.rf, (fun h9 => h9)⟩, wEn_of hP (hK.sub [] rfl) hD ht hW⟩, hS.F ht⟩) hS.2.2 dX12_put_85
      · have tc19_ := (show z17_.toInt ≠ 0 from ti_ne rfl rg_11 c19_)
        refine lv_iload hx hb dX12_put_62 (lv_at hl 5 rfl) ?_
        refine lv_aload_n hx hb dX12_put_64 rfl (lv_at hl 1 rfl) ?_
        refine va_get (D := (dC, dI)) (ci := 12) (v := .ref (ad 15)) (C := RX12) (T := TX12) (N := 59) hx hb hts hin12 hown hK hP 0 rfl rfl 15 (Nat.le_of_ble_eq_true rfl) (ho (.fieldLink RX12 33 "NearEnoughModel" "rLeast" "[I") (List.mem_of_getElem? (i := 4) rfl)) (fun _ h9 => h9) rfl dX12_put_65 ?_
        refine lv_iload hx hb dX12_put_68 (lv_at hl 0 rfl) ?_
        refine va_iald hx hb hK hP 7 6 rfl rfl (ti_inx o11 o12) dX12_put_70 ?_
        refine lv_topi (fun z20_ ez20_ => ?_)
        have gz20_ : z20_.toInt = ((σ.2.1 15) (Int32.toNatClampNeg z13_)).toInt := congrArg Int32.toInt (ez20_.trans (congrFun rfl (Int32.toNatClampNeg z13_)))
        refine lv_aload_n hx hb dX12_put_71 rfl (lv_at hl 1 rfl) ?_
        refine va_get (D := (dC, dI)) (ci := 12) (v := .ref (ad 16)) (C := RX12) (T := TX12) (N := 59) hx hb hts hin12 hown hK hP 0 rfl rfl 16 (Nat.le_of_ble_eq_true rfl) (ho (.fieldLink RX12 36 "NearEnoughModel" "rMost" "[I") (List.mem_of_getElem? (i := 5) rfl)) (fun _ h9 => h9) rfl dX12_put_72 ?_
        refine lv_iload hx hb dX12_put_75 (lv_at hl 0 rfl) ?_
        refine va_iald hx hb hK hP 8 7 rfl rfl (ti_inx o11 o12) dX12_put_77 ?_
        refine lv_topi (fun z21_ ez21_ => ?_)
        have gz21_ : z21_.toInt = ((σ.2.1 16) (Int32.toNatClampNeg z13_)).toInt := congrArg Int32.toInt (ez21_.trans (congrFun rfl (Int32.toNatClampNeg z13_)))
        refine zs_i (va_runS (As := [.int x3, .int z20_, .int z21_]) (rest := []) ⟨hx, hb, hml, hown, hts⟩ (n_isIn l dC dI x3 z20_ z21_  H.size) (va_cwS 3 hts gd_n_putV_324_n_isIn rfl rfl rfl dd_n_isIn ⟨Nat.le_of_ble_eq_true rfl, Nat.le_of_ble_eq_true rfl⟩) (preS (A := A) empP (hK.sub (tys' := []) [] rfl) empD hE) rfl rfl hl.1 rfl (lv_room (Nat.le_of_ble_eq_true rfl)) dX12_put_78 ⟨Nat.le_of_ble_eq_true rfl, Nat.le_of_ble_eq_true rfl⟩) hP hD hS hA (fun z22_ H locs hq hP hD hS => ?_)
        have f23_ := hq
        refine W.widen (k := 0) (n := 0) (Nat.le_of_ble_eq_true rfl) (Nat.le_of_ble_eq_true rfl) ?_
        refine lv_if_ne (tgt := 86) hx hb dX12_put_81 rfl (fun c24_ => ?_) (fun c24_ => ?_)
        · have tc24_ := (show z22_.toInt ≠ 0 from ti_ne rfl rg_11 c24_)
          refine lv_aload_n hx hb dX12_put_86 rfl (lv_at hl 1 rfl) ?_
          refine va_get (D := (dC, dI)) (ci := 12) (v := .ref (ad 31)) (C := RX12) (T := TX12) (N := 59) hx hb hts hin12 hown hK hP 0 rfl rfl 31 (Nat.le_of_ble_eq_true rfl) (ho (.fieldLink RX12 76 "NearEnoughModel" "numbers" "[I") (List.mem_of_getElem? (i := 6) rfl)) (fun _ h9 => h9) rfl dX12_put_87 ?_
          refine lv_bipush (v := 12) hx hb dX12_put_90 rg_57 ?_
          refine lv_iload_n hx hb dX12_put_92 rfl (lv_at hl 2 rfl) ?_
          refine lv_imul hx hb dX12_put_93 ?_
          refine lv_topi (fun z25_ ez25_ => ?_)
          have o15 : -2147483648 ≤ 12 * x0.toInt := by omega
          have o16 : 12 * x0.toInt ≤ 2147483647 := by omega
          have tz25_ : z25_.toInt = 12 * x0.toInt := ti_mul ez25_ rg_58 rfl o15 o16
          refine lv_bipush (v := 6) hx hb dX12_put_94 rg_55 ?_
          refine lv_iload_n hx hb dX12_put_96 rfl (lv_at hl 3 rfl) ?_
          refine lv_imul hx hb dX12_put_97 ?_
          refine lv_topi (fun z26_ ez26_ => ?_)
          have o17 : -2147483648 ≤ 6 * x1.toInt := by omega
          have o18 : 6 * x1.toInt ≤ 2147483647 := by omega
          have tz26_ : z26_.toInt = 6 * x1.toInt := ti_mul ez26_ rg_70 rfl o17 o18
          refine lv_iadd hx hb dX12_put_98 ?_
          refine lv_topi (fun z27_ ez27_ => ?_)
          have o19 : -2147483648 ≤ z25_.toInt + z26_.toInt := by omega
          have o20 : z25_.toInt + z26_.toInt ≤ 2147483647 := by omega
          have tz27_ : z27_.toInt = z25_.toInt + z26_.toInt := ti_add ez27_ rfl rfl o19 o20
          refine lv_iload_n hx hb dX12_put_99 rfl (lv_at hl 4 rfl) ?_
          refine lv_iadd hx hb dX12_put_100 ?_
          refine lv_topi (fun z28_ ez28_ => ?_)
          have o21 : -2147483648 ≤ z27_.toInt + x2.toInt := by omega
          have o22 : z27_.toInt + x2.toInt ≤ 2147483647 := by omega
          have tz28_ : z28_.toInt = z27_.toInt + x2.toInt := ti_add ez28_ rfl rfl o21 o22
          refine lv_iload hx hb dX12_put_101 (lv_at hl 5 rfl) ?_
          have o23 : 0 ≤ z28_.toInt := by omega
          have o24 : z28_.toInt < ((480 : Nat) : Int) := by omega
          refine va_iast hx hb hK hP hD hS 21 20 rfl rfl (ti_inx o23 o24) dX12_put_103 (fun H locs hP hD hS => ?_)
          rw [wS31] at hP hD
          obtain ⟨τ29_, eτ29_⟩ : ∃ x9 : MS, x9 = sA σ 31 (upd (σ.2.1 31) (Int32.toNatClampNeg z28_) x3) := ⟨_, rfl⟩
          have hP : va_P (dC, dI) vwCl (mW h ad cl τ29_) H := by rw [eτ29_]; exact hP
          have hD : va_D A (mW h ad cl τ29_) := by rw [eτ29_]; exact hD
          have hIτ29_ : Inv τ29_ := by rw [eτ29_]; exact (Inv_sA1 hI (fun j _ => Inv.any _))
          have Xτ29_ : eqx [31] τ29_ σ := (eqx.eq eτ29_ (eqx.sA eqx.rf rg_76))
          have qq30_ : (τ29_.1 29).toInt = ((σ.1 29) : Int32).toInt := congrArg Int32.toInt ((show τ29_.1 29 = (σ.1 29) from (congrArg (fun x9 : MS => x9.1 29) eτ29_).trans rfl))
          have qq31_ : (τ29_.1 39).toInt = ((σ.1 39) : Int32).toInt := congrArg Int32.toInt ((show τ29_.1 39 = (σ.1 39) from (congrArg (fun x9 : MS => x9.1 39) eτ29_).trans rfl))
          refine lv_iconst (v := 1) hx hb dX12_put_104 rg_6 ?_
          rw [hQ]
          have C31 : (τ29_).2.1 31 = (upd (σ.2.1 31) (Int32.toNatClampNeg z28_) x3) := ((congrArg (fun x9 : MS => x9.2.1 31) eτ29_).trans (tAe.trans (congrArg (fun f9 => (upd f9 (Int32.toNatClampNeg z28_) x3)) rfl)))
          have CT : ∀ p9, 11 ≤ p9 → p9 ≤ 22 → (τ29_).2.1 p9 = σ.2.1 p9 := fun p9 h1 h2 => ((Xτ29_) p9 (rg_653 p9 h1 h2)).2.1
          have qi_ := ti_cl (x := z28_) rfl o23
          have o25 : 0 ≤ x0.toInt := by omega
          have qx0_ := ti_cl (x := x0) rfl o25
          have o26 : 0 ≤ x1.toInt := by omega
          have qx1_ := ti_cl (x := x1) rfl o26
          have o27 : 0 ≤ x2.toInt := by omega
          have qx2_ := ti_cl (x := x2) rfl o27
          have o28 : z13_.toInt = 2 * (σ.1 29).toInt + x1.toInt := by omega
          have Xz13_ : z13_.toNatClampNeg = 2 * (σ.1 29).toNatClampNeg + x1.toNatClampNeg := row_x (hI.1 29).1 o26 o28
          have V_ : z28_.toNatClampNeg = 12 * x0.toNatClampNeg + 6 * x1.toNatClampNeg + x2.toNatClampNeg := by omega
          have o29 : x1.toInt < (σ.2.1 11 (σ.1 29).toNatClampNeg).toInt := by omega
          have o30 : z20_.toInt ≤ x3.toInt := by omega
          have o31 : x3.toInt ≤ z21_.toInt := by omega
          exact W.zret (v := 1) hx hb hr rfl (fun t ht hW => ⟨⟨1, τ29_, rfl, ⟨hIτ29_, Xτ29_, (fun h9 => NumS.put (i := x0.toNatClampNeg) (r := x1.toNatClampNeg) (k := x2.toNatClampNeg) h9 (Xτ29_ 39 rg_654).1 (Xτ29_ 29 rg_655).1 CT C31 V_ (by rw [qx1_]; exact o29) (by omega) (by omega) (by rw [← Xz13_, ← ez20_]; exact o30) (by rw [← Xz13_, ← ez21_]; exact o31) hI)⟩, wEn_of hP (hK.sub [] rfl) hD ht hW⟩, hS.F ht⟩) hS.2.2 dX12_put_105
        · have tc24_ := (show z22_.toInt = 0 from ti_eq rfl rg_11 c24_)
          refine lv_iconst (v := 0) hx hb dX12_put_84 rg_0 ?_
          rw [hQ]
          exact W.zret (v := 0) hx hb hr rfl (fun t ht hW => ⟨⟨0, σ, rfl, ⟨hI, eqx.rf, (fun h9 => h9)⟩, wEn_of hP (hK.sub [] rfl) hD ht hW⟩, hS.F ht⟩) hS.2.2 dX12_put_85
    · have tc11_ := (show z9_.toInt = 0 from ti_eq rfl rg_11 c11_)
      refine lv_iconst (v := 0) hx hb dX12_put_33 rg_0 ?_
      rw [hQ]
      exact W.zret (v := 0) hx hb hr rfl (fun t ht hW => ⟨⟨0, σ, rfl, ⟨hI, eqx.rf, (fun h9 => h9)⟩, wEn_of hP (hK.sub [] rfl) hD ht hW⟩, hS.F ht⟩) hS.2.2 dX12_put_34
