theorem dX12_run_2 : decode cX12_run 2 = .ok (.iload_n 3, 1) := by decide +kernel
theorem dX12_run_3 : decode cX12_run 3 = .ok (.aload_n 0, 1) := by decide +kernel
theorem dX12_run_4 : decode cX12_run 4 = .ok (.invokevirtual 321, 3) := by decide +kernel
theorem dX12_run_7 : decode cX12_run 7 = .ok (.if_icmp .ge 153, 3) := by decide +kernel
theorem dX12_run_160 : decode cX12_run 160 = .ok (.return_, 1) := by decide +kernel
theorem dX12_run_10 : decode cX12_run 10 = .ok (.aload_n 0, 1) := by decide +kernel
theorem dX12_run_11 : decode cX12_run 11 = .ok (.getfield 104, 3) := by decide +kernel
theorem dX12_run_14 : decode cX12_run 14 = .ok (.iload_n 3, 1) := by decide +kernel
theorem dX12_run_15 : decode cX12_run 15 = .ok (.aload_n 0, 1) := by decide +kernel
theorem dX12_run_16 : decode cX12_run 16 = .ok (.iload_n 3, 1) := by decide +kernel
theorem dX12_run_17 : decode cX12_run 17 = .ok (.aload_n 1, 1) := by decide +kernel
theorem dX12_run_18 : decode cX12_run 18 = .ok (.iload_n 2, 1) := by decide +kernel
theorem dX12_run_19 : decode cX12_run 19 = .ok (.aload_n 0, 1) := by decide +kernel
theorem dX12_run_20 : decode cX12_run 20 = .ok (.getfield 104, 3) := by decide +kernel
theorem dX12_run_23 : decode cX12_run 23 = .ok (.iconst (-1), 1) := by decide +kernel
theorem dX12_run_24 : decode cX12_run 24 = .ok (.invokevirtual 364, 3) := by decide +kernel
theorem dX12_run_27 : decode cX12_run 27 = .ok (.lastore, 1) := by decide +kernel
theorem dX12_run_28 : decode cX12_run 28 = .ok (.aload_n 0, 1) := by decide +kernel
theorem dX12_run_29 : decode cX12_run 29 = .ok (.getfield 94, 3) := by decide +kernel
theorem dX12_run_32 : decode cX12_run 32 = .ok (.iload_n 3, 1) := by decide +kernel
theorem dX12_run_33 : decode cX12_run 33 = .ok (.iaload, 1) := by decide +kernel
theorem dX12_run_34 : decode cX12_run 34 = .ok (.istore 4, 2) := by decide +kernel
theorem dX12_run_36 : decode cX12_run 36 = .ok (.iload 4, 2) := by decide +kernel
theorem dX12_run_38 : decode cX12_run 38 = .ok (.ifCond .lt 50, 3) := by decide +kernel
theorem dX12_run_88 : decode cX12_run 88 = .ok (.aload_n 0, 1) := by decide +kernel
theorem dX12_run_89 : decode cX12_run 89 = .ok (.iload_n 3, 1) := by decide +kernel
theorem dX12_run_90 : decode cX12_run 90 = .ok (.aload_n 1, 1) := by decide +kernel
theorem dX12_run_91 : decode cX12_run 91 = .ok (.iload_n 2, 1) := by decide +kernel
theorem dX12_run_92 : decode cX12_run 92 = .ok (.aload_n 0, 1) := by decide +kernel
theorem dX12_run_93 : decode cX12_run 93 = .ok (.getfield 101, 3) := by decide +kernel
theorem dX12_run_96 : decode cX12_run 96 = .ok (.iload 4, 2) := by decide +kernel
theorem dX12_run_98 : decode cX12_run 98 = .ok (.invokevirtual 364, 3) := by decide +kernel
theorem dX12_run_101 : decode cX12_run 101 = .ok (.lstore 5, 2) := by decide +kernel
theorem dX12_run_103 : decode cX12_run 103 = .ok (.aload_n 0, 1) := by decide +kernel
theorem dX12_run_104 : decode cX12_run 104 = .ok (.getfield 101, 3) := by decide +kernel
theorem dX12_run_107 : decode cX12_run 107 = .ok (.iload_n 3, 1) := by decide +kernel
theorem dX12_run_108 : decode cX12_run 108 = .ok (.iload 4, 2) := by decide +kernel
theorem dX12_run_110 : decode cX12_run 110 = .ok (.ifCond .lt 41, 3) := by decide +kernel
theorem dX12_run_151 : decode cX12_run 151 = .ok (.lload 5, 2) := by decide +kernel
theorem dX12_run_153 : decode cX12_run 153 = .ok (.lastore, 1) := by decide +kernel
theorem dX12_run_154 : decode cX12_run 154 = .ok (.iinc 3 1, 3) := by decide +kernel
theorem dX12_run_157 : decode cX12_run 157 = .ok (.goto (-155), 3) := by decide +kernel
theorem dX12_run_113 : decode cX12_run 113 = .ok (.aload_n 0, 1) := by decide +kernel
theorem dX12_run_114 : decode cX12_run 114 = .ok (.getfield 85, 3) := by decide +kernel
theorem dX12_run_117 : decode cX12_run 117 = .ok (.iload 4, 2) := by decide +kernel
theorem dX12_run_119 : decode cX12_run 119 = .ok (.iaload, 1) := by decide +kernel
theorem dX12_run_120 : decode cX12_run 120 = .ok (.iconst 1, 1) := by decide +kernel
theorem dX12_run_121 : decode cX12_run 121 = .ok (.if_icmp .ne 30, 3) := by decide +kernel
theorem dX12_run_124 : decode cX12_run 124 = .ok (.lload 5, 2) := by decide +kernel
theorem dX12_run_126 : decode cX12_run 126 = .ok (.lconst 1, 1) := by decide +kernel
theorem dX12_run_127 : decode cX12_run 127 = .ok (.aload_n 0, 1) := by decide +kernel
theorem dX12_run_128 : decode cX12_run 128 = .ok (.getfield 88, 3) := by decide +kernel
theorem dX12_run_131 : decode cX12_run 131 = .ok (.iload 4, 2) := by decide +kernel
theorem dX12_run_133 : decode cX12_run 133 = .ok (.iaload, 1) := by decide +kernel
theorem dX12_run_134 : decode cX12_run 134 = .ok (.lshl, 1) := by decide +kernel
theorem dX12_run_135 : decode cX12_run 135 = .ok (.invokestatic 337, 3) := by decide +kernel
theorem dX12_run_138 : decode cX12_run 138 = .ok (.lconst 1, 1) := by decide +kernel
theorem dX12_run_139 : decode cX12_run 139 = .ok (.aload_n 0, 1) := by decide +kernel
theorem dX12_run_140 : decode cX12_run 140 = .ok (.getfield 88, 3) := by decide +kernel
theorem dX12_run_143 : decode cX12_run 143 = .ok (.iload 4, 2) := by decide +kernel
theorem dX12_run_145 : decode cX12_run 145 = .ok (.iaload, 1) := by decide +kernel
theorem dX12_run_146 : decode cX12_run 146 = .ok (.lshl, 1) := by decide +kernel
theorem dX12_run_147 : decode cX12_run 147 = .ok (.lmul, 1) := by decide +kernel
theorem dX12_run_148 : decode cX12_run 148 = .ok (.goto 5, 3) := by decide +kernel
theorem dX12_run_41 : decode cX12_run 41 = .ok (.aload_n 0, 1) := by decide +kernel
theorem dX12_run_42 : decode cX12_run 42 = .ok (.getfield 85, 3) := by decide +kernel
theorem dX12_run_45 : decode cX12_run 45 = .ok (.iload 4, 2) := by decide +kernel
theorem dX12_run_47 : decode cX12_run 47 = .ok (.iaload, 1) := by decide +kernel
theorem dX12_run_48 : decode cX12_run 48 = .ok (.iconst 4, 1) := by decide +kernel
theorem dX12_run_49 : decode cX12_run 49 = .ok (.if_icmp .ne 39, 3) := by decide +kernel
theorem dX12_run_52 : decode cX12_run 52 = .ok (.aload_n 0, 1) := by decide +kernel
theorem dX12_run_53 : decode cX12_run 53 = .ok (.getfield 101, 3) := by decide +kernel
theorem dX12_run_56 : decode cX12_run 56 = .ok (.iload_n 3, 1) := by decide +kernel
theorem dX12_run_57 : decode cX12_run 57 = .ok (.aload_n 0, 1) := by decide +kernel
theorem dX12_run_58 : decode cX12_run 58 = .ok (.getfield 70, 3) := by decide +kernel
theorem dX12_run_61 : decode cX12_run 61 = .ok (.aload_n 0, 1) := by decide +kernel
theorem dX12_run_62 : decode cX12_run 62 = .ok (.iload_n 3, 1) := by decide +kernel
theorem dX12_run_63 : decode cX12_run 63 = .ok (.invokevirtual 331, 3) := by decide +kernel
theorem dX12_run_66 : decode cX12_run 66 = .ok (.laload, 1) := by decide +kernel
theorem dX12_run_67 : decode cX12_run 67 = .ok (.aload_n 0, 1) := by decide +kernel
theorem dX12_run_68 : decode cX12_run 68 = .ok (.getfield 73, 3) := by decide +kernel
theorem dX12_run_71 : decode cX12_run 71 = .ok (.aload_n 0, 1) := by decide +kernel
theorem dX12_run_72 : decode cX12_run 72 = .ok (.iload_n 3, 1) := by decide +kernel
theorem dX12_run_73 : decode cX12_run 73 = .ok (.invokevirtual 331, 3) := by decide +kernel
theorem dX12_run_76 : decode cX12_run 76 = .ok (.laload, 1) := by decide +kernel
theorem dX12_run_77 : decode cX12_run 77 = .ok (.ladd, 1) := by decide +kernel
theorem dX12_run_78 : decode cX12_run 78 = .ok (.ldc2_w 368, 3) := by decide +kernel
theorem dX12_run_81 : decode cX12_run 81 = .ok (.invokestatic 337, 3) := by decide +kernel
theorem dX12_run_84 : decode cX12_run 84 = .ok (.lastore, 1) := by decide +kernel
theorem dX12_run_85 : decode cX12_run 85 = .ok (.goto 69, 3) := by decide +kernel
theorem dX12_run_0 : decode cX12_run 0 = .ok (.iconst 0, 1) := by decide +kernel
theorem dX12_run_1 : decode cX12_run 1 = .ok (.istore_n 3, 1) := by decide +kernel
theorem rg_483 : 29 ∉ [42, 41] := by decide
theorem rg_484 : ∀ p ∈ [42, 41], ¬ ((11 ≤ p ∧ p ≤ 24) ∨ (33 ≤ p ∧ p ≤ 36)) := by intro p h; simp at h; omega
theorem rg_485 : ∀ p ∈ [42, 41], ¬ (p = 27 ∨ p = 28) := by intro p h; simp at h; omega
theorem rg_486 : 31 ∉ [42, 41] := by decide
theorem rg_487 : 37 ∉ [42, 41] := by decide
theorem rg_488 : 12 ∉ [42, 41] := by decide
theorem rg_489 : ((-1) : Int32).toInt = (-1) := by decide
theorem rg_490 : ∀ q, 11 ≤ q → q ≤ 22 → q ∉ [42, 41] := by intro q h1 h2 h; simp at h; omega
theorem rg_491 : 42 ∈ [42, 41] := by decide
theorem rg_492 : 34 ∉ [42, 41] := by decide
theorem rg_493 : 35 ∉ [42, 41] := by decide
theorem rg_494 : 41 ∈ [42, 41] := by decide
theorem rg_495 : 27 ∉ [42, 41] := by decide
theorem rg_496 : 28 ∉ [42, 41] := by decide
theorem rg_497 : 32 ∉ [42, 41] := by decide
def ow_n_run_n : List Cond := [.fieldLink RX12 104 "NearEnoughModel" "plain" "[J", .fieldLink RX12 94 "NearEnoughModel" "on" "[I", .fieldLink RX12 101 "NearEnoughModel" "came" "[J", .fieldLink RX12 85 "NearEnoughModel" "cKind" "[I", .fieldLink RX12 88 "NearEnoughModel" "cN" "[I", .fieldLink RX12 70 "NearEnoughModel" "sLeast" "[J", .fieldLink RX12 73 "NearEnoughModel" "sMost" "[J", .constantLong RX12 368 (2)]
def vs_n_run_n : List Cond := .code yX12_run cX12_run 7 none :: (ow_n_run_n ++ (([.methodLink RX12 321 yX12_steps, .instanceMethod yX12_steps, .selects RX12 yX12_steps yX12_steps, .initialized RX12] : List Cond) ++ (vs_n_steps ++ (([.methodLink RX12 364 yX12_work, .instanceMethod yX12_work, .selects RX12 yX12_work yX12_work, .initialized RX12] : List Cond) ++ (vs_n_work_np ++ (vs_n_work_nc ++ (([.methodLink RX12 337 yX12_floorOver, .static yX12_floorOver, .initialized yX12_floorOver.cls] : List Cond) ++ (vs_n_floorOver ++ (([.methodLink RX12 331 yX12_at0, .instanceMethod yX12_at0, .selects RX12 yX12_at0 yX12_at0, .initialized RX12] : List Cond) ++ (vs_n_at0 ++ (wsX120)))))))))))
theorem vg_n_run_n : vs_n_run_n.all goodWord = true := by decide +kernel
theorem dd_n_run_n : yX12_run.cls = RX12 ∧ yX12_run.cls ≠ "java/lang/invoke/MethodHandle" ∧ yX12_run.cls ≠ "java/lang/invoke/VarHandle" ∧ (parseMethodDescriptor yX12_run.desc).map (fun d => d.parameters.length) = some 2 := by decide +kernel
def rm_n_run_n : Room := { frames := 4, cells := 0, slots := 0, locals := 112 }
theorem gd_n_run_n_321_n_steps : GoodIn vs_n_run_n (wsV RX12 321 RX12 yX12_steps vs_n_steps) := goodIn_app (goodIn_sub (fun w h => (List.mem_cons_of_mem _ (List.mem_append_right _ (List.mem_append_left _ h)))) (by decide +kernel)) (goodIn_sub (fun w h => (List.mem_cons_of_mem _ (List.mem_append_right _ (List.mem_append_right _ (List.mem_append_left _ h))))) vg_n_steps)
theorem gd_n_run_n_364_n_work_np : GoodIn vs_n_run_n (wsV RX12 364 RX12 yX12_work vs_n_work_np) := goodIn_app (goodIn_sub (fun w h => (List.mem_cons_of_mem _ (List.mem_append_right _ (List.mem_append_right _ (List.mem_append_right _ (List.mem_append_left _ h)))))) (by decide +kernel)) (goodIn_sub (fun w h => (List.mem_cons_of_mem _ (List.mem_append_right _ (List.mem_append_right _ (List.mem_append_right _ (List.mem_append_right _ (List.mem_append_left _ h))))))) vg_n_work_np)
theorem gd_n_run_n_364_n_work_nc : GoodIn vs_n_run_n (wsV RX12 364 RX12 yX12_work vs_n_work_nc) := goodIn_app (goodIn_sub (fun w h => (List.mem_cons_of_mem _ (List.mem_append_right _ (List.mem_append_right _ (List.mem_append_right _ (List.mem_append_left _ h)))))) (by decide +kernel)) (goodIn_sub (fun w h => (List.mem_cons_of_mem _ (List.mem_append_right _ (List.mem_append_right _ (List.mem_append_right _ (List.mem_append_right _ (List.mem_append_right _ (List.mem_append_left _ h)))))))) vg_n_work_nc)
theorem gd_n_run_n_337_n_floorOver : GoodIn vs_n_run_n (va_wsS RX12 337 yX12_floorOver vs_n_floorOver) := goodIn_app (goodIn_sub (fun w h => (List.mem_cons_of_mem _ (List.mem_append_right _ (List.mem_append_right _ (List.mem_append_right _ (List.mem_append_right _ (List.mem_append_right _ (List.mem_append_right _ (List.mem_append_left _ h))))))))) (by decide +kernel)) (goodIn_sub (fun w h => (List.mem_cons_of_mem _ (List.mem_append_right _ (List.mem_append_right _ (List.mem_append_right _ (List.mem_append_right _ (List.mem_append_right _ (List.mem_append_right _ (List.mem_append_right _ (List.mem_append_left _ h)))))))))) vg_n_floorOver)
theorem gd_n_run_n_331_n_at0 : GoodIn vs_n_run_n (wsV RX12 331 RX12 yX12_at0 vs_n_at0) := goodIn_app (goodIn_sub (fun w h => (List.mem_cons_of_mem _ (List.mem_append_right _ (List.mem_append_right _ (List.mem_append_right _ (List.mem_append_right _ (List.mem_append_right _ (List.mem_append_right _ (List.mem_append_right _ (List.mem_append_right _ (List.mem_append_left _ h))))))))))) (by decide +kernel)) (goodIn_sub (fun w h => (List.mem_cons_of_mem _ (List.mem_append_right _ (List.mem_append_right _ (List.mem_append_right _ (List.mem_append_right _ (List.mem_append_right _ (List.mem_append_right _ (List.mem_append_right _ (List.mem_append_right _ (List.mem_append_right _ (List.mem_append_left _ h)))))))))))) vg_n_at0)
set_option maxHeartbeats 4000000 in
set_option maxRecDepth 100000 in
theorem n_run_n (l : Launch) (dC : Nat → ClassId) (dI : Nat → Nat → Nat) (h : Nat) (ad : Nat → Nat) (cl : Nat → ClassId) (sz : Nat) (σ : MS) (base : Int32) (hI : Inv σ) (hba : 0 ≤ base.toInt ∧ base.toInt ≤ 468) (hbm : base.toInt = 0 ∨ 12 ≤ base.toInt) (hR : RelP σ (σ.1 29).toNatClampNeg) (hon : OnOk σ) : Met l yX12_run vs_n_run_n rm_n_run_n (va_Pc [.ref h, .ref (ad 31), .int base] (wSt dC dI (mW h ad cl σ) (mT cl) sz)) (va_Qv (fun (τ : MS) => Inv τ ∧ eqx [42, 41] τ σ ∧ PlR (σ.1 29).toNatClampNeg (cor σ) true (σ.2.1 31) base (σ.2.1 12 (σ.1 29).toNatClampNeg).toNatClampNeg (τ.2.2.1 42) ∧ CaR (σ.1 29).toNatClampNeg (cor σ) (coJ σ) true (σ.2.1 31) (σ.2.1 37) base (σ.2.1 12 (σ.1 29).toNatClampNeg).toNatClampNeg (τ.2.2.1 41)) (fun (τ : MS) => wEn dC dI (va_A (mW h ad cl σ) sz) (mW h ad cl τ) []) (va_A (mW h ad cl σ) sz)) 0 0 (va_A (mW h ad cl σ) sz) := by
  refine Met.ofW (cc := cX12_run) (maxL := 7) (ret := none) (by decide) rfl ?_
  intro p e s m args below meth c s₁ B hml hv
  obtain ⟨rfl, hsz, hP, hK, hD0, hE⟩ := hv
  have hx := B.exec
  have hb := B.bytes
  have hr := B.returns
  have hts := atoms_spec (ws := vs_n_run_n) B.pre
  have hown : s.vm.findClass RX12 = some m.cls := findClass_of_methodNamed B.named
  have hlocks := B.notSynchronized
  subst hsz
  have hD := hD0.self (sz := s.heap.size)
  generalize hAe : va_A (mW h ad cl σ) s.heap.size = A at hD ⊢
  have hA : ∀ q : Nat, s.heap.size ≤ q → A q := fun q h => by rw [← hAe]; exact Or.inr h
  have hl := lv_entry ([.ref h, .ref (ad 31), .int base]) (n := 7) (Nat.le_of_ble_eq_true rfl)
  rw [lg_entry_eq]
  generalize (lg_sl ([.ref h, .ref (ad 31), .int base]) ++ List.replicate (7 - (lg_sl ([.ref h, .ref (ad 31), .int base])).length) Slot.unset).toArray = ls at hl ⊢
  have hl : lv_has ls 7 [(0, .ref h), (1, .ref (ad 31)), (2, .int base)] := hl
  have ho := fun w (h : w ∈ ow_n_run_n) => hts w (List.mem_cons_of_mem _ (List.mem_append_left _ h))
  have hin12 : ∀ w ∈ u_ws RX12 TX12 59, w ∈ vs_n_run_n := fun w h => (List.mem_cons_of_mem _ (List.mem_append_right _ (List.mem_append_right _ (List.mem_append_right _ (List.mem_append_right _ (List.mem_append_right _ (List.mem_append_right _ (List.mem_append_right _ (List.mem_append_right _ (List.mem_append_right _ (List.mem_append_right _ h)))))))))))
  refine zQ (fun Q hQ => ?_)
  have hn12 : 0 ≤ (σ.2.1 12 (σ.1 29).toNatClampNeg).toInt ∧ (σ.2.1 12 (σ.1 29).toNatClampNeg).toInt ≤ 12 := hI.2 12 _ (cl_lt (n := 2) (hI.1 29).1 (Int.lt_of_le_of_lt (hI.1 29).2 (by decide)))
  have pt_2 : ∀ (n2 : Nat) (τ : MS) (sv : Int32) (H : Heap) (locs : List Loc) (ls : Array Slot), (12 - sv.toInt).toNat < n2 → (Inv τ) → (eqx [42, 41] τ σ) → (0 ≤ sv.toInt) → (PlR (σ.1 29).toNatClampNeg (cor σ) true (σ.2.1 31) base sv.toNatClampNeg (τ.2.2.1 42)) → (CaR (σ.1 29).toNatClampNeg (cor σ) (coJ σ) true (σ.2.1 31) (σ.2.1 37) base sv.toNatClampNeg (τ.2.2.1 41)) → (sv.toInt ≤ (σ.2.1 12 (σ.1 29).toNatClampNeg).toInt) → va_P (dC, dI) vwCl (mW h ad cl τ) H → va_D A (mW h ad cl τ) → va_S A s.heap H locs → lv_has ls 7 [(0, .ref h), (1, .ref (ad 31)), (2, .int base), (3, .int sv)] → W p l e (headSpec vs_n_run_n rm_n_run_n).room s m #[Value.ref h, Value.ref (ad 31), Value.int base] below meth c H locs 0 0 Q (F0 m 2 ls []) := by
    intro n2
    induction n2 with
    | zero => intro τ sv H locs ls hn2 hIτ hxτ hs0 hpl hca hsn hP hD hS hl; exact absurd hn2 (Nat.not_lt_zero _)
    | succ n2 ih2 =>
      intro τ sv H locs ls hn2 hIτ hxτ hs0 hpl hca hsn hP hD hS hl
      have bτ_29 : 0 ≤ (τ.1 29).toInt ∧ (τ.1 29).toInt ≤ 1 := hIτ.1 29
      have qq1_ : (τ.1 29).toInt = ((σ.1 29) : Int32).toInt := congrArg Int32.toInt (((hxτ 29 rg_483).1))
      have E29 : τ.1 29 = σ.1 29 := (hxτ 29 rg_483).1
      have Ecor : cor τ = cor σ := cor_x hxτ rg_484
      have EJ : coJ τ = coJ σ := coJ_x hxτ rg_485
      have Efr : τ.2.1 31 = σ.2.1 31 := (hxτ 31 rg_486).2.1
      have E37 : τ.2.1 37 = σ.2.1 37 := (hxτ 37 rg_487).2.1
      have E12 : (τ.2.1 12 (τ.1 29).toNatClampNeg).toInt = (σ.2.1 12 (σ.1 29).toNatClampNeg).toInt := by rw [E29, (hxτ 12 rg_488).2.1]
      refine lv_iload_n hx hb dX12_run_2 rfl (lv_at hl 3 rfl) ?_
      refine lv_aload_n hx hb dX12_run_3 rfl (lv_at hl 0 rfl) ?_
      refine zy_i (va_runV (As := []) (rest := [.int sv]) ⟨hx, hb, hml, hown, hts⟩ (n_steps l dC dI h ad cl H.size τ  hIτ) (cwV 0 hts gd_n_run_n_321_n_steps rfl rfl rfl dd_n_steps ⟨Nat.le_of_ble_eq_true rfl, Nat.le_of_ble_eq_true rfl⟩) (preV hP hK hD hE (ci := 12) (q0 := 0) rfl rfl) rfl rfl hl.1 rfl (lv_room (Nat.le_of_ble_eq_true rfl)) dX12_run_4 ⟨Nat.le_of_ble_eq_true rfl, Nat.le_of_ble_eq_true rfl⟩) hD hS hA (fun z3_ τ2_ H locs hq hP hD hS => ?_)
      obtain ⟨rfl, f4_, f5_, f6_⟩ := hq
      refine W.widen (k := 0) (n := 0) (Nat.le_of_ble_eq_true rfl) (Nat.le_of_ble_eq_true rfl) ?_
      refine lv_icmp_ge (tgt := 160) hx hb dX12_run_7 rfl (fun c7_ => ?_) (fun c7_ => ?_)
      · have tc7_ := (show z3_.toInt ≤ sv.toInt from ti_le rfl rfl c7_)
        rw [hQ]
        have o1 : (σ.2.1 12 (σ.1 29).toNatClampNeg).toInt = sv.toInt := by omega
        have A8_ : (σ.2.1 12 (σ.1 29).toNatClampNeg).toNatClampNeg = sv.toNatClampNeg := cl_eq o1
        exact W.vret hx hb hr (fun t ht hW => ⟨⟨τ, rfl, ⟨hIτ, hxτ, (by rw [A8_]; exact hpl), (by rw [A8_]; exact hca)⟩, wEn_of hP (hK.sub [] rfl) hD ht hW⟩, hS.F ht⟩) hS.2.2 dX12_run_160
      · have tc7_ := (show sv.toInt < z3_.toInt from ti_nle rfl rfl c7_)
        refine lv_aload_n hx hb dX12_run_10 rfl (lv_at hl 0 rfl) ?_
        refine va_get (D := (dC, dI)) (ci := 12) (v := .ref (ad 42)) (C := RX12) (T := TX12) (N := 59) hx hb hts hin12 hown hK hP 0 rfl rfl 42 (Nat.le_of_ble_eq_true rfl) (ho (.fieldLink RX12 104 "NearEnoughModel" "plain" "[J") (List.mem_of_getElem? (i := 0) rfl)) (fun _ h9 => h9) rfl dX12_run_11 ?_
        refine lv_iload_n hx hb dX12_run_14 rfl (lv_at hl 3 rfl) ?_
        refine lv_aload_n hx hb dX12_run_15 rfl (lv_at hl 0 rfl) ?_
        refine lv_iload_n hx hb dX12_run_16 rfl (lv_at hl 3 rfl) ?_
        refine lv_aload_n hx hb dX12_run_17 rfl (lv_at hl 1 rfl) ?_
        refine lv_iload_n hx hb dX12_run_18 rfl (lv_at hl 2 rfl) ?_
        refine lv_aload_n hx hb dX12_run_19 rfl (lv_at hl 0 rfl) ?_
        refine va_get (D := (dC, dI)) (ci := 12) (v := .ref (ad 42)) (C := RX12) (T := TX12) (N := 59) hx hb hts hin12 hown hK hP 0 rfl rfl 42 (Nat.le_of_ble_eq_true rfl) (ho (.fieldLink RX12 104 "NearEnoughModel" "plain" "[J") (List.mem_of_getElem? (i := 0) rfl)) (fun _ h9 => h9) rfl dX12_run_20 ?_
        refine lv_iconst (v := (-1)) hx hb dX12_run_23 rg_53 ?_
        have kk9_ : ((-1) : Int32).toInt = (-1) := rg_489
        have o2 : 0 ≤ sv.toInt := by omega
        have o3 : sv.toInt ≤ 11 := by omega
        have o4 : 0 ≤ base.toInt := by omega
        have o5 : base.toInt ≤ 468 := by omega
        have o6 : sv.toInt < (σ.2.1 12 (σ.1 29).toNatClampNeg).toInt := by omega
        have o7 : base.toInt = 0 ∨ 12 ≤ base.toInt := by omega
        refine zy_l (va_runV (As := [.int sv, .ref (ad 31), .int base, .ref (ad 42), .int (-1)]) (rest := [.int sv, .ref (ad 42)]) ⟨hx, hb, hml, hown, hts⟩ (n_work_np l dC dI h ad cl H.size τ sv base (-1) hIτ ⟨o2, o3⟩ ⟨o4, o5⟩ (show base.toInt = 0 ∨ 12 ≤ base.toInt from o7) ChOk.m1 (WkOk.x (show WkOk σ sv from ⟨hR, o2, o6⟩) hxτ rg_483 rg_490)) (cwV 5 hts gd_n_run_n_364_n_work_np rfl rfl rfl dd_n_work_np ⟨Nat.le_of_ble_eq_true rfl, Nat.le_of_ble_eq_true rfl⟩) (preV hP hK hD hE (ci := 12) (q0 := 0) rfl rfl) rfl rfl hl.1 rfl (lv_room (Nat.le_of_ble_eq_true rfl)) dX12_run_24 ⟨Nat.le_of_ble_eq_true rfl, Nat.le_of_ble_eq_true rfl⟩) hD hS hA (fun y11_ τ10_ H locs hq hP hD hS => ?_)
        obtain ⟨rfl, f12_⟩ := hq
        refine W.widen (k := 0) (n := 0) (Nat.le_of_ble_eq_true rfl) (Nat.le_of_ble_eq_true rfl) ?_
        have R13_ : y11_ = wkF (σ.1 29).toNatClampNeg (cor σ) true (σ.2.1 31) (τ.2.2.1 42) (Int32.toNatClampNeg sv) base (-1) := by rw [f12_, E29, Ecor, Efr]
        have o8 : sv.toInt < ((12 : Nat) : Int) := by omega
        refine va_last hx hb hK hP hD hS 30 29 rfl rfl (ti_inx o2 o8) dX12_run_27 (fun H locs hP hD hS => ?_)
        rw [wS42] at hP hD
        obtain ⟨τ14_, eτ14_⟩ : ∃ x9 : MS, x9 = sJ τ 42 (vp_updL (τ.2.2.1 42) (Int32.toNatClampNeg sv) y11_) := ⟨_, rfl⟩
        have hP : va_P (dC, dI) vwCl (mW h ad cl τ14_) H := by rw [eτ14_]; exact hP
        have hD : va_D A (mW h ad cl τ14_) := by rw [eτ14_]; exact hD
        have hIτ14_ : Inv τ14_ := by rw [eτ14_]; exact (Inv.sJ hIτ)
        have Xτ14_ : eqx [42, 41] τ14_ σ := (eqx.eq eτ14_ (eqx.sJ hxτ rg_491))
        have qq15_ : (τ14_.1 29).toInt = ((σ.1 29) : Int32).toInt := congrArg Int32.toInt ((show τ14_.1 29 = (σ.1 29) from (congrArg (fun x9 : MS => x9.1 29) eτ14_).trans ((hxτ 29 rg_483).1)))
        refine lv_aload_n hx hb dX12_run_28 rfl (lv_at hl 0 rfl) ?_
        refine va_get (D := (dC, dI)) (ci := 12) (v := .ref (ad 37)) (C := RX12) (T := TX12) (N := 59) hx hb hts hin12 hown hK hP 0 rfl rfl 37 (Nat.le_of_ble_eq_true rfl) (ho (.fieldLink RX12 94 "NearEnoughModel" "on" "[I") (List.mem_of_getElem? (i := 1) rfl)) (fun _ h9 => h9) rfl dX12_run_29 ?_
        refine lv_iload_n hx hb dX12_run_32 rfl (lv_at hl 3 rfl) ?_
        refine va_iald hx hb hK hP 27 26 rfl rfl (ti_inx o2 o8) dX12_run_33 ?_
        refine lv_topi (fun z16_ ez16_ => ?_)
        have gz16_ : z16_.toInt = ((τ.2.1 37) (Int32.toNatClampNeg sv)).toInt := congrArg Int32.toInt (ez16_.trans (congrFun ((congrArg (fun x9 : MS => x9.2.1 37) eτ14_).trans (tJ.trans rfl)) (Int32.toNatClampNeg sv)))
        have bz16_ : (-1) ≤ z16_.toInt ∧ z16_.toInt ≤ 11 := by rw [ez16_]; exact (hIτ14_.2 37) _ (cl_lt (n := 12) o2 o8)
        have E291 : τ14_.1 29 = σ.1 29 := (Xτ14_ 29 rg_483).1
        have Ecor1 : cor τ14_ = cor σ := cor_x Xτ14_ rg_484
        have EJ1 : coJ τ14_ = coJ σ := coJ_x Xτ14_ rg_485
        have Efr1 : τ14_.2.1 31 = σ.2.1 31 := (Xτ14_ 31 rg_486).2.1
        have E371 : τ14_.2.1 37 = σ.2.1 37 := (Xτ14_ 37 rg_487).2.1
        have EZ : σ.2.1 37 (Int32.toNatClampNeg sv) = z16_ := by rw [ez16_, E371]
        have HC : ChOk σ z16_ := by rw [← EZ]; exact hon _ (cl_lt (n := 12) o2 o8)
        have HCu := HC
        unfold ChOk at HCu
        have Ek : τ.2.1 34 = σ.2.1 34 := (hxτ 34 rg_492).2.1
        have En : τ14_.2.1 35 = σ.2.1 35 := (Xτ14_ 35 rg_493).2.1
        have E41 : τ14_.2.2.1 41 = τ.2.2.1 41 := by rw [eτ14_]; rfl
        refine lv_istore (lv' := [(4, .int z16_), (0, .ref h), (1, .ref (ad 31)), (2, .int base), (3, .int sv)]) hx hb dX12_run_34 hl (Nat.le_of_ble_eq_true rfl) rfl (fun ls hl => ?_)
        refine lv_iload hx hb dX12_run_36 (lv_at hl 0 rfl) ?_
        refine lv_if_lt (tgt := 88) hx hb dX12_run_38 rfl (fun c17_ => ?_) (fun c17_ => ?_)
        · have tc17_ := (show z16_.toInt < 0 from ti_lt rfl rg_11 c17_)
          refine lv_aload_n hx hb dX12_run_88 rfl (lv_at hl 1 rfl) ?_
          refine lv_iload_n hx hb dX12_run_89 rfl (lv_at hl 4 rfl) ?_
          refine lv_aload_n hx hb dX12_run_90 rfl (lv_at hl 2 rfl) ?_
          refine lv_iload_n hx hb dX12_run_91 rfl (lv_at hl 3 rfl) ?_
          refine lv_aload_n hx hb dX12_run_92 rfl (lv_at hl 1 rfl) ?_
          refine va_get (D := (dC, dI)) (ci := 12) (v := .ref (ad 41)) (C := RX12) (T := TX12) (N := 59) hx hb hts hin12 hown hK hP 0 rfl rfl 41 (Nat.le_of_ble_eq_true rfl) (ho (.fieldLink RX12 101 "NearEnoughModel" "came" "[J") (List.mem_of_getElem? (i := 2) rfl)) (fun _ h9 => h9) rfl dX12_run_93 ?_
          refine lv_iload hx hb dX12_run_96 (lv_at hl 0 rfl) ?_
          refine zy_l (va_runV (As := [.int sv, .ref (ad 31), .int base, .ref (ad 41), .int z16_]) (rest := []) ⟨hx, hb, hml, hown, hts⟩ (n_work_nc l dC dI h ad cl H.size τ14_ sv base z16_ hIτ14_ ⟨o2, o3⟩ ⟨o4, o5⟩ (show base.toInt = 0 ∨ 12 ≤ base.toInt from o7) (ChOk.x HC Xτ14_ rg_492 rg_493) (WkOk.x (show WkOk σ sv from ⟨hR, o2, o6⟩) Xτ14_ rg_483 rg_490)) (cwV 5 hts gd_n_run_n_364_n_work_nc rfl rfl rfl dd_n_work_nc ⟨Nat.le_of_ble_eq_true rfl, Nat.le_of_ble_eq_true rfl⟩) (preV hP hK hD hE (ci := 12) (q0 := 0) rfl rfl) rfl rfl hl.1 rfl (lv_room (Nat.le_of_ble_eq_true rfl)) dX12_run_98 ⟨Nat.le_of_ble_eq_true rfl, Nat.le_of_ble_eq_true rfl⟩) hD hS hA (fun y19_ τ18_ H locs hq hP hD hS => ?_)
          obtain ⟨rfl, f20_⟩ := hq
          refine W.widen (k := 0) (n := 0) (Nat.le_of_ble_eq_true rfl) (Nat.le_of_ble_eq_true rfl) ?_
          have R21_ : y19_ = wkF (σ.1 29).toNatClampNeg (cor σ) true (σ.2.1 31) (τ.2.2.1 41) (Int32.toNatClampNeg sv) base z16_ := by rw [f20_, E291, Ecor1, Efr1, E41]
          refine lv_lstore (lv' := [(5, .long y19_), (4, .int z16_), (0, .ref h), (1, .ref (ad 31)), (2, .int base), (3, .int sv)]) hx hb dX12_run_101 hl (Nat.le_of_ble_eq_true rfl) rfl (fun ls hl => ?_)
          refine lv_aload_n hx hb dX12_run_103 rfl (lv_at hl 2 rfl) ?_
          refine va_get (D := (dC, dI)) (ci := 12) (v := .ref (ad 41)) (C := RX12) (T := TX12) (N := 59) hx hb hts hin12 hown hK hP 0 rfl rfl 41 (Nat.le_of_ble_eq_true rfl) (ho (.fieldLink RX12 101 "NearEnoughModel" "came" "[J") (List.mem_of_getElem? (i := 2) rfl)) (fun _ h9 => h9) rfl dX12_run_104 ?_
          refine lv_iload_n hx hb dX12_run_107 rfl (lv_at hl 5 rfl) ?_
          refine lv_iload hx hb dX12_run_108 (lv_at hl 1 rfl) ?_
          refine lv_if_lt (tgt := 151) hx hb dX12_run_110 rfl (fun c22_ => ?_) (fun c22_ => ?_)
          · have tc22_ := (show z16_.toInt < 0 from ti_lt rfl rg_11 c22_)
            refine lv_lload hx hb dX12_run_151 (lv_at hl 0 rfl) ?_
            refine va_last hx hb hK hP hD hS 29 28 rfl rfl (ti_inx o2 o8) dX12_run_153 (fun H locs hP hD hS => ?_)
            rw [wS41] at hP hD
            obtain ⟨τ23_, eτ23_⟩ : ∃ x9 : MS, x9 = sJ τ14_ 41 (vp_updL (τ14_.2.2.1 41) (Int32.toNatClampNeg sv) y19_) := ⟨_, rfl⟩
            have hP : va_P (dC, dI) vwCl (mW h ad cl τ23_) H := by rw [eτ23_]; exact hP
            have hD : va_D A (mW h ad cl τ23_) := by rw [eτ23_]; exact hD
            have hIτ23_ : Inv τ23_ := by rw [eτ23_]; exact (Inv.sJ hIτ14_)
            have Xτ23_ : eqx [42, 41] τ23_ σ := (eqx.eq eτ23_ (eqx.sJ Xτ14_ rg_494))
            have qq24_ : (τ23_.1 29).toInt = ((σ.1 29) : Int32).toInt := congrArg Int32.toInt ((show τ23_.1 29 = (σ.1 29) from (congrArg (fun x9 : MS => x9.1 29) eτ23_).trans (show τ14_.1 29 = (σ.1 29) from (congrArg (fun x9 : MS => x9.1 29) eτ14_).trans ((hxτ 29 rg_483).1))))
            obtain ⟨z25_, ez25_⟩ : ∃ y : Int32, y = sv + 1 := ⟨_, rfl⟩
            have o9 : -2147483648 ≤ sv.toInt + 1 := by omega
            have o10 : sv.toInt + 1 ≤ 2147483647 := by omega
            have tz25_ := ti_add ez25_ rfl rg_18 o9 o10
            refine lv_iinc (v := z25_) (lv' := [(3, .int z25_), (5, .long y19_), (4, .int z16_), (0, .ref h), (1, .ref (ad 31)), (2, .int base)]) hx hb dX12_run_154 hl (k := 5) rfl (iincp ez25_ rg_6) (Nat.le_of_ble_eq_true rfl) rfl (fun ls hl => ?_)
            refine lv_goto (tgt := 2) hx hb dX12_run_157 rfl ?_
            have A26_ : τ23_.2.2.1 42 = vp_updL (τ.2.2.1 42) (Int32.toNatClampNeg sv) y11_ := by rw [eτ23_, eτ14_]; rfl
            have A27_ : τ23_.2.2.1 41 = vp_updL (τ.2.2.1 41) (Int32.toNatClampNeg sv) y19_ := by rw [eτ23_, eτ14_]; rfl
            have o11 : z25_.toInt = sv.toInt + 1 := by omega
            have A28_ : (z25_ : Int32).toNatClampNeg = sv.toNatClampNeg + 1 := cl_succ o2 o11
            have o12 : 0 ≤ z25_.toInt := by omega
            have o13 : 0 ≤ (σ.2.1 12 (σ.1 29).toNatClampNeg).toInt := by omega
            have A31_ : StT (σ.1 29).toNatClampNeg (cor σ) (sv.toNatClampNeg + 1) := hR.stT.mono (by rw [← A28_]; have h8 := ti_cl (x := z25_) rfl o12; have h7 := ti_cl (x := σ.2.1 12 (σ.1 29).toNatClampNeg) rfl o13; omega)
            have o14 : ¬ (0 ≤ z16_.toInt ∧ (τ.2.1 34 (Int32.toNatClampNeg z16_)).toInt = 4) := by omega
            have o15 : ¬ (0 ≤ z16_.toInt ∧ (τ.2.1 34 (Int32.toNatClampNeg z16_)).toInt = 1) := by omega
            have A29_ : y19_ = caF (σ.1 29).toNatClampNeg (cor σ) (coJ σ) true (σ.2.1 31) (σ.2.1 37) (τ.2.2.1 41) (Int32.toNatClampNeg sv) base := by rw [ca_n (T := cor σ) (by rw [EZ]; rw [Ek] at o14; exact o14) (by rw [EZ]; rw [Ek] at o15; exact o15), EZ]; exact R21_
            have o16 : z25_.toInt ≤ (σ.2.1 12 (σ.1 29).toNatClampNeg).toInt := by omega
            have o17 : (12 - z25_.toInt).toNat < n2 := by omega
            exact ih2 τ23_ z25_ _ _ _ (show (12 - z25_.toInt).toNat < n2 from o17) hIτ23_ Xτ23_ o12 (by rw [A28_, A26_]; exact PlR.snoc A31_ hpl R13_) (by rw [A28_, A27_]; exact CaR.snoc A31_ hca A29_) o16 hP hD hS (lv_sub hl [3, 4, 5, 0] rfl)
          · have tc22_ := (show 0 ≤ z16_.toInt from ti_nlt rfl rg_11 c22_)
            refine lv_aload_n hx hb dX12_run_113 rfl (lv_at hl 2 rfl) ?_
            refine va_get (D := (dC, dI)) (ci := 12) (v := .ref (ad 34)) (C := RX12) (T := TX12) (N := 59) hx hb hts hin12 hown hK hP 0 rfl rfl 34 (Nat.le_of_ble_eq_true rfl) (ho (.fieldLink RX12 85 "NearEnoughModel" "cKind" "[I") (List.mem_of_getElem? (i := 3) rfl)) (fun _ h9 => h9) rfl dX12_run_114 ?_
            refine lv_iload hx hb dX12_run_117 (lv_at hl 1 rfl) ?_
            have o18 : 0 ≤ z16_.toInt := by omega
            have o19 : z16_.toInt < ((12 : Nat) : Int) := by omega
            refine va_iald hx hb hK hP 24 23 rfl rfl (ti_inx o18 o19) dX12_run_119 ?_
            refine lv_topi (fun z32_ ez32_ => ?_)
            have gz32_ : z32_.toInt = ((τ.2.1 34) (Int32.toNatClampNeg z16_)).toInt := congrArg Int32.toInt (ez32_.trans (congrFun ((congrArg (fun x9 : MS => x9.2.1 34) eτ14_).trans (tJ.trans rfl)) (Int32.toNatClampNeg z16_)))
            have bz32_ : 0 ≤ z32_.toInt ∧ z32_.toInt ≤ 6 := by rw [ez32_]; exact (hIτ14_.2 34) _ (cl_lt (n := 12) o18 o19)
            refine lv_iconst (v := 1) hx hb dX12_run_120 rg_6 ?_
            refine lv_icmp_ne (tgt := 151) hx hb dX12_run_121 rfl (fun c33_ => ?_) (fun c33_ => ?_)
            · have tc33_ := (show z32_.toInt ≠ 1 from ti_ne rfl rg_18 c33_)
              refine lv_lload hx hb dX12_run_151 (lv_at hl 0 rfl) ?_
              refine va_last hx hb hK hP hD hS 29 28 rfl rfl (ti_inx o2 o8) dX12_run_153 (fun H locs hP hD hS => ?_)
              rw [wS41] at hP hD
              obtain ⟨τ34_, eτ34_⟩ : ∃ x9 : MS, x9 = sJ τ14_ 41 (vp_updL (τ14_.2.2.1 41) (Int32.toNatClampNeg sv) y19_) := ⟨_, rfl⟩
              have hP : va_P (dC, dI) vwCl (mW h ad cl τ34_) H := by rw [eτ34_]; exact hP
              have hD : va_D A (mW h ad cl τ34_) := by rw [eτ34_]; exact hD
              have hIτ34_ : Inv τ34_ := by rw [eτ34_]; exact (Inv.sJ hIτ14_)
              have Xτ34_ : eqx [42, 41] τ34_ σ := (eqx.eq eτ34_ (eqx.sJ Xτ14_ rg_494))
              have qq35_ : (τ34_.1 29).toInt = ((σ.1 29) : Int32).toInt := congrArg Int32.toInt ((show τ34_.1 29 = (σ.1 29) from (congrArg (fun x9 : MS => x9.1 29) eτ34_).trans (show τ14_.1 29 = (σ.1 29) from (congrArg (fun x9 : MS => x9.1 29) eτ14_).trans ((hxτ 29 rg_483).1))))
              obtain ⟨z36_, ez36_⟩ : ∃ y : Int32, y = sv + 1 := ⟨_, rfl⟩
              have o20 : -2147483648 ≤ sv.toInt + 1 := by omega
              have o21 : sv.toInt + 1 ≤ 2147483647 := by omega
              have tz36_ := ti_add ez36_ rfl rg_18 o20 o21
              refine lv_iinc (v := z36_) (lv' := [(3, .int z36_), (5, .long y19_), (4, .int z16_), (0, .ref h), (1, .ref (ad 31)), (2, .int base)]) hx hb dX12_run_154 hl (k := 5) rfl (iincp ez36_ rg_6) (Nat.le_of_ble_eq_true rfl) rfl (fun ls hl => ?_)
              refine lv_goto (tgt := 2) hx hb dX12_run_157 rfl ?_
              have A37_ : τ34_.2.2.1 42 = vp_updL (τ.2.2.1 42) (Int32.toNatClampNeg sv) y11_ := by rw [eτ34_, eτ14_]; rfl
              have A38_ : τ34_.2.2.1 41 = vp_updL (τ.2.2.1 41) (Int32.toNatClampNeg sv) y19_ := by rw [eτ34_, eτ14_]; rfl
              have o22 : z36_.toInt = sv.toInt + 1 := by omega
              have A39_ : (z36_ : Int32).toNatClampNeg = sv.toNatClampNeg + 1 := cl_succ o2 o22
              have o23 : 0 ≤ z36_.toInt := by omega
              have o24 : 0 ≤ (σ.2.1 12 (σ.1 29).toNatClampNeg).toInt := by omega
              have A42_ : StT (σ.1 29).toNatClampNeg (cor σ) (sv.toNatClampNeg + 1) := hR.stT.mono (by rw [← A39_]; have h8 := ti_cl (x := z36_) rfl o23; have h7 := ti_cl (x := σ.2.1 12 (σ.1 29).toNatClampNeg) rfl o24; omega)
              have o25 : ¬ (0 ≤ z16_.toInt ∧ (τ.2.1 34 (Int32.toNatClampNeg z16_)).toInt = 4) := by omega
              have o26 : ¬ (0 ≤ z16_.toInt ∧ (τ.2.1 34 (Int32.toNatClampNeg z16_)).toInt = 1) := by omega
              have A40_ : y19_ = caF (σ.1 29).toNatClampNeg (cor σ) (coJ σ) true (σ.2.1 31) (σ.2.1 37) (τ.2.2.1 41) (Int32.toNatClampNeg sv) base := by rw [ca_n (T := cor σ) (by rw [EZ]; rw [Ek] at o25; exact o25) (by rw [EZ]; rw [Ek] at o26; exact o26), EZ]; exact R21_
              have o27 : z36_.toInt ≤ (σ.2.1 12 (σ.1 29).toNatClampNeg).toInt := by omega
              have o28 : (12 - z36_.toInt).toNat < n2 := by omega
              exact ih2 τ34_ z36_ _ _ _ (show (12 - z36_.toInt).toNat < n2 from o28) hIτ34_ Xτ34_ o23 (by rw [A39_, A37_]; exact PlR.snoc A42_ hpl R13_) (by rw [A39_, A38_]; exact CaR.snoc A42_ hca A40_) o27 hP hD hS (lv_sub hl [3, 4, 5, 0] rfl)
            · have tc33_ := (show z32_.toInt = 1 from ti_eq rfl rg_18 c33_)
              refine lv_lload hx hb dX12_run_124 (lv_at hl 0 rfl) ?_
              refine lv_lconst (v := 1) hx hb dX12_run_126 (by decide) ?_
              refine lv_aload_n hx hb dX12_run_127 rfl (lv_at hl 2 rfl) ?_
              refine va_get (D := (dC, dI)) (ci := 12) (v := .ref (ad 35)) (C := RX12) (T := TX12) (N := 59) hx hb hts hin12 hown hK hP 0 rfl rfl 35 (Nat.le_of_ble_eq_true rfl) (ho (.fieldLink RX12 88 "NearEnoughModel" "cN" "[I") (List.mem_of_getElem? (i := 4) rfl)) (fun _ h9 => h9) rfl dX12_run_128 ?_
              refine lv_iload hx hb dX12_run_131 (lv_at hl 1 rfl) ?_
              refine va_iald hx hb hK hP 25 24 rfl rfl (ti_inx o18 o19) dX12_run_133 ?_
              refine lv_topi (fun z43_ ez43_ => ?_)
              have gz43_ : z43_.toInt = ((τ.2.1 35) (Int32.toNatClampNeg z16_)).toInt := congrArg Int32.toInt (ez43_.trans (congrFun ((congrArg (fun x9 : MS => x9.2.1 35) eτ14_).trans (tJ.trans rfl)) (Int32.toNatClampNeg z16_)))
              have bz43_ : 0 ≤ z43_.toInt ∧ z43_.toInt ≤ 99 := by rw [ez43_]; exact (hIτ14_.2 35) _ (cl_lt (n := 12) o18 o19)
              refine lv_lshl hx hb dX12_run_134 rfl ?_
              refine lv_topl (fun y44_ ey44_ => ?_)
              have o29 : 0 ≤ z43_.toInt := by omega
              have o30 : z43_.toInt ≤ 99 := by omega
              refine zs_l (va_runS (As := [.long y19_, .long y44_]) (rest := [.int sv, .ref (ad 41)]) ⟨hx, hb, hml, hown, hts⟩ (n_floorOver l dC dI y19_ y44_ (by rw [ey44_]; exact shF_ne o29 o30) H.size) (va_cwS 2 hts gd_n_run_n_337_n_floorOver rfl rfl rfl dd_n_floorOver ⟨Nat.le_of_ble_eq_true rfl, Nat.le_of_ble_eq_true rfl⟩) (preS (A := A) empP (hK.sub (tys' := []) [] rfl) empD hE) rfl rfl hl.1 rfl (lv_room (Nat.le_of_ble_eq_true rfl)) dX12_run_135 ⟨Nat.le_of_ble_eq_true rfl, Nat.le_of_ble_eq_true rfl⟩) hP hD hS hA (fun y45_ H locs hq hP hD hS => ?_)
              have f46_ := hq
              refine W.widen (k := 0) (n := 0) (Nat.le_of_ble_eq_true rfl) (Nat.le_of_ble_eq_true rfl) ?_
              refine lv_lconst (v := 1) hx hb dX12_run_138 (by decide) ?_
              refine lv_aload_n hx hb dX12_run_139 rfl (lv_at hl 2 rfl) ?_
              refine va_get (D := (dC, dI)) (ci := 12) (v := .ref (ad 35)) (C := RX12) (T := TX12) (N := 59) hx hb hts hin12 hown hK hP 0 rfl rfl 35 (Nat.le_of_ble_eq_true rfl) (ho (.fieldLink RX12 88 "NearEnoughModel" "cN" "[I") (List.mem_of_getElem? (i := 4) rfl)) (fun _ h9 => h9) rfl dX12_run_140 ?_
              refine lv_iload hx hb dX12_run_143 (lv_at hl 1 rfl) ?_
              refine va_iald hx hb hK hP 25 24 rfl rfl (ti_inx o18 o19) dX12_run_145 ?_
              refine lv_topi (fun z47_ ez47_ => ?_)
              have qq48_ : z47_.toInt = z43_.toInt := congrArg Int32.toInt ((ez47_.trans (congrFun ((congrArg (fun x9 : MS => x9.2.1 35) eτ14_).trans (tJ.trans rfl)) (Int32.toNatClampNeg z16_))).trans ((ez43_.trans (congrFun ((congrArg (fun x9 : MS => x9.2.1 35) eτ14_).trans (tJ.trans rfl)) (Int32.toNatClampNeg z16_)))).symm)
              have gz47_ : z47_.toInt = ((τ.2.1 35) (Int32.toNatClampNeg z16_)).toInt := congrArg Int32.toInt (ez47_.trans (congrFun ((congrArg (fun x9 : MS => x9.2.1 35) eτ14_).trans (tJ.trans rfl)) (Int32.toNatClampNeg z16_)))
              have bz47_ : 0 ≤ z47_.toInt ∧ z47_.toInt ≤ 99 := by rw [ez47_]; exact (hIτ14_.2 35) _ (cl_lt (n := 12) o18 o19)
              refine lv_lshl hx hb dX12_run_146 rfl ?_
              refine lv_topl (fun y49_ ey49_ => ?_)
              refine lv_lmul hx hb dX12_run_147 ?_
              refine lv_topl (fun y50_ ey50_ => ?_)
              refine lv_goto (tgt := 153) hx hb dX12_run_148 rfl ?_
              refine va_last hx hb hK hP hD hS 29 28 rfl rfl (ti_inx o2 o8) dX12_run_153 (fun H locs hP hD hS => ?_)
              rw [wS41] at hP hD
              obtain ⟨τ51_, eτ51_⟩ : ∃ x9 : MS, x9 = sJ τ14_ 41 (vp_updL (τ14_.2.2.1 41) (Int32.toNatClampNeg sv) y50_) := ⟨_, rfl⟩
              have hP : va_P (dC, dI) vwCl (mW h ad cl τ51_) H := by rw [eτ51_]; exact hP
              have hD : va_D A (mW h ad cl τ51_) := by rw [eτ51_]; exact hD
              have hIτ51_ : Inv τ51_ := by rw [eτ51_]; exact (Inv.sJ hIτ14_)
              have Xτ51_ : eqx [42, 41] τ51_ σ := (eqx.eq eτ51_ (eqx.sJ Xτ14_ rg_494))
              have qq52_ : (τ51_.1 29).toInt = ((σ.1 29) : Int32).toInt := congrArg Int32.toInt ((show τ51_.1 29 = (σ.1 29) from (congrArg (fun x9 : MS => x9.1 29) eτ51_).trans (show τ14_.1 29 = (σ.1 29) from (congrArg (fun x9 : MS => x9.1 29) eτ14_).trans ((hxτ 29 rg_483).1))))
              obtain ⟨z53_, ez53_⟩ : ∃ y : Int32, y = sv + 1 := ⟨_, rfl⟩
              have o31 : -2147483648 ≤ sv.toInt + 1 := by omega
              have o32 : sv.toInt + 1 ≤ 2147483647 := by omega
              have tz53_ := ti_add ez53_ rfl rg_18 o31 o32
              refine lv_iinc (v := z53_) (lv' := [(3, .int z53_), (5, .long y19_), (4, .int z16_), (0, .ref h), (1, .ref (ad 31)), (2, .int base)]) hx hb dX12_run_154 hl (k := 5) rfl (iincp ez53_ rg_6) (Nat.le_of_ble_eq_true rfl) rfl (fun ls hl => ?_)
              refine lv_goto (tgt := 2) hx hb dX12_run_157 rfl ?_
              have A54_ : τ51_.2.2.1 42 = vp_updL (τ.2.2.1 42) (Int32.toNatClampNeg sv) y11_ := by rw [eτ51_, eτ14_]; rfl
              have A55_ : τ51_.2.2.1 41 = vp_updL (τ.2.2.1 41) (Int32.toNatClampNeg sv) y50_ := by rw [eτ51_, eτ14_]; rfl
              have o33 : z53_.toInt = sv.toInt + 1 := by omega
              have A56_ : (z53_ : Int32).toNatClampNeg = sv.toNatClampNeg + 1 := cl_succ o2 o33
              have o34 : 0 ≤ z53_.toInt := by omega
              have o35 : 0 ≤ (σ.2.1 12 (σ.1 29).toNatClampNeg).toInt := by omega
              have A59_ : StT (σ.1 29).toNatClampNeg (cor σ) (sv.toNatClampNeg + 1) := hR.stT.mono (by rw [← A56_]; have h8 := ti_cl (x := z53_) rfl o34; have h7 := ti_cl (x := σ.2.1 12 (σ.1 29).toNatClampNeg) rfl o35; omega)
              have o36 : ¬ (0 ≤ z16_.toInt ∧ (τ.2.1 34 (Int32.toNatClampNeg z16_)).toInt = 4) := by omega
              have o37 : 0 ≤ z16_.toInt ∧ (τ.2.1 34 (Int32.toNatClampNeg z16_)).toInt = 1 := by omega
              have A57_ : y50_ = caF (σ.1 29).toNatClampNeg (cor σ) (coJ σ) true (σ.2.1 31) (σ.2.1 37) (τ.2.2.1 41) (Int32.toNatClampNeg sv) base := by rw [ca_1 (T := cor σ) (by rw [EZ]; rw [Ek] at o36; exact o36) (by rw [EZ]; rw [Ek] at o37; exact o37), EZ, ← R21_]; simp only [ez43_, ey44_, f46_, ez47_, ey49_, ey50_, ez53_]; rw [En]; rfl
              have o38 : z53_.toInt ≤ (σ.2.1 12 (σ.1 29).toNatClampNeg).toInt := by omega
              have o39 : (12 - z53_.toInt).toNat < n2 := by omega
              exact ih2 τ51_ z53_ _ _ _ (show (12 - z53_.toInt).toNat < n2 from o39) hIτ51_ Xτ51_ o34 (by rw [A56_, A54_]; exact PlR.snoc A59_ hpl R13_) (by rw [A56_, A55_]; exact CaR.snoc A59_ hca A57_) o38 hP hD hS (lv_sub hl [3, 4, 5, 0] rfl)
        · have tc17_ := (show 0 ≤ z16_.toInt from ti_nlt rfl rg_11 c17_)
          refine lv_aload_n hx hb dX12_run_41 rfl (lv_at hl 1 rfl) ?_
          refine va_get (D := (dC, dI)) (ci := 12) (v := .ref (ad 34)) (C := RX12) (T := TX12) (N := 59) hx hb hts hin12 hown hK hP 0 rfl rfl 34 (Nat.le_of_ble_eq_true rfl) (ho (.fieldLink RX12 85 "NearEnoughModel" "cKind" "[I") (List.mem_of_getElem? (i := 3) rfl)) (fun _ h9 => h9) rfl dX12_run_42 ?_
          refine lv_iload hx hb dX12_run_45 (lv_at hl 0 rfl) ?_
          have o40 : 0 ≤ z16_.toInt := by omega
          have o41 : z16_.toInt < ((12 : Nat) : Int) := by omega
          refine va_iald hx hb hK hP 24 23 rfl rfl (ti_inx o40 o41) dX12_run_47 ?_
          refine lv_topi (fun z60_ ez60_ => ?_)
          have gz60_ : z60_.toInt = ((τ.2.1 34) (Int32.toNatClampNeg z16_)).toInt := congrArg Int32.toInt (ez60_.trans (congrFun ((congrArg (fun x9 : MS => x9.2.1 34) eτ14_).trans (tJ.trans rfl)) (Int32.toNatClampNeg z16_)))
          have bz60_ : 0 ≤ z60_.toInt ∧ z60_.toInt ≤ 6 := by rw [ez60_]; exact (hIτ14_.2 34) _ (cl_lt (n := 12) o40 o41)
          refine lv_iconst (v := 4) hx hb dX12_run_48 rg_31 ?_
          refine lv_icmp_ne (tgt := 88) hx hb dX12_run_49 rfl (fun c61_ => ?_) (fun c61_ => ?_)
          · have tc61_ := (show z60_.toInt ≠ 4 from ti_ne rfl rg_32 c61_)
            refine lv_aload_n hx hb dX12_run_88 rfl (lv_at hl 1 rfl) ?_
            refine lv_iload_n hx hb dX12_run_89 rfl (lv_at hl 4 rfl) ?_
            refine lv_aload_n hx hb dX12_run_90 rfl (lv_at hl 2 rfl) ?_
            refine lv_iload_n hx hb dX12_run_91 rfl (lv_at hl 3 rfl) ?_
            refine lv_aload_n hx hb dX12_run_92 rfl (lv_at hl 1 rfl) ?_
            refine va_get (D := (dC, dI)) (ci := 12) (v := .ref (ad 41)) (C := RX12) (T := TX12) (N := 59) hx hb hts hin12 hown hK hP 0 rfl rfl 41 (Nat.le_of_ble_eq_true rfl) (ho (.fieldLink RX12 101 "NearEnoughModel" "came" "[J") (List.mem_of_getElem? (i := 2) rfl)) (fun _ h9 => h9) rfl dX12_run_93 ?_
            refine lv_iload hx hb dX12_run_96 (lv_at hl 0 rfl) ?_
            refine zy_l (va_runV (As := [.int sv, .ref (ad 31), .int base, .ref (ad 41), .int z16_]) (rest := []) ⟨hx, hb, hml, hown, hts⟩ (n_work_nc l dC dI h ad cl H.size τ14_ sv base z16_ hIτ14_ ⟨o2, o3⟩ ⟨o4, o5⟩ (show base.toInt = 0 ∨ 12 ≤ base.toInt from o7) (ChOk.x HC Xτ14_ rg_492 rg_493) (WkOk.x (show WkOk σ sv from ⟨hR, o2, o6⟩) Xτ14_ rg_483 rg_490)) (cwV 5 hts gd_n_run_n_364_n_work_nc rfl rfl rfl dd_n_work_nc ⟨Nat.le_of_ble_eq_true rfl, Nat.le_of_ble_eq_true rfl⟩) (preV hP hK hD hE (ci := 12) (q0 := 0) rfl rfl) rfl rfl hl.1 rfl (lv_room (Nat.le_of_ble_eq_true rfl)) dX12_run_98 ⟨Nat.le_of_ble_eq_true rfl, Nat.le_of_ble_eq_true rfl⟩) hD hS hA (fun y63_ τ62_ H locs hq hP hD hS => ?_)
            obtain ⟨rfl, f64_⟩ := hq
            refine W.widen (k := 0) (n := 0) (Nat.le_of_ble_eq_true rfl) (Nat.le_of_ble_eq_true rfl) ?_
            have R65_ : y63_ = wkF (σ.1 29).toNatClampNeg (cor σ) true (σ.2.1 31) (τ.2.2.1 41) (Int32.toNatClampNeg sv) base z16_ := by rw [f64_, E291, Ecor1, Efr1, E41]
            refine lv_lstore (lv' := [(5, .long y63_), (4, .int z16_), (0, .ref h), (1, .ref (ad 31)), (2, .int base), (3, .int sv)]) hx hb dX12_run_101 hl (Nat.le_of_ble_eq_true rfl) rfl (fun ls hl => ?_)
            refine lv_aload_n hx hb dX12_run_103 rfl (lv_at hl 2 rfl) ?_
            refine va_get (D := (dC, dI)) (ci := 12) (v := .ref (ad 41)) (C := RX12) (T := TX12) (N := 59) hx hb hts hin12 hown hK hP 0 rfl rfl 41 (Nat.le_of_ble_eq_true rfl) (ho (.fieldLink RX12 101 "NearEnoughModel" "came" "[J") (List.mem_of_getElem? (i := 2) rfl)) (fun _ h9 => h9) rfl dX12_run_104 ?_
            refine lv_iload_n hx hb dX12_run_107 rfl (lv_at hl 5 rfl) ?_
            refine lv_iload hx hb dX12_run_108 (lv_at hl 1 rfl) ?_
            refine lv_if_lt (tgt := 151) hx hb dX12_run_110 rfl (fun c66_ => ?_) (fun c66_ => ?_)
            · have tc66_ := (show z16_.toInt < 0 from ti_lt rfl rg_11 c66_)
              refine lv_lload hx hb dX12_run_151 (lv_at hl 0 rfl) ?_
              refine va_last hx hb hK hP hD hS 29 28 rfl rfl (ti_inx o2 o8) dX12_run_153 (fun H locs hP hD hS => ?_)
              rw [wS41] at hP hD
              obtain ⟨τ67_, eτ67_⟩ : ∃ x9 : MS, x9 = sJ τ14_ 41 (vp_updL (τ14_.2.2.1 41) (Int32.toNatClampNeg sv) y63_) := ⟨_, rfl⟩
              have hP : va_P (dC, dI) vwCl (mW h ad cl τ67_) H := by rw [eτ67_]; exact hP
              have hD : va_D A (mW h ad cl τ67_) := by rw [eτ67_]; exact hD
              have hIτ67_ : Inv τ67_ := by rw [eτ67_]; exact (Inv.sJ hIτ14_)
              have Xτ67_ : eqx [42, 41] τ67_ σ := (eqx.eq eτ67_ (eqx.sJ Xτ14_ rg_494))
              have qq68_ : (τ67_.1 29).toInt = ((σ.1 29) : Int32).toInt := congrArg Int32.toInt ((show τ67_.1 29 = (σ.1 29) from (congrArg (fun x9 : MS => x9.1 29) eτ67_).trans (show τ14_.1 29 = (σ.1 29) from (congrArg (fun x9 : MS => x9.1 29) eτ14_).trans ((hxτ 29 rg_483).1))))
              obtain ⟨z69_, ez69_⟩ : ∃ y : Int32, y = sv + 1 := ⟨_, rfl⟩
              have o42 : -2147483648 ≤ sv.toInt + 1 := by omega
              have o43 : sv.toInt + 1 ≤ 2147483647 := by omega
              have tz69_ := ti_add ez69_ rfl rg_18 o42 o43
              refine lv_iinc (v := z69_) (lv' := [(3, .int z69_), (5, .long y63_), (4, .int z16_), (0, .ref h), (1, .ref (ad 31)), (2, .int base)]) hx hb dX12_run_154 hl (k := 5) rfl (iincp ez69_ rg_6) (Nat.le_of_ble_eq_true rfl) rfl (fun ls hl => ?_)
              refine lv_goto (tgt := 2) hx hb dX12_run_157 rfl ?_
              have A70_ : τ67_.2.2.1 42 = vp_updL (τ.2.2.1 42) (Int32.toNatClampNeg sv) y11_ := by rw [eτ67_, eτ14_]; rfl
              have A71_ : τ67_.2.2.1 41 = vp_updL (τ.2.2.1 41) (Int32.toNatClampNeg sv) y63_ := by rw [eτ67_, eτ14_]; rfl
              have o44 : z69_.toInt = sv.toInt + 1 := by omega
              have A72_ : (z69_ : Int32).toNatClampNeg = sv.toNatClampNeg + 1 := cl_succ o2 o44
              have o45 : 0 ≤ z69_.toInt := by omega
              have o46 : 0 ≤ (σ.2.1 12 (σ.1 29).toNatClampNeg).toInt := by omega
              have A75_ : StT (σ.1 29).toNatClampNeg (cor σ) (sv.toNatClampNeg + 1) := hR.stT.mono (by rw [← A72_]; have h8 := ti_cl (x := z69_) rfl o45; have h7 := ti_cl (x := σ.2.1 12 (σ.1 29).toNatClampNeg) rfl o46; omega)
              have o47 : ¬ (0 ≤ z16_.toInt ∧ (τ.2.1 34 (Int32.toNatClampNeg z16_)).toInt = 4) := by omega
              have o48 : ¬ (0 ≤ z16_.toInt ∧ (τ.2.1 34 (Int32.toNatClampNeg z16_)).toInt = 1) := by omega
              have A73_ : y63_ = caF (σ.1 29).toNatClampNeg (cor σ) (coJ σ) true (σ.2.1 31) (σ.2.1 37) (τ.2.2.1 41) (Int32.toNatClampNeg sv) base := by rw [ca_n (T := cor σ) (by rw [EZ]; rw [Ek] at o47; exact o47) (by rw [EZ]; rw [Ek] at o48; exact o48), EZ]; exact R65_
              have o49 : z69_.toInt ≤ (σ.2.1 12 (σ.1 29).toNatClampNeg).toInt := by omega
              have o50 : (12 - z69_.toInt).toNat < n2 := by omega
              exact ih2 τ67_ z69_ _ _ _ (show (12 - z69_.toInt).toNat < n2 from o50) hIτ67_ Xτ67_ o45 (by rw [A72_, A70_]; exact PlR.snoc A75_ hpl R13_) (by rw [A72_, A71_]; exact CaR.snoc A75_ hca A73_) o49 hP hD hS (lv_sub hl [3, 4, 5, 0] rfl)
            · have tc66_ := (show 0 ≤ z16_.toInt from ti_nlt rfl rg_11 c66_)
              refine lv_aload_n hx hb dX12_run_113 rfl (lv_at hl 2 rfl) ?_
              refine va_get (D := (dC, dI)) (ci := 12) (v := .ref (ad 34)) (C := RX12) (T := TX12) (N := 59) hx hb hts hin12 hown hK hP 0 rfl rfl 34 (Nat.le_of_ble_eq_true rfl) (ho (.fieldLink RX12 85 "NearEnoughModel" "cKind" "[I") (List.mem_of_getElem? (i := 3) rfl)) (fun _ h9 => h9) rfl dX12_run_114 ?_
              refine lv_iload hx hb dX12_run_117 (lv_at hl 1 rfl) ?_
              refine va_iald hx hb hK hP 24 23 rfl rfl (ti_inx o40 o41) dX12_run_119 ?_
              refine lv_topi (fun z76_ ez76_ => ?_)
              have qq77_ : z76_.toInt = z60_.toInt := congrArg Int32.toInt ((ez76_.trans (congrFun ((congrArg (fun x9 : MS => x9.2.1 34) eτ14_).trans (tJ.trans rfl)) (Int32.toNatClampNeg z16_))).trans ((ez60_.trans (congrFun ((congrArg (fun x9 : MS => x9.2.1 34) eτ14_).trans (tJ.trans rfl)) (Int32.toNatClampNeg z16_)))).symm)
              have gz76_ : z76_.toInt = ((τ.2.1 34) (Int32.toNatClampNeg z16_)).toInt := congrArg Int32.toInt (ez76_.trans (congrFun ((congrArg (fun x9 : MS => x9.2.1 34) eτ14_).trans (tJ.trans rfl)) (Int32.toNatClampNeg z16_)))
              have bz76_ : 0 ≤ z76_.toInt ∧ z76_.toInt ≤ 6 := by rw [ez76_]; exact (hIτ14_.2 34) _ (cl_lt (n := 12) o40 o41)
              refine lv_iconst (v := 1) hx hb dX12_run_120 rg_6 ?_
              refine lv_icmp_ne (tgt := 151) hx hb dX12_run_121 rfl (fun c78_ => ?_) (fun c78_ => ?_)
              · have tc78_ := (show z76_.toInt ≠ 1 from ti_ne rfl rg_18 c78_)
                refine lv_lload hx hb dX12_run_151 (lv_at hl 0 rfl) ?_
                refine va_last hx hb hK hP hD hS 29 28 rfl rfl (ti_inx o2 o8) dX12_run_153 (fun H locs hP hD hS => ?_)
                rw [wS41] at hP hD
                obtain ⟨τ79_, eτ79_⟩ : ∃ x9 : MS, x9 = sJ τ14_ 41 (vp_updL (τ14_.2.2.1 41) (Int32.toNatClampNeg sv) y63_) := ⟨_, rfl⟩
                have hP : va_P (dC, dI) vwCl (mW h ad cl τ79_) H := by rw [eτ79_]; exact hP
                have hD : va_D A (mW h ad cl τ79_) := by rw [eτ79_]; exact hD
                have hIτ79_ : Inv τ79_ := by rw [eτ79_]; exact (Inv.sJ hIτ14_)
                have Xτ79_ : eqx [42, 41] τ79_ σ := (eqx.eq eτ79_ (eqx.sJ Xτ14_ rg_494))
                have qq80_ : (τ79_.1 29).toInt = ((σ.1 29) : Int32).toInt := congrArg Int32.toInt ((show τ79_.1 29 = (σ.1 29) from (congrArg (fun x9 : MS => x9.1 29) eτ79_).trans (show τ14_.1 29 = (σ.1 29) from (congrArg (fun x9 : MS => x9.1 29) eτ14_).trans ((hxτ 29 rg_483).1))))
                obtain ⟨z81_, ez81_⟩ : ∃ y : Int32, y = sv + 1 := ⟨_, rfl⟩
                have o51 : -2147483648 ≤ sv.toInt + 1 := by omega
                have o52 : sv.toInt + 1 ≤ 2147483647 := by omega
                have tz81_ := ti_add ez81_ rfl rg_18 o51 o52
                refine lv_iinc (v := z81_) (lv' := [(3, .int z81_), (5, .long y63_), (4, .int z16_), (0, .ref h), (1, .ref (ad 31)), (2, .int base)]) hx hb dX12_run_154 hl (k := 5) rfl (iincp ez81_ rg_6) (Nat.le_of_ble_eq_true rfl) rfl (fun ls hl => ?_)
                refine lv_goto (tgt := 2) hx hb dX12_run_157 rfl ?_
                have A82_ : τ79_.2.2.1 42 = vp_updL (τ.2.2.1 42) (Int32.toNatClampNeg sv) y11_ := by rw [eτ79_, eτ14_]; rfl
                have A83_ : τ79_.2.2.1 41 = vp_updL (τ.2.2.1 41) (Int32.toNatClampNeg sv) y63_ := by rw [eτ79_, eτ14_]; rfl
                have o53 : z81_.toInt = sv.toInt + 1 := by omega
                have A84_ : (z81_ : Int32).toNatClampNeg = sv.toNatClampNeg + 1 := cl_succ o2 o53
                have o54 : 0 ≤ z81_.toInt := by omega
                have o55 : 0 ≤ (σ.2.1 12 (σ.1 29).toNatClampNeg).toInt := by omega
                have A87_ : StT (σ.1 29).toNatClampNeg (cor σ) (sv.toNatClampNeg + 1) := hR.stT.mono (by rw [← A84_]; have h8 := ti_cl (x := z81_) rfl o54; have h7 := ti_cl (x := σ.2.1 12 (σ.1 29).toNatClampNeg) rfl o55; omega)
                have o56 : ¬ (0 ≤ z16_.toInt ∧ (τ.2.1 34 (Int32.toNatClampNeg z16_)).toInt = 4) := by omega
                have o57 : ¬ (0 ≤ z16_.toInt ∧ (τ.2.1 34 (Int32.toNatClampNeg z16_)).toInt = 1) := by omega
                have A85_ : y63_ = caF (σ.1 29).toNatClampNeg (cor σ) (coJ σ) true (σ.2.1 31) (σ.2.1 37) (τ.2.2.1 41) (Int32.toNatClampNeg sv) base := by rw [ca_n (T := cor σ) (by rw [EZ]; rw [Ek] at o56; exact o56) (by rw [EZ]; rw [Ek] at o57; exact o57), EZ]; exact R65_
                have o58 : z81_.toInt ≤ (σ.2.1 12 (σ.1 29).toNatClampNeg).toInt := by omega
                have o59 : (12 - z81_.toInt).toNat < n2 := by omega
                exact ih2 τ79_ z81_ _ _ _ (show (12 - z81_.toInt).toNat < n2 from o59) hIτ79_ Xτ79_ o54 (by rw [A84_, A82_]; exact PlR.snoc A87_ hpl R13_) (by rw [A84_, A83_]; exact CaR.snoc A87_ hca A85_) o58 hP hD hS (lv_sub hl [3, 4, 5, 0] rfl)
              · have tc78_ := (show z76_.toInt = 1 from ti_eq rfl rg_18 c78_)
                refine lv_lload hx hb dX12_run_124 (lv_at hl 0 rfl) ?_
                refine lv_lconst (v := 1) hx hb dX12_run_126 (by decide) ?_
                refine lv_aload_n hx hb dX12_run_127 rfl (lv_at hl 2 rfl) ?_
                refine va_get (D := (dC, dI)) (ci := 12) (v := .ref (ad 35)) (C := RX12) (T := TX12) (N := 59) hx hb hts hin12 hown hK hP 0 rfl rfl 35 (Nat.le_of_ble_eq_true rfl) (ho (.fieldLink RX12 88 "NearEnoughModel" "cN" "[I") (List.mem_of_getElem? (i := 4) rfl)) (fun _ h9 => h9) rfl dX12_run_128 ?_
                refine lv_iload hx hb dX12_run_131 (lv_at hl 1 rfl) ?_
                refine va_iald hx hb hK hP 25 24 rfl rfl (ti_inx o40 o41) dX12_run_133 ?_
                refine lv_topi (fun z88_ ez88_ => ?_)
                have gz88_ : z88_.toInt = ((τ.2.1 35) (Int32.toNatClampNeg z16_)).toInt := congrArg Int32.toInt (ez88_.trans (congrFun ((congrArg (fun x9 : MS => x9.2.1 35) eτ14_).trans (tJ.trans rfl)) (Int32.toNatClampNeg z16_)))
                have bz88_ : 0 ≤ z88_.toInt ∧ z88_.toInt ≤ 99 := by rw [ez88_]; exact (hIτ14_.2 35) _ (cl_lt (n := 12) o40 o41)
                refine lv_lshl hx hb dX12_run_134 rfl ?_
                refine lv_topl (fun y89_ ey89_ => ?_)
                have o60 : 0 ≤ z88_.toInt := by omega
                have o61 : z88_.toInt ≤ 99 := by omega
                refine zs_l (va_runS (As := [.long y63_, .long y89_]) (rest := [.int sv, .ref (ad 41)]) ⟨hx, hb, hml, hown, hts⟩ (n_floorOver l dC dI y63_ y89_ (by rw [ey89_]; exact shF_ne o60 o61) H.size) (va_cwS 2 hts gd_n_run_n_337_n_floorOver rfl rfl rfl dd_n_floorOver ⟨Nat.le_of_ble_eq_true rfl, Nat.le_of_ble_eq_true rfl⟩) (preS (A := A) empP (hK.sub (tys' := []) [] rfl) empD hE) rfl rfl hl.1 rfl (lv_room (Nat.le_of_ble_eq_true rfl)) dX12_run_135 ⟨Nat.le_of_ble_eq_true rfl, Nat.le_of_ble_eq_true rfl⟩) hP hD hS hA (fun y90_ H locs hq hP hD hS => ?_)
                have f91_ := hq
                refine W.widen (k := 0) (n := 0) (Nat.le_of_ble_eq_true rfl) (Nat.le_of_ble_eq_true rfl) ?_
                refine lv_lconst (v := 1) hx hb dX12_run_138 (by decide) ?_
                refine lv_aload_n hx hb dX12_run_139 rfl (lv_at hl 2 rfl) ?_
                refine va_get (D := (dC, dI)) (ci := 12) (v := .ref (ad 35)) (C := RX12) (T := TX12) (N := 59) hx hb hts hin12 hown hK hP 0 rfl rfl 35 (Nat.le_of_ble_eq_true rfl) (ho (.fieldLink RX12 88 "NearEnoughModel" "cN" "[I") (List.mem_of_getElem? (i := 4) rfl)) (fun _ h9 => h9) rfl dX12_run_140 ?_
                refine lv_iload hx hb dX12_run_143 (lv_at hl 1 rfl) ?_
                refine va_iald hx hb hK hP 25 24 rfl rfl (ti_inx o40 o41) dX12_run_145 ?_
                refine lv_topi (fun z92_ ez92_ => ?_)
                have qq93_ : z92_.toInt = z88_.toInt := congrArg Int32.toInt ((ez92_.trans (congrFun ((congrArg (fun x9 : MS => x9.2.1 35) eτ14_).trans (tJ.trans rfl)) (Int32.toNatClampNeg z16_))).trans ((ez88_.trans (congrFun ((congrArg (fun x9 : MS => x9.2.1 35) eτ14_).trans (tJ.trans rfl)) (Int32.toNatClampNeg z16_)))).symm)
                have gz92_ : z92_.toInt = ((τ.2.1 35) (Int32.toNatClampNeg z16_)).toInt := congrArg Int32.toInt (ez92_.trans (congrFun ((congrArg (fun x9 : MS => x9.2.1 35) eτ14_).trans (tJ.trans rfl)) (Int32.toNatClampNeg z16_)))
                have bz92_ : 0 ≤ z92_.toInt ∧ z92_.toInt ≤ 99 := by rw [ez92_]; exact (hIτ14_.2 35) _ (cl_lt (n := 12) o40 o41)
                refine lv_lshl hx hb dX12_run_146 rfl ?_
                refine lv_topl (fun y94_ ey94_ => ?_)
                refine lv_lmul hx hb dX12_run_147 ?_
                refine lv_topl (fun y95_ ey95_ => ?_)
                refine lv_goto (tgt := 153) hx hb dX12_run_148 rfl ?_
                refine va_last hx hb hK hP hD hS 29 28 rfl rfl (ti_inx o2 o8) dX12_run_153 (fun H locs hP hD hS => ?_)
                rw [wS41] at hP hD
                obtain ⟨τ96_, eτ96_⟩ : ∃ x9 : MS, x9 = sJ τ14_ 41 (vp_updL (τ14_.2.2.1 41) (Int32.toNatClampNeg sv) y95_) := ⟨_, rfl⟩
                have hP : va_P (dC, dI) vwCl (mW h ad cl τ96_) H := by rw [eτ96_]; exact hP
                have hD : va_D A (mW h ad cl τ96_) := by rw [eτ96_]; exact hD
                have hIτ96_ : Inv τ96_ := by rw [eτ96_]; exact (Inv.sJ hIτ14_)
                have Xτ96_ : eqx [42, 41] τ96_ σ := (eqx.eq eτ96_ (eqx.sJ Xτ14_ rg_494))
                have qq97_ : (τ96_.1 29).toInt = ((σ.1 29) : Int32).toInt := congrArg Int32.toInt ((show τ96_.1 29 = (σ.1 29) from (congrArg (fun x9 : MS => x9.1 29) eτ96_).trans (show τ14_.1 29 = (σ.1 29) from (congrArg (fun x9 : MS => x9.1 29) eτ14_).trans ((hxτ 29 rg_483).1))))
                obtain ⟨z98_, ez98_⟩ : ∃ y : Int32, y = sv + 1 := ⟨_, rfl⟩
                have o62 : -2147483648 ≤ sv.toInt + 1 := by omega
                have o63 : sv.toInt + 1 ≤ 2147483647 := by omega
                have tz98_ := ti_add ez98_ rfl rg_18 o62 o63
                refine lv_iinc (v := z98_) (lv' := [(3, .int z98_), (5, .long y63_), (4, .int z16_), (0, .ref h), (1, .ref (ad 31)), (2, .int base)]) hx hb dX12_run_154 hl (k := 5) rfl (iincp ez98_ rg_6) (Nat.le_of_ble_eq_true rfl) rfl (fun ls hl => ?_)
                refine lv_goto (tgt := 2) hx hb dX12_run_157 rfl ?_
                have A99_ : τ96_.2.2.1 42 = vp_updL (τ.2.2.1 42) (Int32.toNatClampNeg sv) y11_ := by rw [eτ96_, eτ14_]; rfl
                have A100_ : τ96_.2.2.1 41 = vp_updL (τ.2.2.1 41) (Int32.toNatClampNeg sv) y95_ := by rw [eτ96_, eτ14_]; rfl
                have o64 : z98_.toInt = sv.toInt + 1 := by omega
                have A101_ : (z98_ : Int32).toNatClampNeg = sv.toNatClampNeg + 1 := cl_succ o2 o64
                have o65 : 0 ≤ z98_.toInt := by omega
                have o66 : 0 ≤ (σ.2.1 12 (σ.1 29).toNatClampNeg).toInt := by omega
                have A104_ : StT (σ.1 29).toNatClampNeg (cor σ) (sv.toNatClampNeg + 1) := hR.stT.mono (by rw [← A101_]; have h8 := ti_cl (x := z98_) rfl o65; have h7 := ti_cl (x := σ.2.1 12 (σ.1 29).toNatClampNeg) rfl o66; omega)
                have o67 : ¬ (0 ≤ z16_.toInt ∧ (τ.2.1 34 (Int32.toNatClampNeg z16_)).toInt = 4) := by omega
                have o68 : 0 ≤ z16_.toInt ∧ (τ.2.1 34 (Int32.toNatClampNeg z16_)).toInt = 1 := by omega
                have A102_ : y95_ = caF (σ.1 29).toNatClampNeg (cor σ) (coJ σ) true (σ.2.1 31) (σ.2.1 37) (τ.2.2.1 41) (Int32.toNatClampNeg sv) base := by rw [ca_1 (T := cor σ) (by rw [EZ]; rw [Ek] at o67; exact o67) (by rw [EZ]; rw [Ek] at o68; exact o68), EZ, ← R65_]; simp only [ez88_, ey89_, f91_, ez92_, ey94_, ey95_, ez98_]; rw [En]; rfl
                have o69 : z98_.toInt ≤ (σ.2.1 12 (σ.1 29).toNatClampNeg).toInt := by omega
                have o70 : (12 - z98_.toInt).toNat < n2 := by omega
                exact ih2 τ96_ z98_ _ _ _ (show (12 - z98_.toInt).toNat < n2 from o70) hIτ96_ Xτ96_ o65 (by rw [A101_, A99_]; exact PlR.snoc A104_ hpl R13_) (by rw [A101_, A100_]; exact CaR.snoc A104_ hca A102_) o69 hP hD hS (lv_sub hl [3, 4, 5, 0] rfl)
          · have tc61_ := (show z60_.toInt = 4 from ti_eq rfl rg_32 c61_)
            refine lv_aload_n hx hb dX12_run_52 rfl (lv_at hl 1 rfl) ?_
            refine va_get (D := (dC, dI)) (ci := 12) (v := .ref (ad 41)) (C := RX12) (T := TX12) (N := 59) hx hb hts hin12 hown hK hP 0 rfl rfl 41 (Nat.le_of_ble_eq_true rfl) (ho (.fieldLink RX12 101 "NearEnoughModel" "came" "[J") (List.mem_of_getElem? (i := 2) rfl)) (fun _ h9 => h9) rfl dX12_run_53 ?_
            refine lv_iload_n hx hb dX12_run_56 rfl (lv_at hl 4 rfl) ?_
            refine lv_aload_n hx hb dX12_run_57 rfl (lv_at hl 1 rfl) ?_
            refine va_get (D := (dC, dI)) (ci := 12) (v := .ref (ad 27)) (C := RX12) (T := TX12) (N := 59) hx hb hts hin12 hown hK hP 0 rfl rfl 27 (Nat.le_of_ble_eq_true rfl) (ho (.fieldLink RX12 70 "NearEnoughModel" "sLeast" "[J") (List.mem_of_getElem? (i := 5) rfl)) (fun _ h9 => h9) rfl dX12_run_58 ?_
            refine lv_aload_n hx hb dX12_run_61 rfl (lv_at hl 1 rfl) ?_
            refine lv_iload_n hx hb dX12_run_62 rfl (lv_at hl 4 rfl) ?_
            refine zy_i (va_runV (As := [.int sv]) (rest := [.ref (ad 27), .int sv, .ref (ad 41)]) ⟨hx, hb, hml, hown, hts⟩ (n_at0 l dC dI h ad cl H.size τ14_ sv hIτ14_ ⟨o2, o3⟩) (cwV 1 hts gd_n_run_n_331_n_at0 rfl rfl rfl dd_n_at0 ⟨Nat.le_of_ble_eq_true rfl, Nat.le_of_ble_eq_true rfl⟩) (preV hP hK hD hE (ci := 12) (q0 := 0) rfl rfl) rfl rfl hl.1 rfl (lv_room (Nat.le_of_ble_eq_true rfl)) dX12_run_63 ⟨Nat.le_of_ble_eq_true rfl, Nat.le_of_ble_eq_true rfl⟩) hD hS hA (fun z106_ τ105_ H locs hq hP hD hS => ?_)
            obtain ⟨rfl, f107_⟩ := hq
            refine W.widen (k := 0) (n := 0) (Nat.le_of_ble_eq_true rfl) (Nat.le_of_ble_eq_true rfl) ?_
            have o71 : z106_.toInt = 12 * (σ.1 29).toInt + sv.toInt := by omega
            have Xz106_ : z106_.toNatClampNeg = 12 * (σ.1 29).toNatClampNeg + sv.toNatClampNeg := at0x (hI.1 29).1 o2 o71
            have o72 : 0 ≤ z106_.toInt := by omega
            have o73 : z106_.toInt < ((24 : Nat) : Int) := by omega
            refine va_lald hx hb hK hP 19 18 rfl rfl (ti_inx o72 o73) dX12_run_66 ?_
            refine lv_topl (fun y108_ ey108_ => ?_)
            refine lv_aload_n hx hb dX12_run_67 rfl (lv_at hl 1 rfl) ?_
            refine va_get (D := (dC, dI)) (ci := 12) (v := .ref (ad 28)) (C := RX12) (T := TX12) (N := 59) hx hb hts hin12 hown hK hP 0 rfl rfl 28 (Nat.le_of_ble_eq_true rfl) (ho (.fieldLink RX12 73 "NearEnoughModel" "sMost" "[J") (List.mem_of_getElem? (i := 6) rfl)) (fun _ h9 => h9) rfl dX12_run_68 ?_
            refine lv_aload_n hx hb dX12_run_71 rfl (lv_at hl 1 rfl) ?_
            refine lv_iload_n hx hb dX12_run_72 rfl (lv_at hl 4 rfl) ?_
            refine zy_i (va_runV (As := [.int sv]) (rest := [.ref (ad 28), .long y108_, .int sv, .ref (ad 41)]) ⟨hx, hb, hml, hown, hts⟩ (n_at0 l dC dI h ad cl H.size τ14_ sv hIτ14_ ⟨o2, o3⟩) (cwV 1 hts gd_n_run_n_331_n_at0 rfl rfl rfl dd_n_at0 ⟨Nat.le_of_ble_eq_true rfl, Nat.le_of_ble_eq_true rfl⟩) (preV hP hK hD hE (ci := 12) (q0 := 0) rfl rfl) rfl rfl hl.1 rfl (lv_room (Nat.le_of_ble_eq_true rfl)) dX12_run_73 ⟨Nat.le_of_ble_eq_true rfl, Nat.le_of_ble_eq_true rfl⟩) hD hS hA (fun z110_ τ109_ H locs hq hP hD hS => ?_)
            obtain ⟨rfl, f111_⟩ := hq
            refine W.widen (k := 0) (n := 0) (Nat.le_of_ble_eq_true rfl) (Nat.le_of_ble_eq_true rfl) ?_
            have o74 : z110_.toInt = 12 * (σ.1 29).toInt + sv.toInt := by omega
            have Xz110_ : z110_.toNatClampNeg = 12 * (σ.1 29).toNatClampNeg + sv.toNatClampNeg := at0x (hI.1 29).1 o2 o74
            have o75 : 0 ≤ z110_.toInt := by omega
            have o76 : z110_.toInt < ((24 : Nat) : Int) := by omega
            refine va_lald hx hb hK hP 20 19 rfl rfl (ti_inx o75 o76) dX12_run_76 ?_
            refine lv_topl (fun y112_ ey112_ => ?_)
            refine lv_ladd hx hb dX12_run_77 ?_
            refine lv_topl (fun y113_ ey113_ => ?_)
            refine lv_ldc2 (v := (2)) hx hb hown (ho (.constantLong RX12 368 (2)) (List.mem_of_getElem? (i := 7) rfl)) dX12_run_78 ?_
            refine zs_l (va_runS (As := [.long y113_, .long 2]) (rest := [.int sv, .ref (ad 41)]) ⟨hx, hb, hml, hown, hts⟩ (n_floorOver l dC dI y113_ 2 (by decide) H.size) (va_cwS 2 hts gd_n_run_n_337_n_floorOver rfl rfl rfl dd_n_floorOver ⟨Nat.le_of_ble_eq_true rfl, Nat.le_of_ble_eq_true rfl⟩) (preS (A := A) empP (hK.sub (tys' := []) [] rfl) empD hE) rfl rfl hl.1 rfl (lv_room (Nat.le_of_ble_eq_true rfl)) dX12_run_81 ⟨Nat.le_of_ble_eq_true rfl, Nat.le_of_ble_eq_true rfl⟩) hP hD hS hA (fun y114_ H locs hq hP hD hS => ?_)
            have f115_ := hq
            refine W.widen (k := 0) (n := 0) (Nat.le_of_ble_eq_true rfl) (Nat.le_of_ble_eq_true rfl) ?_
            refine va_last hx hb hK hP hD hS 29 28 rfl rfl (ti_inx o2 o8) dX12_run_84 (fun H locs hP hD hS => ?_)
            rw [wS41] at hP hD
            obtain ⟨τ116_, eτ116_⟩ : ∃ x9 : MS, x9 = sJ τ14_ 41 (vp_updL (τ14_.2.2.1 41) (Int32.toNatClampNeg sv) y114_) := ⟨_, rfl⟩
            have hP : va_P (dC, dI) vwCl (mW h ad cl τ116_) H := by rw [eτ116_]; exact hP
            have hD : va_D A (mW h ad cl τ116_) := by rw [eτ116_]; exact hD
            have hIτ116_ : Inv τ116_ := by rw [eτ116_]; exact (Inv.sJ hIτ14_)
            have Xτ116_ : eqx [42, 41] τ116_ σ := (eqx.eq eτ116_ (eqx.sJ Xτ14_ rg_494))
            have qq117_ : (τ116_.1 29).toInt = ((σ.1 29) : Int32).toInt := congrArg Int32.toInt ((show τ116_.1 29 = (σ.1 29) from (congrArg (fun x9 : MS => x9.1 29) eτ116_).trans (show τ14_.1 29 = (σ.1 29) from (congrArg (fun x9 : MS => x9.1 29) eτ14_).trans ((hxτ 29 rg_483).1))))
            refine lv_goto (tgt := 154) hx hb dX12_run_85 rfl ?_
            obtain ⟨z118_, ez118_⟩ : ∃ y : Int32, y = sv + 1 := ⟨_, rfl⟩
            have o77 : -2147483648 ≤ sv.toInt + 1 := by omega
            have o78 : sv.toInt + 1 ≤ 2147483647 := by omega
            have tz118_ := ti_add ez118_ rfl rg_18 o77 o78
            refine lv_iinc (v := z118_) (lv' := [(3, .int z118_), (4, .int z16_), (0, .ref h), (1, .ref (ad 31)), (2, .int base)]) hx hb dX12_run_154 hl (k := 4) rfl (iincp ez118_ rg_6) (Nat.le_of_ble_eq_true rfl) rfl (fun ls hl => ?_)
            refine lv_goto (tgt := 2) hx hb dX12_run_157 rfl ?_
            have A119_ : τ116_.2.2.1 42 = vp_updL (τ.2.2.1 42) (Int32.toNatClampNeg sv) y11_ := by rw [eτ116_, eτ14_]; rfl
            have A120_ : τ116_.2.2.1 41 = vp_updL (τ.2.2.1 41) (Int32.toNatClampNeg sv) y114_ := by rw [eτ116_, eτ14_]; rfl
            have o79 : z118_.toInt = sv.toInt + 1 := by omega
            have A121_ : (z118_ : Int32).toNatClampNeg = sv.toNatClampNeg + 1 := cl_succ o2 o79
            have o80 : 0 ≤ z118_.toInt := by omega
            have o81 : 0 ≤ (σ.2.1 12 (σ.1 29).toNatClampNeg).toInt := by omega
            have A124_ : StT (σ.1 29).toNatClampNeg (cor σ) (sv.toNatClampNeg + 1) := hR.stT.mono (by rw [← A121_]; have h8 := ti_cl (x := z118_) rfl o80; have h7 := ti_cl (x := σ.2.1 12 (σ.1 29).toNatClampNeg) rfl o81; omega)
            have o82 : 0 ≤ z16_.toInt ∧ (τ.2.1 34 (Int32.toNatClampNeg z16_)).toInt = 4 := by omega
            have A122_ : y114_ = caF (σ.1 29).toNatClampNeg (cor σ) (coJ σ) true (σ.2.1 31) (σ.2.1 37) (τ.2.2.1 41) (Int32.toNatClampNeg sv) base := by rw [ca_4 (T := cor σ) (by rw [EZ]; rw [Ek] at o82; exact o82)]; simp only [f115_, ey113_, ey108_, ey112_]; rw [Xz106_, Xz110_, (Xτ14_ 27 rg_495).2.2.1, (Xτ14_ 28 rg_496).2.2.1]; rfl
            have o83 : z118_.toInt ≤ (σ.2.1 12 (σ.1 29).toNatClampNeg).toInt := by omega
            have o84 : (12 - z118_.toInt).toNat < n2 := by omega
            exact ih2 τ116_ z118_ _ _ _ (show (12 - z118_.toInt).toNat < n2 from o84) hIτ116_ Xτ116_ o80 (by rw [A121_, A119_]; exact PlR.snoc A124_ hpl R13_) (by rw [A121_, A120_]; exact CaR.snoc A124_ hca A122_) o83 hP hD hS (lv_sub hl [2, 3, 4, 0] rfl)
  refine zH (A := A) (ws := mW h ad cl σ) (fun H hP hS => ?_) hP
  have bσ_29 : 0 ≤ (σ.1 29).toInt ∧ (σ.1 29).toInt ≤ 1 := hI.1 29
  refine lv_iconst (v := 0) hx hb dX12_run_0 rg_0 ?_
  refine lv_istore_n (lv' := [(3, .int 0), (0, .ref h), (1, .ref (ad 31)), (2, .int base)]) hx hb dX12_run_1 rfl hl (Nat.le_of_ble_eq_true rfl) rfl (fun ls hl => ?_)
  exact pt_2 _ σ 0 _ _ _ (Nat.lt_succ_self _) hI eqx.rf rg_56 PlR.z CaR.z (show (0 : Int32).toInt ≤ (σ.2.1 12 (σ.1 29).toNatClampNeg).toInt from by rw [rg_11]; exact hn12.1) hP hD hS (lv_sub hl [1, 2, 3, 0] rfl)
def ow_n_run_c : List Cond := [.fieldLink RX12 104 "NearEnoughModel" "plain" "[J", .fieldLink RX12 94 "NearEnoughModel" "on" "[I", .fieldLink RX12 101 "NearEnoughModel" "came" "[J", .fieldLink RX12 85 "NearEnoughModel" "cKind" "[I", .fieldLink RX12 88 "NearEnoughModel" "cN" "[I", .fieldLink RX12 70 "NearEnoughModel" "sLeast" "[J", .fieldLink RX12 73 "NearEnoughModel" "sMost" "[J", .constantLong RX12 368 (2)]
def vs_n_run_c : List Cond := .code yX12_run cX12_run 7 none :: (ow_n_run_c ++ (([.methodLink RX12 321 yX12_steps, .instanceMethod yX12_steps, .selects RX12 yX12_steps yX12_steps, .initialized RX12] : List Cond) ++ (vs_n_steps ++ (([.methodLink RX12 364 yX12_work, .instanceMethod yX12_work, .selects RX12 yX12_work yX12_work, .initialized RX12] : List Cond) ++ (vs_n_work_cp ++ (vs_n_work_cc ++ (([.methodLink RX12 337 yX12_floorOver, .static yX12_floorOver, .initialized yX12_floorOver.cls] : List Cond) ++ (vs_n_floorOver ++ (([.methodLink RX12 331 yX12_at0, .instanceMethod yX12_at0, .selects RX12 yX12_at0 yX12_at0, .initialized RX12] : List Cond) ++ (vs_n_at0 ++ (wsX120)))))))))))
theorem vg_n_run_c : vs_n_run_c.all goodWord = true := by decide +kernel
theorem dd_n_run_c : yX12_run.cls = RX12 ∧ yX12_run.cls ≠ "java/lang/invoke/MethodHandle" ∧ yX12_run.cls ≠ "java/lang/invoke/VarHandle" ∧ (parseMethodDescriptor yX12_run.desc).map (fun d => d.parameters.length) = some 2 := by decide +kernel
def rm_n_run_c : Room := { frames := 4, cells := 0, slots := 0, locals := 112 }
theorem gd_n_run_c_321_n_steps : GoodIn vs_n_run_c (wsV RX12 321 RX12 yX12_steps vs_n_steps) := goodIn_app (goodIn_sub (fun w h => (List.mem_cons_of_mem _ (List.mem_append_right _ (List.mem_append_left _ h)))) (by decide +kernel)) (goodIn_sub (fun w h => (List.mem_cons_of_mem _ (List.mem_append_right _ (List.mem_append_right _ (List.mem_append_left _ h))))) vg_n_steps)
theorem gd_n_run_c_364_n_work_cp : GoodIn vs_n_run_c (wsV RX12 364 RX12 yX12_work vs_n_work_cp) := goodIn_app (goodIn_sub (fun w h => (List.mem_cons_of_mem _ (List.mem_append_right _ (List.mem_append_right _ (List.mem_append_right _ (List.mem_append_left _ h)))))) (by decide +kernel)) (goodIn_sub (fun w h => (List.mem_cons_of_mem _ (List.mem_append_right _ (List.mem_append_right _ (List.mem_append_right _ (List.mem_append_right _ (List.mem_append_left _ h))))))) vg_n_work_cp)
theorem gd_n_run_c_364_n_work_cc : GoodIn vs_n_run_c (wsV RX12 364 RX12 yX12_work vs_n_work_cc) := goodIn_app (goodIn_sub (fun w h => (List.mem_cons_of_mem _ (List.mem_append_right _ (List.mem_append_right _ (List.mem_append_right _ (List.mem_append_left _ h)))))) (by decide +kernel)) (goodIn_sub (fun w h => (List.mem_cons_of_mem _ (List.mem_append_right _ (List.mem_append_right _ (List.mem_append_right _ (List.mem_append_right _ (List.mem_append_right _ (List.mem_append_left _ h)))))))) vg_n_work_cc)
theorem gd_n_run_c_337_n_floorOver : GoodIn vs_n_run_c (va_wsS RX12 337 yX12_floorOver vs_n_floorOver) := goodIn_app (goodIn_sub (fun w h => (List.mem_cons_of_mem _ (List.mem_append_right _ (List.mem_append_right _ (List.mem_append_right _ (List.mem_append_right _ (List.mem_append_right _ (List.mem_append_right _ (List.mem_append_left _ h))))))))) (by decide +kernel)) (goodIn_sub (fun w h => (List.mem_cons_of_mem _ (List.mem_append_right _ (List.mem_append_right _ (List.mem_append_right _ (List.mem_append_right _ (List.mem_append_right _ (List.mem_append_right _ (List.mem_append_right _ (List.mem_append_left _ h)))))))))) vg_n_floorOver)
theorem gd_n_run_c_331_n_at0 : GoodIn vs_n_run_c (wsV RX12 331 RX12 yX12_at0 vs_n_at0) := goodIn_app (goodIn_sub (fun w h => (List.mem_cons_of_mem _ (List.mem_append_right _ (List.mem_append_right _ (List.mem_append_right _ (List.mem_append_right _ (List.mem_append_right _ (List.mem_append_right _ (List.mem_append_right _ (List.mem_append_right _ (List.mem_append_left _ h))))))))))) (by decide +kernel)) (goodIn_sub (fun w h => (List.mem_cons_of_mem _ (List.mem_append_right _ (List.mem_append_right _ (List.mem_append_right _ (List.mem_append_right _ (List.mem_append_right _ (List.mem_append_right _ (List.mem_append_right _ (List.mem_append_right _ (List.mem_append_right _ (List.mem_append_left _ h)))))))))))) vg_n_at0)
set_option maxHeartbeats 4000000 in
set_option maxRecDepth 100000 in
theorem n_run_c (l : Launch) (dC : Nat → ClassId) (dI : Nat → Nat → Nat) (h : Nat) (ad : Nat → Nat) (cl : Nat → ClassId) (sz : Nat) (σ : MS) (base : Int32) (hI : Inv σ) (hba : 0 ≤ base.toInt ∧ base.toInt ≤ 0) (hbm : base.toInt = 0 ∨ 12 ≤ base.toInt) (hR : RelP σ (σ.1 29).toNatClampNeg) (hon : OnOk σ) : Met l yX12_run vs_n_run_c rm_n_run_c (va_Pc [.ref h, .ref (ad 32), .int base] (wSt dC dI (mW h ad cl σ) (mT cl) sz)) (va_Qv (fun (τ : MS) => Inv τ ∧ eqx [42, 41] τ σ ∧ PlR (σ.1 29).toNatClampNeg (cor σ) false (σ.2.1 32) base (σ.2.1 12 (σ.1 29).toNatClampNeg).toNatClampNeg (τ.2.2.1 42) ∧ CaR (σ.1 29).toNatClampNeg (cor σ) (coJ σ) false (σ.2.1 32) (σ.2.1 37) base (σ.2.1 12 (σ.1 29).toNatClampNeg).toNatClampNeg (τ.2.2.1 41)) (fun (τ : MS) => wEn dC dI (va_A (mW h ad cl σ) sz) (mW h ad cl τ) []) (va_A (mW h ad cl σ) sz)) 0 0 (va_A (mW h ad cl σ) sz) := by
  refine Met.ofW (cc := cX12_run) (maxL := 7) (ret := none) (by decide) rfl ?_
  intro p e s m args below meth c s₁ B hml hv
  obtain ⟨rfl, hsz, hP, hK, hD0, hE⟩ := hv
  have hx := B.exec
  have hb := B.bytes
  have hr := B.returns
  have hts := atoms_spec (ws := vs_n_run_c) B.pre
  have hown : s.vm.findClass RX12 = some m.cls := findClass_of_methodNamed B.named
  have hlocks := B.notSynchronized
  subst hsz
  have hD := hD0.self (sz := s.heap.size)
  generalize hAe : va_A (mW h ad cl σ) s.heap.size = A at hD ⊢
  have hA : ∀ q : Nat, s.heap.size ≤ q → A q := fun q h => by rw [← hAe]; exact Or.inr h
  have hl := lv_entry ([.ref h, .ref (ad 32), .int base]) (n := 7) (Nat.le_of_ble_eq_true rfl)
  rw [lg_entry_eq]
  generalize (lg_sl ([.ref h, .ref (ad 32), .int base]) ++ List.replicate (7 - (lg_sl ([.ref h, .ref (ad 32), .int base])).length) Slot.unset).toArray = ls at hl ⊢
  have hl : lv_has ls 7 [(0, .ref h), (1, .ref (ad 32)), (2, .int base)] := hl
  have ho := fun w (h : w ∈ ow_n_run_c) => hts w (List.mem_cons_of_mem _ (List.mem_append_left _ h))
  have hin12 : ∀ w ∈ u_ws RX12 TX12 59, w ∈ vs_n_run_c := fun w h => (List.mem_cons_of_mem _ (List.mem_append_right _ (List.mem_append_right _ (List.mem_append_right _ (List.mem_append_right _ (List.mem_append_right _ (List.mem_append_right _ (List.mem_append_right _ (List.mem_append_right _ (List.mem_append_right _ (List.mem_append_right _ h)))))))))))
  refine zQ (fun Q hQ => ?_)
  have hn12 : 0 ≤ (σ.2.1 12 (σ.1 29).toNatClampNeg).toInt ∧ (σ.2.1 12 (σ.1 29).toNatClampNeg).toInt ≤ 12 := hI.2 12 _ (cl_lt (n := 2) (hI.1 29).1 (Int.lt_of_le_of_lt (hI.1 29).2 (by decide)))
  have pt_2 : ∀ (n2 : Nat) (τ : MS) (sv : Int32) (H : Heap) (locs : List Loc) (ls : Array Slot), (12 - sv.toInt).toNat < n2 → (Inv τ) → (eqx [42, 41] τ σ) → (0 ≤ sv.toInt) → (PlR (σ.1 29).toNatClampNeg (cor σ) false (σ.2.1 32) base sv.toNatClampNeg (τ.2.2.1 42)) → (CaR (σ.1 29).toNatClampNeg (cor σ) (coJ σ) false (σ.2.1 32) (σ.2.1 37) base sv.toNatClampNeg (τ.2.2.1 41)) → (sv.toInt ≤ (σ.2.1 12 (σ.1 29).toNatClampNeg).toInt) → va_P (dC, dI) vwCl (mW h ad cl τ) H → va_D A (mW h ad cl τ) → va_S A s.heap H locs → lv_has ls 7 [(0, .ref h), (1, .ref (ad 32)), (2, .int base), (3, .int sv)] → W p l e (headSpec vs_n_run_c rm_n_run_c).room s m #[Value.ref h, Value.ref (ad 32), Value.int base] below meth c H locs 0 0 Q (F0 m 2 ls []) := by
    intro n2
    induction n2 with
    | zero => intro τ sv H locs ls hn2 hIτ hxτ hs0 hpl hca hsn hP hD hS hl; exact absurd hn2 (Nat.not_lt_zero _)
    | succ n2 ih2 =>
      intro τ sv H locs ls hn2 hIτ hxτ hs0 hpl hca hsn hP hD hS hl
      have bτ_29 : 0 ≤ (τ.1 29).toInt ∧ (τ.1 29).toInt ≤ 1 := hIτ.1 29
      have qq1_ : (τ.1 29).toInt = ((σ.1 29) : Int32).toInt := congrArg Int32.toInt (((hxτ 29 rg_483).1))
      have E29 : τ.1 29 = σ.1 29 := (hxτ 29 rg_483).1
      have Ecor : cor τ = cor σ := cor_x hxτ rg_484
      have EJ : coJ τ = coJ σ := coJ_x hxτ rg_485
      have Efr : τ.2.1 32 = σ.2.1 32 := (hxτ 32 rg_497).2.1
      have E37 : τ.2.1 37 = σ.2.1 37 := (hxτ 37 rg_487).2.1
      have E12 : (τ.2.1 12 (τ.1 29).toNatClampNeg).toInt = (σ.2.1 12 (σ.1 29).toNatClampNeg).toInt := by rw [E29, (hxτ 12 rg_488).2.1]
      refine lv_iload_n hx hb dX12_run_2 rfl (lv_at hl 3 rfl) ?_
      refine lv_aload_n hx hb dX12_run_3 rfl (lv_at hl 0 rfl) ?_
      refine zy_i (va_runV (As := []) (rest := [.int sv]) ⟨hx, hb, hml, hown, hts⟩ (n_steps l dC dI h ad cl H.size τ  hIτ) (cwV 0 hts gd_n_run_c_321_n_steps rfl rfl rfl dd_n_steps ⟨Nat.le_of_ble_eq_true rfl, Nat.le_of_ble_eq_true rfl⟩) (preV hP hK hD hE (ci := 12) (q0 := 0) rfl rfl) rfl rfl hl.1 rfl (lv_room (Nat.le_of_ble_eq_true rfl)) dX12_run_4 ⟨Nat.le_of_ble_eq_true rfl, Nat.le_of_ble_eq_true rfl⟩) hD hS hA (fun z3_ τ2_ H locs hq hP hD hS => ?_)
      obtain ⟨rfl, f4_, f5_, f6_⟩ := hq
      refine W.widen (k := 0) (n := 0) (Nat.le_of_ble_eq_true rfl) (Nat.le_of_ble_eq_true rfl) ?_
      refine lv_icmp_ge (tgt := 160) hx hb dX12_run_7 rfl (fun c7_ => ?_) (fun c7_ => ?_)
      · have tc7_ := (show z3_.toInt ≤ sv.toInt from ti_le rfl rfl c7_)
        rw [hQ]
        have o1 : (σ.2.1 12 (σ.1 29).toNatClampNeg).toInt = sv.toInt := by omega
        have A8_ : (σ.2.1 12 (σ.1 29).toNatClampNeg).toNatClampNeg = sv.toNatClampNeg := cl_eq o1
        exact W.vret hx hb hr (fun t ht hW => ⟨⟨τ, rfl, ⟨hIτ, hxτ, (by rw [A8_]; exact hpl), (by rw [A8_]; exact hca)⟩, wEn_of hP (hK.sub [] rfl) hD ht hW⟩, hS.F ht⟩) hS.2.2 dX12_run_160
      · have tc7_ := (show sv.toInt < z3_.toInt from ti_nle rfl rfl c7_)
        refine lv_aload_n hx hb dX12_run_10 rfl (lv_at hl 0 rfl) ?_
        refine va_get (D := (dC, dI)) (ci := 12) (v := .ref (ad 42)) (C := RX12) (T := TX12) (N := 59) hx hb hts hin12 hown hK hP 0 rfl rfl 42 (Nat.le_of_ble_eq_true rfl) (ho (.fieldLink RX12 104 "NearEnoughModel" "plain" "[J") (List.mem_of_getElem? (i := 0) rfl)) (fun _ h9 => h9) rfl dX12_run_11 ?_
        refine lv_iload_n hx hb dX12_run_14 rfl (lv_at hl 3 rfl) ?_
        refine lv_aload_n hx hb dX12_run_15 rfl (lv_at hl 0 rfl) ?_
        refine lv_iload_n hx hb dX12_run_16 rfl (lv_at hl 3 rfl) ?_
        refine lv_aload_n hx hb dX12_run_17 rfl (lv_at hl 1 rfl) ?_
        refine lv_iload_n hx hb dX12_run_18 rfl (lv_at hl 2 rfl) ?_
        refine lv_aload_n hx hb dX12_run_19 rfl (lv_at hl 0 rfl) ?_
        refine va_get (D := (dC, dI)) (ci := 12) (v := .ref (ad 42)) (C := RX12) (T := TX12) (N := 59) hx hb hts hin12 hown hK hP 0 rfl rfl 42 (Nat.le_of_ble_eq_true rfl) (ho (.fieldLink RX12 104 "NearEnoughModel" "plain" "[J") (List.mem_of_getElem? (i := 0) rfl)) (fun _ h9 => h9) rfl dX12_run_20 ?_
        refine lv_iconst (v := (-1)) hx hb dX12_run_23 rg_53 ?_
        have kk9_ : ((-1) : Int32).toInt = (-1) := rg_489
        have o2 : 0 ≤ sv.toInt := by omega
        have o3 : sv.toInt ≤ 11 := by omega
        have o4 : 0 ≤ base.toInt := by omega
        have o5 : base.toInt ≤ 0 := by omega
        have o6 : sv.toInt < (σ.2.1 12 (σ.1 29).toNatClampNeg).toInt := by omega
        have o7 : base.toInt = 0 ∨ 12 ≤ base.toInt := by omega
        refine zy_l (va_runV (As := [.int sv, .ref (ad 32), .int base, .ref (ad 42), .int (-1)]) (rest := [.int sv, .ref (ad 42)]) ⟨hx, hb, hml, hown, hts⟩ (n_work_cp l dC dI h ad cl H.size τ sv base (-1) hIτ ⟨o2, o3⟩ ⟨o4, o5⟩ (show base.toInt = 0 ∨ 12 ≤ base.toInt from o7) ChOk.m1 (WkOk.x (show WkOk σ sv from ⟨hR, o2, o6⟩) hxτ rg_483 rg_490)) (cwV 5 hts gd_n_run_c_364_n_work_cp rfl rfl rfl dd_n_work_cp ⟨Nat.le_of_ble_eq_true rfl, Nat.le_of_ble_eq_true rfl⟩) (preV hP hK hD hE (ci := 12) (q0 := 0) rfl rfl) rfl rfl hl.1 rfl (lv_room (Nat.le_of_ble_eq_true rfl)) dX12_run_24 ⟨Nat.le_of_ble_eq_true rfl, Nat.le_of_ble_eq_true rfl⟩) hD hS hA (fun y11_ τ10_ H locs hq hP hD hS => ?_)
        obtain ⟨rfl, f12_⟩ := hq
        refine W.widen (k := 0) (n := 0) (Nat.le_of_ble_eq_true rfl) (Nat.le_of_ble_eq_true rfl) ?_
        have R13_ : y11_ = wkF (σ.1 29).toNatClampNeg (cor σ) false (σ.2.1 32) (τ.2.2.1 42) (Int32.toNatClampNeg sv) base (-1) := by rw [f12_, E29, Ecor, Efr]
        have o8 : sv.toInt < ((12 : Nat) : Int) := by omega
        refine va_last hx hb hK hP hD hS 30 29 rfl rfl (ti_inx o2 o8) dX12_run_27 (fun H locs hP hD hS => ?_)
        rw [wS42] at hP hD
        obtain ⟨τ14_, eτ14_⟩ : ∃ x9 : MS, x9 = sJ τ 42 (vp_updL (τ.2.2.1 42) (Int32.toNatClampNeg sv) y11_) := ⟨_, rfl⟩
        have hP : va_P (dC, dI) vwCl (mW h ad cl τ14_) H := by rw [eτ14_]; exact hP
        have hD : va_D A (mW h ad cl τ14_) := by rw [eτ14_]; exact hD
        have hIτ14_ : Inv τ14_ := by rw [eτ14_]; exact (Inv.sJ hIτ)
        have Xτ14_ : eqx [42, 41] τ14_ σ := (eqx.eq eτ14_ (eqx.sJ hxτ rg_491))
        have qq15_ : (τ14_.1 29).toInt = ((σ.1 29) : Int32).toInt := congrArg Int32.toInt ((show τ14_.1 29 = (σ.1 29) from (congrArg (fun x9 : MS => x9.1 29) eτ14_).trans ((hxτ 29 rg_483).1)))
        refine lv_aload_n hx hb dX12_run_28 rfl (lv_at hl 0 rfl) ?_
        refine va_get (D := (dC, dI)) (ci := 12) (v := .ref (ad 37)) (C := RX12) (T := TX12) (N := 59) hx hb hts hin12 hown hK hP 0 rfl rfl 37 (Nat.le_of_ble_eq_true rfl) (ho (.fieldLink RX12 94 "NearEnoughModel" "on" "[I") (List.mem_of_getElem? (i := 1) rfl)) (fun _ h9 => h9) rfl dX12_run_29 ?_
        refine lv_iload_n hx hb dX12_run_32 rfl (lv_at hl 3 rfl) ?_
        refine va_iald hx hb hK hP 27 26 rfl rfl (ti_inx o2 o8) dX12_run_33 ?_
        refine lv_topi (fun z16_ ez16_ => ?_)
        have gz16_ : z16_.toInt = ((τ.2.1 37) (Int32.toNatClampNeg sv)).toInt := congrArg Int32.toInt (ez16_.trans (congrFun ((congrArg (fun x9 : MS => x9.2.1 37) eτ14_).trans (tJ.trans rfl)) (Int32.toNatClampNeg sv)))
        have bz16_ : (-1) ≤ z16_.toInt ∧ z16_.toInt ≤ 11 := by rw [ez16_]; exact (hIτ14_.2 37) _ (cl_lt (n := 12) o2 o8)
        have E291 : τ14_.1 29 = σ.1 29 := (Xτ14_ 29 rg_483).1
        have Ecor1 : cor τ14_ = cor σ := cor_x Xτ14_ rg_484
        have EJ1 : coJ τ14_ = coJ σ := coJ_x Xτ14_ rg_485
        have Efr1 : τ14_.2.1 32 = σ.2.1 32 := (Xτ14_ 32 rg_497).2.1
        have E371 : τ14_.2.1 37 = σ.2.1 37 := (Xτ14_ 37 rg_487).2.1
        have EZ : σ.2.1 37 (Int32.toNatClampNeg sv) = z16_ := by rw [ez16_, E371]
        have HC : ChOk σ z16_ := by rw [← EZ]; exact hon _ (cl_lt (n := 12) o2 o8)
        have HCu := HC
        unfold ChOk at HCu
        have Ek : τ.2.1 34 = σ.2.1 34 := (hxτ 34 rg_492).2.1
        have En : τ14_.2.1 35 = σ.2.1 35 := (Xτ14_ 35 rg_493).2.1
        have E41 : τ14_.2.2.1 41 = τ.2.2.1 41 := by rw [eτ14_]; rfl
        refine lv_istore (lv' := [(4, .int z16_), (0, .ref h), (1, .ref (ad 32)), (2, .int base), (3, .int sv)]) hx hb dX12_run_34 hl (Nat.le_of_ble_eq_true rfl) rfl (fun ls hl => ?_)
        refine lv_iload hx hb dX12_run_36 (lv_at hl 0 rfl) ?_
        refine lv_if_lt (tgt := 88) hx hb dX12_run_38 rfl (fun c17_ => ?_) (fun c17_ => ?_)
        · have tc17_ := (show z16_.toInt < 0 from ti_lt rfl rg_11 c17_)
          refine lv_aload_n hx hb dX12_run_88 rfl (lv_at hl 1 rfl) ?_
          refine lv_iload_n hx hb dX12_run_89 rfl (lv_at hl 4 rfl) ?_
          refine lv_aload_n hx hb dX12_run_90 rfl (lv_at hl 2 rfl) ?_
          refine lv_iload_n hx hb dX12_run_91 rfl (lv_at hl 3 rfl) ?_
          refine lv_aload_n hx hb dX12_run_92 rfl (lv_at hl 1 rfl) ?_
          refine va_get (D := (dC, dI)) (ci := 12) (v := .ref (ad 41)) (C := RX12) (T := TX12) (N := 59) hx hb hts hin12 hown hK hP 0 rfl rfl 41 (Nat.le_of_ble_eq_true rfl) (ho (.fieldLink RX12 101 "NearEnoughModel" "came" "[J") (List.mem_of_getElem? (i := 2) rfl)) (fun _ h9 => h9) rfl dX12_run_93 ?_
          refine lv_iload hx hb dX12_run_96 (lv_at hl 0 rfl) ?_
          refine zy_l (va_runV (As := [.int sv, .ref (ad 32), .int base, .ref (ad 41), .int z16_]) (rest := []) ⟨hx, hb, hml, hown, hts⟩ (n_work_cc l dC dI h ad cl H.size τ14_ sv base z16_ hIτ14_ ⟨o2, o3⟩ ⟨o4, o5⟩ (show base.toInt = 0 ∨ 12 ≤ base.toInt from o7) (ChOk.x HC Xτ14_ rg_492 rg_493) (WkOk.x (show WkOk σ sv from ⟨hR, o2, o6⟩) Xτ14_ rg_483 rg_490)) (cwV 5 hts gd_n_run_c_364_n_work_cc rfl rfl rfl dd_n_work_cc ⟨Nat.le_of_ble_eq_true rfl, Nat.le_of_ble_eq_true rfl⟩) (preV hP hK hD hE (ci := 12) (q0 := 0) rfl rfl) rfl rfl hl.1 rfl (lv_room (Nat.le_of_ble_eq_true rfl)) dX12_run_98 ⟨Nat.le_of_ble_eq_true rfl, Nat.le_of_ble_eq_true rfl⟩) hD hS hA (fun y19_ τ18_ H locs hq hP hD hS => ?_)
          obtain ⟨rfl, f20_⟩ := hq
          refine W.widen (k := 0) (n := 0) (Nat.le_of_ble_eq_true rfl) (Nat.le_of_ble_eq_true rfl) ?_
          have R21_ : y19_ = wkF (σ.1 29).toNatClampNeg (cor σ) false (σ.2.1 32) (τ.2.2.1 41) (Int32.toNatClampNeg sv) base z16_ := by rw [f20_, E291, Ecor1, Efr1, E41]
          refine lv_lstore (lv' := [(5, .long y19_), (4, .int z16_), (0, .ref h), (1, .ref (ad 32)), (2, .int base), (3, .int sv)]) hx hb dX12_run_101 hl (Nat.le_of_ble_eq_true rfl) rfl (fun ls hl => ?_)
          refine lv_aload_n hx hb dX12_run_103 rfl (lv_at hl 2 rfl) ?_
          refine va_get (D := (dC, dI)) (ci := 12) (v := .ref (ad 41)) (C := RX12) (T := TX12) (N := 59) hx hb hts hin12 hown hK hP 0 rfl rfl 41 (Nat.le_of_ble_eq_true rfl) (ho (.fieldLink RX12 101 "NearEnoughModel" "came" "[J") (List.mem_of_getElem? (i := 2) rfl)) (fun _ h9 => h9) rfl dX12_run_104 ?_
          refine lv_iload_n hx hb dX12_run_107 rfl (lv_at hl 5 rfl) ?_
          refine lv_iload hx hb dX12_run_108 (lv_at hl 1 rfl) ?_
          refine lv_if_lt (tgt := 151) hx hb dX12_run_110 rfl (fun c22_ => ?_) (fun c22_ => ?_)
          · have tc22_ := (show z16_.toInt < 0 from ti_lt rfl rg_11 c22_)
            refine lv_lload hx hb dX12_run_151 (lv_at hl 0 rfl) ?_
            refine va_last hx hb hK hP hD hS 29 28 rfl rfl (ti_inx o2 o8) dX12_run_153 (fun H locs hP hD hS => ?_)
            rw [wS41] at hP hD
            obtain ⟨τ23_, eτ23_⟩ : ∃ x9 : MS, x9 = sJ τ14_ 41 (vp_updL (τ14_.2.2.1 41) (Int32.toNatClampNeg sv) y19_) := ⟨_, rfl⟩
            have hP : va_P (dC, dI) vwCl (mW h ad cl τ23_) H := by rw [eτ23_]; exact hP
            have hD : va_D A (mW h ad cl τ23_) := by rw [eτ23_]; exact hD
            have hIτ23_ : Inv τ23_ := by rw [eτ23_]; exact (Inv.sJ hIτ14_)
            have Xτ23_ : eqx [42, 41] τ23_ σ := (eqx.eq eτ23_ (eqx.sJ Xτ14_ rg_494))
            have qq24_ : (τ23_.1 29).toInt = ((σ.1 29) : Int32).toInt := congrArg Int32.toInt ((show τ23_.1 29 = (σ.1 29) from (congrArg (fun x9 : MS => x9.1 29) eτ23_).trans (show τ14_.1 29 = (σ.1 29) from (congrArg (fun x9 : MS => x9.1 29) eτ14_).trans ((hxτ 29 rg_483).1))))
            obtain ⟨z25_, ez25_⟩ : ∃ y : Int32, y = sv + 1 := ⟨_, rfl⟩
            have o9 : -2147483648 ≤ sv.toInt + 1 := by omega
            have o10 : sv.toInt + 1 ≤ 2147483647 := by omega
            have tz25_ := ti_add ez25_ rfl rg_18 o9 o10
            refine lv_iinc (v := z25_) (lv' := [(3, .int z25_), (5, .long y19_), (4, .int z16_), (0, .ref h), (1, .ref (ad 32)), (2, .int base)]) hx hb dX12_run_154 hl (k := 5) rfl (iincp ez25_ rg_6) (Nat.le_of_ble_eq_true rfl) rfl (fun ls hl => ?_)
            refine lv_goto (tgt := 2) hx hb dX12_run_157 rfl ?_
            have A26_ : τ23_.2.2.1 42 = vp_updL (τ.2.2.1 42) (Int32.toNatClampNeg sv) y11_ := by rw [eτ23_, eτ14_]; rfl
            have A27_ : τ23_.2.2.1 41 = vp_updL (τ.2.2.1 41) (Int32.toNatClampNeg sv) y19_ := by rw [eτ23_, eτ14_]; rfl
            have o11 : z25_.toInt = sv.toInt + 1 := by omega
            have A28_ : (z25_ : Int32).toNatClampNeg = sv.toNatClampNeg + 1 := cl_succ o2 o11
            have o12 : 0 ≤ z25_.toInt := by omega
            have o13 : 0 ≤ (σ.2.1 12 (σ.1 29).toNatClampNeg).toInt := by omega
            have A31_ : StT (σ.1 29).toNatClampNeg (cor σ) (sv.toNatClampNeg + 1) := hR.stT.mono (by rw [← A28_]; have h8 := ti_cl (x := z25_) rfl o12; have h7 := ti_cl (x := σ.2.1 12 (σ.1 29).toNatClampNeg) rfl o13; omega)
            have o14 : ¬ (0 ≤ z16_.toInt ∧ (τ.2.1 34 (Int32.toNatClampNeg z16_)).toInt = 4) := by omega
            have o15 : ¬ (0 ≤ z16_.toInt ∧ (τ.2.1 34 (Int32.toNatClampNeg z16_)).toInt = 1) := by omega
            have A29_ : y19_ = caF (σ.1 29).toNatClampNeg (cor σ) (coJ σ) false (σ.2.1 32) (σ.2.1 37) (τ.2.2.1 41) (Int32.toNatClampNeg sv) base := by rw [ca_n (T := cor σ) (by rw [EZ]; rw [Ek] at o14; exact o14) (by rw [EZ]; rw [Ek] at o15; exact o15), EZ]; exact R21_
            have o16 : z25_.toInt ≤ (σ.2.1 12 (σ.1 29).toNatClampNeg).toInt := by omega
            have o17 : (12 - z25_.toInt).toNat < n2 := by omega
            exact ih2 τ23_ z25_ _ _ _ (show (12 - z25_.toInt).toNat < n2 from o17) hIτ23_ Xτ23_ o12 (by rw [A28_, A26_]; exact PlR.snoc A31_ hpl R13_) (by rw [A28_, A27_]; exact CaR.snoc A31_ hca A29_) o16 hP hD hS (lv_sub hl [3, 4, 5, 0] rfl)
          · have tc22_ := (show 0 ≤ z16_.toInt from ti_nlt rfl rg_11 c22_)
            refine lv_aload_n hx hb dX12_run_113 rfl (lv_at hl 2 rfl) ?_
            refine va_get (D := (dC, dI)) (ci := 12) (v := .ref (ad 34)) (C := RX12) (T := TX12) (N := 59) hx hb hts hin12 hown hK hP 0 rfl rfl 34 (Nat.le_of_ble_eq_true rfl) (ho (.fieldLink RX12 85 "NearEnoughModel" "cKind" "[I") (List.mem_of_getElem? (i := 3) rfl)) (fun _ h9 => h9) rfl dX12_run_114 ?_
            refine lv_iload hx hb dX12_run_117 (lv_at hl 1 rfl) ?_
            have o18 : 0 ≤ z16_.toInt := by omega
            have o19 : z16_.toInt < ((12 : Nat) : Int) := by omega
            refine va_iald hx hb hK hP 24 23 rfl rfl (ti_inx o18 o19) dX12_run_119 ?_
            refine lv_topi (fun z32_ ez32_ => ?_)
            have gz32_ : z32_.toInt = ((τ.2.1 34) (Int32.toNatClampNeg z16_)).toInt := congrArg Int32.toInt (ez32_.trans (congrFun ((congrArg (fun x9 : MS => x9.2.1 34) eτ14_).trans (tJ.trans rfl)) (Int32.toNatClampNeg z16_)))
            have bz32_ : 0 ≤ z32_.toInt ∧ z32_.toInt ≤ 6 := by rw [ez32_]; exact (hIτ14_.2 34) _ (cl_lt (n := 12) o18 o19)
            refine lv_iconst (v := 1) hx hb dX12_run_120 rg_6 ?_
            refine lv_icmp_ne (tgt := 151) hx hb dX12_run_121 rfl (fun c33_ => ?_) (fun c33_ => ?_)
            · have tc33_ := (show z32_.toInt ≠ 1 from ti_ne rfl rg_18 c33_)
              refine lv_lload hx hb dX12_run_151 (lv_at hl 0 rfl) ?_
              refine va_last hx hb hK hP hD hS 29 28 rfl rfl (ti_inx o2 o8) dX12_run_153 (fun H locs hP hD hS => ?_)
              rw [wS41] at hP hD
              obtain ⟨τ34_, eτ34_⟩ : ∃ x9 : MS, x9 = sJ τ14_ 41 (vp_updL (τ14_.2.2.1 41) (Int32.toNatClampNeg sv) y19_) := ⟨_, rfl⟩
              have hP : va_P (dC, dI) vwCl (mW h ad cl τ34_) H := by rw [eτ34_]; exact hP
              have hD : va_D A (mW h ad cl τ34_) := by rw [eτ34_]; exact hD
              have hIτ34_ : Inv τ34_ := by rw [eτ34_]; exact (Inv.sJ hIτ14_)
              have Xτ34_ : eqx [42, 41] τ34_ σ := (eqx.eq eτ34_ (eqx.sJ Xτ14_ rg_494))
              have qq35_ : (τ34_.1 29).toInt = ((σ.1 29) : Int32).toInt := congrArg Int32.toInt ((show τ34_.1 29 = (σ.1 29) from (congrArg (fun x9 : MS => x9.1 29) eτ34_).trans (show τ14_.1 29 = (σ.1 29) from (congrArg (fun x9 : MS => x9.1 29) eτ14_).trans ((hxτ 29 rg_483).1))))
              obtain ⟨z36_, ez36_⟩ : ∃ y : Int32, y = sv + 1 := ⟨_, rfl⟩
              have o20 : -2147483648 ≤ sv.toInt + 1 := by omega
              have o21 : sv.toInt + 1 ≤ 2147483647 := by omega
              have tz36_ := ti_add ez36_ rfl rg_18 o20 o21
              refine lv_iinc (v := z36_) (lv' := [(3, .int z36_), (5, .long y19_), (4, .int z16_), (0, .ref h), (1, .ref (ad 32)), (2, .int base)]) hx hb dX12_run_154 hl (k := 5) rfl (iincp ez36_ rg_6) (Nat.le_of_ble_eq_true rfl) rfl (fun ls hl => ?_)
              refine lv_goto (tgt := 2) hx hb dX12_run_157 rfl ?_
              have A37_ : τ34_.2.2.1 42 = vp_updL (τ.2.2.1 42) (Int32.toNatClampNeg sv) y11_ := by rw [eτ34_, eτ14_]; rfl
              have A38_ : τ34_.2.2.1 41 = vp_updL (τ.2.2.1 41) (Int32.toNatClampNeg sv) y19_ := by rw [eτ34_, eτ14_]; rfl
              have o22 : z36_.toInt = sv.toInt + 1 := by omega
              have A39_ : (z36_ : Int32).toNatClampNeg = sv.toNatClampNeg + 1 := cl_succ o2 o22
              have o23 : 0 ≤ z36_.toInt := by omega
              have o24 : 0 ≤ (σ.2.1 12 (σ.1 29).toNatClampNeg).toInt := by omega
              have A42_ : StT (σ.1 29).toNatClampNeg (cor σ) (sv.toNatClampNeg + 1) := hR.stT.mono (by rw [← A39_]; have h8 := ti_cl (x := z36_) rfl o23; have h7 := ti_cl (x := σ.2.1 12 (σ.1 29).toNatClampNeg) rfl o24; omega)
              have o25 : ¬ (0 ≤ z16_.toInt ∧ (τ.2.1 34 (Int32.toNatClampNeg z16_)).toInt = 4) := by omega
              have o26 : ¬ (0 ≤ z16_.toInt ∧ (τ.2.1 34 (Int32.toNatClampNeg z16_)).toInt = 1) := by omega
              have A40_ : y19_ = caF (σ.1 29).toNatClampNeg (cor σ) (coJ σ) false (σ.2.1 32) (σ.2.1 37) (τ.2.2.1 41) (Int32.toNatClampNeg sv) base := by rw [ca_n (T := cor σ) (by rw [EZ]; rw [Ek] at o25; exact o25) (by rw [EZ]; rw [Ek] at o26; exact o26), EZ]; exact R21_
              have o27 : z36_.toInt ≤ (σ.2.1 12 (σ.1 29).toNatClampNeg).toInt := by omega
              have o28 : (12 - z36_.toInt).toNat < n2 := by omega
              exact ih2 τ34_ z36_ _ _ _ (show (12 - z36_.toInt).toNat < n2 from o28) hIτ34_ Xτ34_ o23 (by rw [A39_, A37_]; exact PlR.snoc A42_ hpl R13_) (by rw [A39_, A38_]; exact CaR.snoc A42_ hca A40_) o27 hP hD hS (lv_sub hl [3, 4, 5, 0] rfl)
            · have tc33_ := (show z32_.toInt = 1 from ti_eq rfl rg_18 c33_)
              refine lv_lload hx hb dX12_run_124 (lv_at hl 0 rfl) ?_
              refine lv_lconst (v := 1) hx hb dX12_run_126 (by decide) ?_
              refine lv_aload_n hx hb dX12_run_127 rfl (lv_at hl 2 rfl) ?_
              refine va_get (D := (dC, dI)) (ci := 12) (v := .ref (ad 35)) (C := RX12) (T := TX12) (N := 59) hx hb hts hin12 hown hK hP 0 rfl rfl 35 (Nat.le_of_ble_eq_true rfl) (ho (.fieldLink RX12 88 "NearEnoughModel" "cN" "[I") (List.mem_of_getElem? (i := 4) rfl)) (fun _ h9 => h9) rfl dX12_run_128 ?_
              refine lv_iload hx hb dX12_run_131 (lv_at hl 1 rfl) ?_
              refine va_iald hx hb hK hP 25 24 rfl rfl (ti_inx o18 o19) dX12_run_133 ?_
              refine lv_topi (fun z43_ ez43_ => ?_)
              have gz43_ : z43_.toInt = ((τ.2.1 35) (Int32.toNatClampNeg z16_)).toInt := congrArg Int32.toInt (ez43_.trans (congrFun ((congrArg (fun x9 : MS => x9.2.1 35) eτ14_).trans (tJ.trans rfl)) (Int32.toNatClampNeg z16_)))
              have bz43_ : 0 ≤ z43_.toInt ∧ z43_.toInt ≤ 99 := by rw [ez43_]; exact (hIτ14_.2 35) _ (cl_lt (n := 12) o18 o19)
              refine lv_lshl hx hb dX12_run_134 rfl ?_
              refine lv_topl (fun y44_ ey44_ => ?_)
              have o29 : 0 ≤ z43_.toInt := by omega
              have o30 : z43_.toInt ≤ 99 := by omega
              refine zs_l (va_runS (As := [.long y19_, .long y44_]) (rest := [.int sv, .ref (ad 41)]) ⟨hx, hb, hml, hown, hts⟩ (n_floorOver l dC dI y19_ y44_ (by rw [ey44_]; exact shF_ne o29 o30) H.size) (va_cwS 2 hts gd_n_run_c_337_n_floorOver rfl rfl rfl dd_n_floorOver ⟨Nat.le_of_ble_eq_true rfl, Nat.le_of_ble_eq_true rfl⟩) (preS (A := A) empP (hK.sub (tys' := []) [] rfl) empD hE) rfl rfl hl.1 rfl (lv_room (Nat.le_of_ble_eq_true rfl)) dX12_run_135 ⟨Nat.le_of_ble_eq_true rfl, Nat.le_of_ble_eq_true rfl⟩) hP hD hS hA (fun y45_ H locs hq hP hD hS => ?_)
              have f46_ := hq
              refine W.widen (k := 0) (n := 0) (Nat.le_of_ble_eq_true rfl) (Nat.le_of_ble_eq_true rfl) ?_
              refine lv_lconst (v := 1) hx hb dX12_run_138 (by decide) ?_
              refine lv_aload_n hx hb dX12_run_139 rfl (lv_at hl 2 rfl) ?_
              refine va_get (D := (dC, dI)) (ci := 12) (v := .ref (ad 35)) (C := RX12) (T := TX12) (N := 59) hx hb hts hin12 hown hK hP 0 rfl rfl 35 (Nat.le_of_ble_eq_true rfl) (ho (.fieldLink RX12 88 "NearEnoughModel" "cN" "[I") (List.mem_of_getElem? (i := 4) rfl)) (fun _ h9 => h9) rfl dX12_run_140 ?_
              refine lv_iload hx hb dX12_run_143 (lv_at hl 1 rfl) ?_
              refine va_iald hx hb hK hP 25 24 rfl rfl (ti_inx o18 o19) dX12_run_145 ?_
              refine lv_topi (fun z47_ ez47_ => ?_)
              have qq48_ : z47_.toInt = z43_.toInt := congrArg Int32.toInt ((ez47_.trans (congrFun ((congrArg (fun x9 : MS => x9.2.1 35) eτ14_).trans (tJ.trans rfl)) (Int32.toNatClampNeg z16_))).trans ((ez43_.trans (congrFun ((congrArg (fun x9 : MS => x9.2.1 35) eτ14_).trans (tJ.trans rfl)) (Int32.toNatClampNeg z16_)))).symm)
              have gz47_ : z47_.toInt = ((τ.2.1 35) (Int32.toNatClampNeg z16_)).toInt := congrArg Int32.toInt (ez47_.trans (congrFun ((congrArg (fun x9 : MS => x9.2.1 35) eτ14_).trans (tJ.trans rfl)) (Int32.toNatClampNeg z16_)))
              have bz47_ : 0 ≤ z47_.toInt ∧ z47_.toInt ≤ 99 := by rw [ez47_]; exact (hIτ14_.2 35) _ (cl_lt (n := 12) o18 o19)
              refine lv_lshl hx hb dX12_run_146 rfl ?_
              refine lv_topl (fun y49_ ey49_ => ?_)
              refine lv_lmul hx hb dX12_run_147 ?_
              refine lv_topl (fun y50_ ey50_ => ?_)
              refine lv_goto (tgt := 153) hx hb dX12_run_148 rfl ?_
              refine va_last hx hb hK hP hD hS 29 28 rfl rfl (ti_inx o2 o8) dX12_run_153 (fun H locs hP hD hS => ?_)
              rw [wS41] at hP hD
              obtain ⟨τ51_, eτ51_⟩ : ∃ x9 : MS, x9 = sJ τ14_ 41 (vp_updL (τ14_.2.2.1 41) (Int32.toNatClampNeg sv) y50_) := ⟨_, rfl⟩
              have hP : va_P (dC, dI) vwCl (mW h ad cl τ51_) H := by rw [eτ51_]; exact hP
              have hD : va_D A (mW h ad cl τ51_) := by rw [eτ51_]; exact hD
              have hIτ51_ : Inv τ51_ := by rw [eτ51_]; exact (Inv.sJ hIτ14_)
              have Xτ51_ : eqx [42, 41] τ51_ σ := (eqx.eq eτ51_ (eqx.sJ Xτ14_ rg_494))
              have qq52_ : (τ51_.1 29).toInt = ((σ.1 29) : Int32).toInt := congrArg Int32.toInt ((show τ51_.1 29 = (σ.1 29) from (congrArg (fun x9 : MS => x9.1 29) eτ51_).trans (show τ14_.1 29 = (σ.1 29) from (congrArg (fun x9 : MS => x9.1 29) eτ14_).trans ((hxτ 29 rg_483).1))))
              obtain ⟨z53_, ez53_⟩ : ∃ y : Int32, y = sv + 1 := ⟨_, rfl⟩
              have o31 : -2147483648 ≤ sv.toInt + 1 := by omega
              have o32 : sv.toInt + 1 ≤ 2147483647 := by omega
              have tz53_ := ti_add ez53_ rfl rg_18 o31 o32
              refine lv_iinc (v := z53_) (lv' := [(3, .int z53_), (5, .long y19_), (4, .int z16_), (0, .ref h), (1, .ref (ad 32)), (2, .int base)]) hx hb dX12_run_154 hl (k := 5) rfl (iincp ez53_ rg_6) (Nat.le_of_ble_eq_true rfl) rfl (fun ls hl => ?_)
              refine lv_goto (tgt := 2) hx hb dX12_run_157 rfl ?_
              have A54_ : τ51_.2.2.1 42 = vp_updL (τ.2.2.1 42) (Int32.toNatClampNeg sv) y11_ := by rw [eτ51_, eτ14_]; rfl
              have A55_ : τ51_.2.2.1 41 = vp_updL (τ.2.2.1 41) (Int32.toNatClampNeg sv) y50_ := by rw [eτ51_, eτ14_]; rfl
              have o33 : z53_.toInt = sv.toInt + 1 := by omega
              have A56_ : (z53_ : Int32).toNatClampNeg = sv.toNatClampNeg + 1 := cl_succ o2 o33
              have o34 : 0 ≤ z53_.toInt := by omega
              have o35 : 0 ≤ (σ.2.1 12 (σ.1 29).toNatClampNeg).toInt := by omega
              have A59_ : StT (σ.1 29).toNatClampNeg (cor σ) (sv.toNatClampNeg + 1) := hR.stT.mono (by rw [← A56_]; have h8 := ti_cl (x := z53_) rfl o34; have h7 := ti_cl (x := σ.2.1 12 (σ.1 29).toNatClampNeg) rfl o35; omega)
              have o36 : ¬ (0 ≤ z16_.toInt ∧ (τ.2.1 34 (Int32.toNatClampNeg z16_)).toInt = 4) := by omega
              have o37 : 0 ≤ z16_.toInt ∧ (τ.2.1 34 (Int32.toNatClampNeg z16_)).toInt = 1 := by omega
              have A57_ : y50_ = caF (σ.1 29).toNatClampNeg (cor σ) (coJ σ) false (σ.2.1 32) (σ.2.1 37) (τ.2.2.1 41) (Int32.toNatClampNeg sv) base := by rw [ca_1 (T := cor σ) (by rw [EZ]; rw [Ek] at o36; exact o36) (by rw [EZ]; rw [Ek] at o37; exact o37), EZ, ← R21_]; simp only [ez43_, ey44_, f46_, ez47_, ey49_, ey50_, ez53_]; rw [En]; rfl
              have o38 : z53_.toInt ≤ (σ.2.1 12 (σ.1 29).toNatClampNeg).toInt := by omega
              have o39 : (12 - z53_.toInt).toNat < n2 := by omega
              exact ih2 τ51_ z53_ _ _ _ (show (12 - z53_.toInt).toNat < n2 from o39) hIτ51_ Xτ51_ o34 (by rw [A56_, A54_]; exact PlR.snoc A59_ hpl R13_) (by rw [A56_, A55_]; exact CaR.snoc A59_ hca A57_) o38 hP hD hS (lv_sub hl [3, 4, 5, 0] rfl)
        · have tc17_ := (show 0 ≤ z16_.toInt from ti_nlt rfl rg_11 c17_)
          refine lv_aload_n hx hb dX12_run_41 rfl (lv_at hl 1 rfl) ?_
          refine va_get (D := (dC, dI)) (ci := 12) (v := .ref (ad 34)) (C := RX12) (T := TX12) (N := 59) hx hb hts hin12 hown hK hP 0 rfl rfl 34 (Nat.le_of_ble_eq_true rfl) (ho (.fieldLink RX12 85 "NearEnoughModel" "cKind" "[I") (List.mem_of_getElem? (i := 3) rfl)) (fun _ h9 => h9) rfl dX12_run_42 ?_
          refine lv_iload hx hb dX12_run_45 (lv_at hl 0 rfl) ?_
          have o40 : 0 ≤ z16_.toInt := by omega
          have o41 : z16_.toInt < ((12 : Nat) : Int) := by omega
          refine va_iald hx hb hK hP 24 23 rfl rfl (ti_inx o40 o41) dX12_run_47 ?_
          refine lv_topi (fun z60_ ez60_ => ?_)
          have gz60_ : z60_.toInt = ((τ.2.1 34) (Int32.toNatClampNeg z16_)).toInt := congrArg Int32.toInt (ez60_.trans (congrFun ((congrArg (fun x9 : MS => x9.2.1 34) eτ14_).trans (tJ.trans rfl)) (Int32.toNatClampNeg z16_)))
          have bz60_ : 0 ≤ z60_.toInt ∧ z60_.toInt ≤ 6 := by rw [ez60_]; exact (hIτ14_.2 34) _ (cl_lt (n := 12) o40 o41)
          refine lv_iconst (v := 4) hx hb dX12_run_48 rg_31 ?_
          refine lv_icmp_ne (tgt := 88) hx hb dX12_run_49 rfl (fun c61_ => ?_) (fun c61_ => ?_)
          · have tc61_ := (show z60_.toInt ≠ 4 from ti_ne rfl rg_32 c61_)
            refine lv_aload_n hx hb dX12_run_88 rfl (lv_at hl 1 rfl) ?_
            refine lv_iload_n hx hb dX12_run_89 rfl (lv_at hl 4 rfl) ?_
            refine lv_aload_n hx hb dX12_run_90 rfl (lv_at hl 2 rfl) ?_
            refine lv_iload_n hx hb dX12_run_91 rfl (lv_at hl 3 rfl) ?_
            refine lv_aload_n hx hb dX12_run_92 rfl (lv_at hl 1 rfl) ?_
            refine va_get (D := (dC, dI)) (ci := 12) (v := .ref (ad 41)) (C := RX12) (T := TX12) (N := 59) hx hb hts hin12 hown hK hP 0 rfl rfl 41 (Nat.le_of_ble_eq_true rfl) (ho (.fieldLink RX12 101 "NearEnoughModel" "came" "[J") (List.mem_of_getElem? (i := 2) rfl)) (fun _ h9 => h9) rfl dX12_run_93 ?_
            refine lv_iload hx hb dX12_run_96 (lv_at hl 0 rfl) ?_
            refine zy_l (va_runV (As := [.int sv, .ref (ad 32), .int base, .ref (ad 41), .int z16_]) (rest := []) ⟨hx, hb, hml, hown, hts⟩ (n_work_cc l dC dI h ad cl H.size τ14_ sv base z16_ hIτ14_ ⟨o2, o3⟩ ⟨o4, o5⟩ (show base.toInt = 0 ∨ 12 ≤ base.toInt from o7) (ChOk.x HC Xτ14_ rg_492 rg_493) (WkOk.x (show WkOk σ sv from ⟨hR, o2, o6⟩) Xτ14_ rg_483 rg_490)) (cwV 5 hts gd_n_run_c_364_n_work_cc rfl rfl rfl dd_n_work_cc ⟨Nat.le_of_ble_eq_true rfl, Nat.le_of_ble_eq_true rfl⟩) (preV hP hK hD hE (ci := 12) (q0 := 0) rfl rfl) rfl rfl hl.1 rfl (lv_room (Nat.le_of_ble_eq_true rfl)) dX12_run_98 ⟨Nat.le_of_ble_eq_true rfl, Nat.le_of_ble_eq_true rfl⟩) hD hS hA (fun y63_ τ62_ H locs hq hP hD hS => ?_)
            obtain ⟨rfl, f64_⟩ := hq
            refine W.widen (k := 0) (n := 0) (Nat.le_of_ble_eq_true rfl) (Nat.le_of_ble_eq_true rfl) ?_
            have R65_ : y63_ = wkF (σ.1 29).toNatClampNeg (cor σ) false (σ.2.1 32) (τ.2.2.1 41) (Int32.toNatClampNeg sv) base z16_ := by rw [f64_, E291, Ecor1, Efr1, E41]
            refine lv_lstore (lv' := [(5, .long y63_), (4, .int z16_), (0, .ref h), (1, .ref (ad 32)), (2, .int base), (3, .int sv)]) hx hb dX12_run_101 hl (Nat.le_of_ble_eq_true rfl) rfl (fun ls hl => ?_)
            refine lv_aload_n hx hb dX12_run_103 rfl (lv_at hl 2 rfl) ?_
            refine va_get (D := (dC, dI)) (ci := 12) (v := .ref (ad 41)) (C := RX12) (T := TX12) (N := 59) hx hb hts hin12 hown hK hP 0 rfl rfl 41 (Nat.le_of_ble_eq_true rfl) (ho (.fieldLink RX12 101 "NearEnoughModel" "came" "[J") (List.mem_of_getElem? (i := 2) rfl)) (fun _ h9 => h9) rfl dX12_run_104 ?_
            refine lv_iload_n hx hb dX12_run_107 rfl (lv_at hl 5 rfl) ?_
            refine lv_iload hx hb dX12_run_108 (lv_at hl 1 rfl) ?_
            refine lv_if_lt (tgt := 151) hx hb dX12_run_110 rfl (fun c66_ => ?_) (fun c66_ => ?_)
            · have tc66_ := (show z16_.toInt < 0 from ti_lt rfl rg_11 c66_)
              refine lv_lload hx hb dX12_run_151 (lv_at hl 0 rfl) ?_
              refine va_last hx hb hK hP hD hS 29 28 rfl rfl (ti_inx o2 o8) dX12_run_153 (fun H locs hP hD hS => ?_)
              rw [wS41] at hP hD
              obtain ⟨τ67_, eτ67_⟩ : ∃ x9 : MS, x9 = sJ τ14_ 41 (vp_updL (τ14_.2.2.1 41) (Int32.toNatClampNeg sv) y63_) := ⟨_, rfl⟩
              have hP : va_P (dC, dI) vwCl (mW h ad cl τ67_) H := by rw [eτ67_]; exact hP
              have hD : va_D A (mW h ad cl τ67_) := by rw [eτ67_]; exact hD
              have hIτ67_ : Inv τ67_ := by rw [eτ67_]; exact (Inv.sJ hIτ14_)
              have Xτ67_ : eqx [42, 41] τ67_ σ := (eqx.eq eτ67_ (eqx.sJ Xτ14_ rg_494))
              have qq68_ : (τ67_.1 29).toInt = ((σ.1 29) : Int32).toInt := congrArg Int32.toInt ((show τ67_.1 29 = (σ.1 29) from (congrArg (fun x9 : MS => x9.1 29) eτ67_).trans (show τ14_.1 29 = (σ.1 29) from (congrArg (fun x9 : MS => x9.1 29) eτ14_).trans ((hxτ 29 rg_483).1))))
              obtain ⟨z69_, ez69_⟩ : ∃ y : Int32, y = sv + 1 := ⟨_, rfl⟩
              have o42 : -2147483648 ≤ sv.toInt + 1 := by omega
              have o43 : sv.toInt + 1 ≤ 2147483647 := by omega
              have tz69_ := ti_add ez69_ rfl rg_18 o42 o43
              refine lv_iinc (v := z69_) (lv' := [(3, .int z69_), (5, .long y63_), (4, .int z16_), (0, .ref h), (1, .ref (ad 32)), (2, .int base)]) hx hb dX12_run_154 hl (k := 5) rfl (iincp ez69_ rg_6) (Nat.le_of_ble_eq_true rfl) rfl (fun ls hl => ?_)
              refine lv_goto (tgt := 2) hx hb dX12_run_157 rfl ?_
              have A70_ : τ67_.2.2.1 42 = vp_updL (τ.2.2.1 42) (Int32.toNatClampNeg sv) y11_ := by rw [eτ67_, eτ14_]; rfl
              have A71_ : τ67_.2.2.1 41 = vp_updL (τ.2.2.1 41) (Int32.toNatClampNeg sv) y63_ := by rw [eτ67_, eτ14_]; rfl
              have o44 : z69_.toInt = sv.toInt + 1 := by omega
              have A72_ : (z69_ : Int32).toNatClampNeg = sv.toNatClampNeg + 1 := cl_succ o2 o44
              have o45 : 0 ≤ z69_.toInt := by omega
              have o46 : 0 ≤ (σ.2.1 12 (σ.1 29).toNatClampNeg).toInt := by omega
              have A75_ : StT (σ.1 29).toNatClampNeg (cor σ) (sv.toNatClampNeg + 1) := hR.stT.mono (by rw [← A72_]; have h8 := ti_cl (x := z69_) rfl o45; have h7 := ti_cl (x := σ.2.1 12 (σ.1 29).toNatClampNeg) rfl o46; omega)
              have o47 : ¬ (0 ≤ z16_.toInt ∧ (τ.2.1 34 (Int32.toNatClampNeg z16_)).toInt = 4) := by omega
              have o48 : ¬ (0 ≤ z16_.toInt ∧ (τ.2.1 34 (Int32.toNatClampNeg z16_)).toInt = 1) := by omega
              have A73_ : y63_ = caF (σ.1 29).toNatClampNeg (cor σ) (coJ σ) false (σ.2.1 32) (σ.2.1 37) (τ.2.2.1 41) (Int32.toNatClampNeg sv) base := by rw [ca_n (T := cor σ) (by rw [EZ]; rw [Ek] at o47; exact o47) (by rw [EZ]; rw [Ek] at o48; exact o48), EZ]; exact R65_
              have o49 : z69_.toInt ≤ (σ.2.1 12 (σ.1 29).toNatClampNeg).toInt := by omega
              have o50 : (12 - z69_.toInt).toNat < n2 := by omega
              exact ih2 τ67_ z69_ _ _ _ (show (12 - z69_.toInt).toNat < n2 from o50) hIτ67_ Xτ67_ o45 (by rw [A72_, A70_]; exact PlR.snoc A75_ hpl R13_) (by rw [A72_, A71_]; exact CaR.snoc A75_ hca A73_) o49 hP hD hS (lv_sub hl [3, 4, 5, 0] rfl)
            · have tc66_ := (show 0 ≤ z16_.toInt from ti_nlt rfl rg_11 c66_)
              refine lv_aload_n hx hb dX12_run_113 rfl (lv_at hl 2 rfl) ?_
              refine va_get (D := (dC, dI)) (ci := 12) (v := .ref (ad 34)) (C := RX12) (T := TX12) (N := 59) hx hb hts hin12 hown hK hP 0 rfl rfl 34 (Nat.le_of_ble_eq_true rfl) (ho (.fieldLink RX12 85 "NearEnoughModel" "cKind" "[I") (List.mem_of_getElem? (i := 3) rfl)) (fun _ h9 => h9) rfl dX12_run_114 ?_
              refine lv_iload hx hb dX12_run_117 (lv_at hl 1 rfl) ?_
              refine va_iald hx hb hK hP 24 23 rfl rfl (ti_inx o40 o41) dX12_run_119 ?_
              refine lv_topi (fun z76_ ez76_ => ?_)
              have qq77_ : z76_.toInt = z60_.toInt := congrArg Int32.toInt ((ez76_.trans (congrFun ((congrArg (fun x9 : MS => x9.2.1 34) eτ14_).trans (tJ.trans rfl)) (Int32.toNatClampNeg z16_))).trans ((ez60_.trans (congrFun ((congrArg (fun x9 : MS => x9.2.1 34) eτ14_).trans (tJ.trans rfl)) (Int32.toNatClampNeg z16_)))).symm)
              have gz76_ : z76_.toInt = ((τ.2.1 34) (Int32.toNatClampNeg z16_)).toInt := congrArg Int32.toInt (ez76_.trans (congrFun ((congrArg (fun x9 : MS => x9.2.1 34) eτ14_).trans (tJ.trans rfl)) (Int32.toNatClampNeg z16_)))
              have bz76_ : 0 ≤ z76_.toInt ∧ z76_.toInt ≤ 6 := by rw [ez76_]; exact (hIτ14_.2 34) _ (cl_lt (n := 12) o40 o41)
              refine lv_iconst (v := 1) hx hb dX12_run_120 rg_6 ?_
              refine lv_icmp_ne (tgt := 151) hx hb dX12_run_121 rfl (fun c78_ => ?_) (fun c78_ => ?_)
              · have tc78_ := (show z76_.toInt ≠ 1 from ti_ne rfl rg_18 c78_)
                refine lv_lload hx hb dX12_run_151 (lv_at hl 0 rfl) ?_
                refine va_last hx hb hK hP hD hS 29 28 rfl rfl (ti_inx o2 o8) dX12_run_153 (fun H locs hP hD hS => ?_)
                rw [wS41] at hP hD
                obtain ⟨τ79_, eτ79_⟩ : ∃ x9 : MS, x9 = sJ τ14_ 41 (vp_updL (τ14_.2.2.1 41) (Int32.toNatClampNeg sv) y63_) := ⟨_, rfl⟩
                have hP : va_P (dC, dI) vwCl (mW h ad cl τ79_) H := by rw [eτ79_]; exact hP
                have hD : va_D A (mW h ad cl τ79_) := by rw [eτ79_]; exact hD
                have hIτ79_ : Inv τ79_ := by rw [eτ79_]; exact (Inv.sJ hIτ14_)
                have Xτ79_ : eqx [42, 41] τ79_ σ := (eqx.eq eτ79_ (eqx.sJ Xτ14_ rg_494))
                have qq80_ : (τ79_.1 29).toInt = ((σ.1 29) : Int32).toInt := congrArg Int32.toInt ((show τ79_.1 29 = (σ.1 29) from (congrArg (fun x9 : MS => x9.1 29) eτ79_).trans (show τ14_.1 29 = (σ.1 29) from (congrArg (fun x9 : MS => x9.1 29) eτ14_).trans ((hxτ 29 rg_483).1))))
                obtain ⟨z81_, ez81_⟩ : ∃ y : Int32, y = sv + 1 := ⟨_, rfl⟩
                have o51 : -2147483648 ≤ sv.toInt + 1 := by omega
                have o52 : sv.toInt + 1 ≤ 2147483647 := by omega
                have tz81_ := ti_add ez81_ rfl rg_18 o51 o52
                refine lv_iinc (v := z81_) (lv' := [(3, .int z81_), (5, .long y63_), (4, .int z16_), (0, .ref h), (1, .ref (ad 32)), (2, .int base)]) hx hb dX12_run_154 hl (k := 5) rfl (iincp ez81_ rg_6) (Nat.le_of_ble_eq_true rfl) rfl (fun ls hl => ?_)
                refine lv_goto (tgt := 2) hx hb dX12_run_157 rfl ?_
                have A82_ : τ79_.2.2.1 42 = vp_updL (τ.2.2.1 42) (Int32.toNatClampNeg sv) y11_ := by rw [eτ79_, eτ14_]; rfl
                have A83_ : τ79_.2.2.1 41 = vp_updL (τ.2.2.1 41) (Int32.toNatClampNeg sv) y63_ := by rw [eτ79_, eτ14_]; rfl
                have o53 : z81_.toInt = sv.toInt + 1 := by omega
                have A84_ : (z81_ : Int32).toNatClampNeg = sv.toNatClampNeg + 1 := cl_succ o2 o53
                have o54 : 0 ≤ z81_.toInt := by omega
                have o55 : 0 ≤ (σ.2.1 12 (σ.1 29).toNatClampNeg).toInt := by omega
                have A87_ : StT (σ.1 29).toNatClampNeg (cor σ) (sv.toNatClampNeg + 1) := hR.stT.mono (by rw [← A84_]; have h8 := ti_cl (x := z81_) rfl o54; have h7 := ti_cl (x := σ.2.1 12 (σ.1 29).toNatClampNeg) rfl o55; omega)
                have o56 : ¬ (0 ≤ z16_.toInt ∧ (τ.2.1 34 (Int32.toNatClampNeg z16_)).toInt = 4) := by omega
                have o57 : ¬ (0 ≤ z16_.toInt ∧ (τ.2.1 34 (Int32.toNatClampNeg z16_)).toInt = 1) := by omega
                have A85_ : y63_ = caF (σ.1 29).toNatClampNeg (cor σ) (coJ σ) false (σ.2.1 32) (σ.2.1 37) (τ.2.2.1 41) (Int32.toNatClampNeg sv) base := by rw [ca_n (T := cor σ) (by rw [EZ]; rw [Ek] at o56; exact o56) (by rw [EZ]; rw [Ek] at o57; exact o57), EZ]; exact R65_
                have o58 : z81_.toInt ≤ (σ.2.1 12 (σ.1 29).toNatClampNeg).toInt := by omega
                have o59 : (12 - z81_.toInt).toNat < n2 := by omega
                exact ih2 τ79_ z81_ _ _ _ (show (12 - z81_.toInt).toNat < n2 from o59) hIτ79_ Xτ79_ o54 (by rw [A84_, A82_]; exact PlR.snoc A87_ hpl R13_) (by rw [A84_, A83_]; exact CaR.snoc A87_ hca A85_) o58 hP hD hS (lv_sub hl [3, 4, 5, 0] rfl)
              · have tc78_ := (show z76_.toInt = 1 from ti_eq rfl rg_18 c78_)
                refine lv_lload hx hb dX12_run_124 (lv_at hl 0 rfl) ?_
                refine lv_lconst (v := 1) hx hb dX12_run_126 (by decide) ?_
                refine lv_aload_n hx hb dX12_run_127 rfl (lv_at hl 2 rfl) ?_
                refine va_get (D := (dC, dI)) (ci := 12) (v := .ref (ad 35)) (C := RX12) (T := TX12) (N := 59) hx hb hts hin12 hown hK hP 0 rfl rfl 35 (Nat.le_of_ble_eq_true rfl) (ho (.fieldLink RX12 88 "NearEnoughModel" "cN" "[I") (List.mem_of_getElem? (i := 4) rfl)) (fun _ h9 => h9) rfl dX12_run_128 ?_
                refine lv_iload hx hb dX12_run_131 (lv_at hl 1 rfl) ?_
                refine va_iald hx hb hK hP 25 24 rfl rfl (ti_inx o40 o41) dX12_run_133 ?_
                refine lv_topi (fun z88_ ez88_ => ?_)
                have gz88_ : z88_.toInt = ((τ.2.1 35) (Int32.toNatClampNeg z16_)).toInt := congrArg Int32.toInt (ez88_.trans (congrFun ((congrArg (fun x9 : MS => x9.2.1 35) eτ14_).trans (tJ.trans rfl)) (Int32.toNatClampNeg z16_)))
                have bz88_ : 0 ≤ z88_.toInt ∧ z88_.toInt ≤ 99 := by rw [ez88_]; exact (hIτ14_.2 35) _ (cl_lt (n := 12) o40 o41)
                refine lv_lshl hx hb dX12_run_134 rfl ?_
                refine lv_topl (fun y89_ ey89_ => ?_)
                have o60 : 0 ≤ z88_.toInt := by omega
                have o61 : z88_.toInt ≤ 99 := by omega
                refine zs_l (va_runS (As := [.long y63_, .long y89_]) (rest := [.int sv, .ref (ad 41)]) ⟨hx, hb, hml, hown, hts⟩ (n_floorOver l dC dI y63_ y89_ (by rw [ey89_]; exact shF_ne o60 o61) H.size) (va_cwS 2 hts gd_n_run_c_337_n_floorOver rfl rfl rfl dd_n_floorOver ⟨Nat.le_of_ble_eq_true rfl, Nat.le_of_ble_eq_true rfl⟩) (preS (A := A) empP (hK.sub (tys' := []) [] rfl) empD hE) rfl rfl hl.1 rfl (lv_room (Nat.le_of_ble_eq_true rfl)) dX12_run_135 ⟨Nat.le_of_ble_eq_true rfl, Nat.le_of_ble_eq_true rfl⟩) hP hD hS hA (fun y90_ H locs hq hP hD hS => ?_)
                have f91_ := hq
                refine W.widen (k := 0) (n := 0) (Nat.le_of_ble_eq_true rfl) (Nat.le_of_ble_eq_true rfl) ?_
                refine lv_lconst (v := 1) hx hb dX12_run_138 (by decide) ?_
                refine lv_aload_n hx hb dX12_run_139 rfl (lv_at hl 2 rfl) ?_
                refine va_get (D := (dC, dI)) (ci := 12) (v := .ref (ad 35)) (C := RX12) (T := TX12) (N := 59) hx hb hts hin12 hown hK hP 0 rfl rfl 35 (Nat.le_of_ble_eq_true rfl) (ho (.fieldLink RX12 88 "NearEnoughModel" "cN" "[I") (List.mem_of_getElem? (i := 4) rfl)) (fun _ h9 => h9) rfl dX12_run_140 ?_
                refine lv_iload hx hb dX12_run_143 (lv_at hl 1 rfl) ?_
                refine va_iald hx hb hK hP 25 24 rfl rfl (ti_inx o40 o41) dX12_run_145 ?_
                refine lv_topi (fun z92_ ez92_ => ?_)
                have qq93_ : z92_.toInt = z88_.toInt := congrArg Int32.toInt ((ez92_.trans (congrFun ((congrArg (fun x9 : MS => x9.2.1 35) eτ14_).trans (tJ.trans rfl)) (Int32.toNatClampNeg z16_))).trans ((ez88_.trans (congrFun ((congrArg (fun x9 : MS => x9.2.1 35) eτ14_).trans (tJ.trans rfl)) (Int32.toNatClampNeg z16_)))).symm)
                have gz92_ : z92_.toInt = ((τ.2.1 35) (Int32.toNatClampNeg z16_)).toInt := congrArg Int32.toInt (ez92_.trans (congrFun ((congrArg (fun x9 : MS => x9.2.1 35) eτ14_).trans (tJ.trans rfl)) (Int32.toNatClampNeg z16_)))
                have bz92_ : 0 ≤ z92_.toInt ∧ z92_.toInt ≤ 99 := by rw [ez92_]; exact (hIτ14_.2 35) _ (cl_lt (n := 12) o40 o41)
                refine lv_lshl hx hb dX12_run_146 rfl ?_
                refine lv_topl (fun y94_ ey94_ => ?_)
                refine lv_lmul hx hb dX12_run_147 ?_
                refine lv_topl (fun y95_ ey95_ => ?_)
                refine lv_goto (tgt := 153) hx hb dX12_run_148 rfl ?_
                refine va_last hx hb hK hP hD hS 29 28 rfl rfl (ti_inx o2 o8) dX12_run_153 (fun H locs hP hD hS => ?_)
                rw [wS41] at hP hD
                obtain ⟨τ96_, eτ96_⟩ : ∃ x9 : MS, x9 = sJ τ14_ 41 (vp_updL (τ14_.2.2.1 41) (Int32.toNatClampNeg sv) y95_) := ⟨_, rfl⟩
                have hP : va_P (dC, dI) vwCl (mW h ad cl τ96_) H := by rw [eτ96_]; exact hP
                have hD : va_D A (mW h ad cl τ96_) := by rw [eτ96_]; exact hD
                have hIτ96_ : Inv τ96_ := by rw [eτ96_]; exact (Inv.sJ hIτ14_)
                have Xτ96_ : eqx [42, 41] τ96_ σ := (eqx.eq eτ96_ (eqx.sJ Xτ14_ rg_494))
                have qq97_ : (τ96_.1 29).toInt = ((σ.1 29) : Int32).toInt := congrArg Int32.toInt ((show τ96_.1 29 = (σ.1 29) from (congrArg (fun x9 : MS => x9.1 29) eτ96_).trans (show τ14_.1 29 = (σ.1 29) from (congrArg (fun x9 : MS => x9.1 29) eτ14_).trans ((hxτ 29 rg_483).1))))
                obtain ⟨z98_, ez98_⟩ : ∃ y : Int32, y = sv + 1 := ⟨_, rfl⟩
                have o62 : -2147483648 ≤ sv.toInt + 1 := by omega
                have o63 : sv.toInt + 1 ≤ 2147483647 := by omega
                have tz98_ := ti_add ez98_ rfl rg_18 o62 o63
                refine lv_iinc (v := z98_) (lv' := [(3, .int z98_), (5, .long y63_), (4, .int z16_), (0, .ref h), (1, .ref (ad 32)), (2, .int base)]) hx hb dX12_run_154 hl (k := 5) rfl (iincp ez98_ rg_6) (Nat.le_of_ble_eq_true rfl) rfl (fun ls hl => ?_)
                refine lv_goto (tgt := 2) hx hb dX12_run_157 rfl ?_
                have A99_ : τ96_.2.2.1 42 = vp_updL (τ.2.2.1 42) (Int32.toNatClampNeg sv) y11_ := by rw [eτ96_, eτ14_]; rfl
                have A100_ : τ96_.2.2.1 41 = vp_updL (τ.2.2.1 41) (Int32.toNatClampNeg sv) y95_ := by rw [eτ96_, eτ14_]; rfl
                have o64 : z98_.toInt = sv.toInt + 1 := by omega
                have A101_ : (z98_ : Int32).toNatClampNeg = sv.toNatClampNeg + 1 := cl_succ o2 o64
                have o65 : 0 ≤ z98_.toInt := by omega
                have o66 : 0 ≤ (σ.2.1 12 (σ.1 29).toNatClampNeg).toInt := by omega
                have A104_ : StT (σ.1 29).toNatClampNeg (cor σ) (sv.toNatClampNeg + 1) := hR.stT.mono (by rw [← A101_]; have h8 := ti_cl (x := z98_) rfl o65; have h7 := ti_cl (x := σ.2.1 12 (σ.1 29).toNatClampNeg) rfl o66; omega)
                have o67 : ¬ (0 ≤ z16_.toInt ∧ (τ.2.1 34 (Int32.toNatClampNeg z16_)).toInt = 4) := by omega
                have o68 : 0 ≤ z16_.toInt ∧ (τ.2.1 34 (Int32.toNatClampNeg z16_)).toInt = 1 := by omega
                have A102_ : y95_ = caF (σ.1 29).toNatClampNeg (cor σ) (coJ σ) false (σ.2.1 32) (σ.2.1 37) (τ.2.2.1 41) (Int32.toNatClampNeg sv) base := by rw [ca_1 (T := cor σ) (by rw [EZ]; rw [Ek] at o67; exact o67) (by rw [EZ]; rw [Ek] at o68; exact o68), EZ, ← R65_]; simp only [ez88_, ey89_, f91_, ez92_, ey94_, ey95_, ez98_]; rw [En]; rfl
                have o69 : z98_.toInt ≤ (σ.2.1 12 (σ.1 29).toNatClampNeg).toInt := by omega
                have o70 : (12 - z98_.toInt).toNat < n2 := by omega
                exact ih2 τ96_ z98_ _ _ _ (show (12 - z98_.toInt).toNat < n2 from o70) hIτ96_ Xτ96_ o65 (by rw [A101_, A99_]; exact PlR.snoc A104_ hpl R13_) (by rw [A101_, A100_]; exact CaR.snoc A104_ hca A102_) o69 hP hD hS (lv_sub hl [3, 4, 5, 0] rfl)
          · have tc61_ := (show z60_.toInt = 4 from ti_eq rfl rg_32 c61_)
            refine lv_aload_n hx hb dX12_run_52 rfl (lv_at hl 1 rfl) ?_
            refine va_get (D := (dC, dI)) (ci := 12) (v := .ref (ad 41)) (C := RX12) (T := TX12) (N := 59) hx hb hts hin12 hown hK hP 0 rfl rfl 41 (Nat.le_of_ble_eq_true rfl) (ho (.fieldLink RX12 101 "NearEnoughModel" "came" "[J") (List.mem_of_getElem? (i := 2) rfl)) (fun _ h9 => h9) rfl dX12_run_53 ?_
            refine lv_iload_n hx hb dX12_run_56 rfl (lv_at hl 4 rfl) ?_
            refine lv_aload_n hx hb dX12_run_57 rfl (lv_at hl 1 rfl) ?_
            refine va_get (D := (dC, dI)) (ci := 12) (v := .ref (ad 27)) (C := RX12) (T := TX12) (N := 59) hx hb hts hin12 hown hK hP 0 rfl rfl 27 (Nat.le_of_ble_eq_true rfl) (ho (.fieldLink RX12 70 "NearEnoughModel" "sLeast" "[J") (List.mem_of_getElem? (i := 5) rfl)) (fun _ h9 => h9) rfl dX12_run_58 ?_
            refine lv_aload_n hx hb dX12_run_61 rfl (lv_at hl 1 rfl) ?_
            refine lv_iload_n hx hb dX12_run_62 rfl (lv_at hl 4 rfl) ?_
            refine zy_i (va_runV (As := [.int sv]) (rest := [.ref (ad 27), .int sv, .ref (ad 41)]) ⟨hx, hb, hml, hown, hts⟩ (n_at0 l dC dI h ad cl H.size τ14_ sv hIτ14_ ⟨o2, o3⟩) (cwV 1 hts gd_n_run_c_331_n_at0 rfl rfl rfl dd_n_at0 ⟨Nat.le_of_ble_eq_true rfl, Nat.le_of_ble_eq_true rfl⟩) (preV hP hK hD hE (ci := 12) (q0 := 0) rfl rfl) rfl rfl hl.1 rfl (lv_room (Nat.le_of_ble_eq_true rfl)) dX12_run_63 ⟨Nat.le_of_ble_eq_true rfl, Nat.le_of_ble_eq_true rfl⟩) hD hS hA (fun z106_ τ105_ H locs hq hP hD hS => ?_)
            obtain ⟨rfl, f107_⟩ := hq
            refine W.widen (k := 0) (n := 0) (Nat.le_of_ble_eq_true rfl) (Nat.le_of_ble_eq_true rfl) ?_
            have o71 : z106_.toInt = 12 * (σ.1 29).toInt + sv.toInt := by omega
            have Xz106_ : z106_.toNatClampNeg = 12 * (σ.1 29).toNatClampNeg + sv.toNatClampNeg := at0x (hI.1 29).1 o2 o71
            have o72 : 0 ≤ z106_.toInt := by omega
            have o73 : z106_.toInt < ((24 : Nat) : Int) := by omega
            refine va_lald hx hb hK hP 19 18 rfl rfl (ti_inx o72 o73) dX12_run_66 ?_
            refine lv_topl (fun y108_ ey108_ => ?_)
            refine lv_aload_n hx hb dX12_run_67 rfl (lv_at hl 1 rfl) ?_
            refine va_get (D := (dC, dI)) (ci := 12) (v := .ref (ad 28)) (C := RX12) (T := TX12) (N := 59) hx hb hts hin12 hown hK hP 0 rfl rfl 28 (Nat.le_of_ble_eq_true rfl) (ho (.fieldLink RX12 73 "NearEnoughModel" "sMost" "[J") (List.mem_of_getElem? (i := 6) rfl)) (fun _ h9 => h9) rfl dX12_run_68 ?_
            refine lv_aload_n hx hb dX12_run_71 rfl (lv_at hl 1 rfl) ?_
            refine lv_iload_n hx hb dX12_run_72 rfl (lv_at hl 4 rfl) ?_
            refine zy_i (va_runV (As := [.int sv]) (rest := [.ref (ad 28), .long y108_, .int sv, .ref (ad 41)]) ⟨hx, hb, hml, hown, hts⟩ (n_at0 l dC dI h ad cl H.size τ14_ sv hIτ14_ ⟨o2, o3⟩) (cwV 1 hts gd_n_run_c_331_n_at0 rfl rfl rfl dd_n_at0 ⟨Nat.le_of_ble_eq_true rfl, Nat.le_of_ble_eq_true rfl⟩) (preV hP hK hD hE (ci := 12) (q0 := 0) rfl rfl) rfl rfl hl.1 rfl (lv_room (Nat.le_of_ble_eq_true rfl)) dX12_run_73 ⟨Nat.le_of_ble_eq_true rfl, Nat.le_of_ble_eq_true rfl⟩) hD hS hA (fun z110_ τ109_ H locs hq hP hD hS => ?_)
            obtain ⟨rfl, f111_⟩ := hq
            refine W.widen (k := 0) (n := 0) (Nat.le_of_ble_eq_true rfl) (Nat.le_of_ble_eq_true rfl) ?_
            have o74 : z110_.toInt = 12 * (σ.1 29).toInt + sv.toInt := by omega
            have Xz110_ : z110_.toNatClampNeg = 12 * (σ.1 29).toNatClampNeg + sv.toNatClampNeg := at0x (hI.1 29).1 o2 o74
            have o75 : 0 ≤ z110_.toInt := by omega
            have o76 : z110_.toInt < ((24 : Nat) : Int) := by omega
            refine va_lald hx hb hK hP 20 19 rfl rfl (ti_inx o75 o76) dX12_run_76 ?_
            refine lv_topl (fun y112_ ey112_ => ?_)
            refine lv_ladd hx hb dX12_run_77 ?_
            refine lv_topl (fun y113_ ey113_ => ?_)
            refine lv_ldc2 (v := (2)) hx hb hown (ho (.constantLong RX12 368 (2)) (List.mem_of_getElem? (i := 7) rfl)) dX12_run_78 ?_
            refine zs_l (va_runS (As := [.long y113_, .long 2]) (rest := [.int sv, .ref (ad 41)]) ⟨hx, hb, hml, hown, hts⟩ (n_floorOver l dC dI y113_ 2 (by decide) H.size) (va_cwS 2 hts gd_n_run_c_337_n_floorOver rfl rfl rfl dd_n_floorOver ⟨Nat.le_of_ble_eq_true rfl, Nat.le_of_ble_eq_true rfl⟩) (preS (A := A) empP (hK.sub (tys' := []) [] rfl) empD hE) rfl rfl hl.1 rfl (lv_room (Nat.le_of_ble_eq_true rfl)) dX12_run_81 ⟨Nat.le_of_ble_eq_true rfl, Nat.le_of_ble_eq_true rfl⟩) hP hD hS hA (fun y114_ H locs hq hP hD hS => ?_)
            have f115_ := hq
            refine W.widen (k := 0) (n := 0) (Nat.le_of_ble_eq_true rfl) (Nat.le_of_ble_eq_true rfl) ?_
            refine va_last hx hb hK hP hD hS 29 28 rfl rfl (ti_inx o2 o8) dX12_run_84 (fun H locs hP hD hS => ?_)
            rw [wS41] at hP hD
            obtain ⟨τ116_, eτ116_⟩ : ∃ x9 : MS, x9 = sJ τ14_ 41 (vp_updL (τ14_.2.2.1 41) (Int32.toNatClampNeg sv) y114_) := ⟨_, rfl⟩
            have hP : va_P (dC, dI) vwCl (mW h ad cl τ116_) H := by rw [eτ116_]; exact hP
            have hD : va_D A (mW h ad cl τ116_) := by rw [eτ116_]; exact hD
            have hIτ116_ : Inv τ116_ := by rw [eτ116_]; exact (Inv.sJ hIτ14_)
            have Xτ116_ : eqx [42, 41] τ116_ σ := (eqx.eq eτ116_ (eqx.sJ Xτ14_ rg_494))
            have qq117_ : (τ116_.1 29).toInt = ((σ.1 29) : Int32).toInt := congrArg Int32.toInt ((show τ116_.1 29 = (σ.1 29) from (congrArg (fun x9 : MS => x9.1 29) eτ116_).trans (show τ14_.1 29 = (σ.1 29) from (congrArg (fun x9 : MS => x9.1 29) eτ14_).trans ((hxτ 29 rg_483).1))))
            refine lv_goto (tgt := 154) hx hb dX12_run_85 rfl ?_
            obtain ⟨z118_, ez118_⟩ : ∃ y : Int32, y = sv + 1 := ⟨_, rfl⟩
            have o77 : -2147483648 ≤ sv.toInt + 1 := by omega
            have o78 : sv.toInt + 1 ≤ 2147483647 := by omega
            have tz118_ := ti_add ez118_ rfl rg_18 o77 o78
            refine lv_iinc (v := z118_) (lv' := [(3, .int z118_), (4, .int z16_), (0, .ref h), (1, .ref (ad 32)), (2, .int base)]) hx hb dX12_run_154 hl (k := 4) rfl (iincp ez118_ rg_6) (Nat.le_of_ble_eq_true rfl) rfl (fun ls hl => ?_)
            refine lv_goto (tgt := 2) hx hb dX12_run_157 rfl ?_
            have A119_ : τ116_.2.2.1 42 = vp_updL (τ.2.2.1 42) (Int32.toNatClampNeg sv) y11_ := by rw [eτ116_, eτ14_]; rfl
            have A120_ : τ116_.2.2.1 41 = vp_updL (τ.2.2.1 41) (Int32.toNatClampNeg sv) y114_ := by rw [eτ116_, eτ14_]; rfl
            have o79 : z118_.toInt = sv.toInt + 1 := by omega
            have A121_ : (z118_ : Int32).toNatClampNeg = sv.toNatClampNeg + 1 := cl_succ o2 o79
            have o80 : 0 ≤ z118_.toInt := by omega
            have o81 : 0 ≤ (σ.2.1 12 (σ.1 29).toNatClampNeg).toInt := by omega
            have A124_ : StT (σ.1 29).toNatClampNeg (cor σ) (sv.toNatClampNeg + 1) := hR.stT.mono (by rw [← A121_]; have h8 := ti_cl (x := z118_) rfl o80; have h7 := ti_cl (x := σ.2.1 12 (σ.1 29).toNatClampNeg) rfl o81; omega)
            have o82 : 0 ≤ z16_.toInt ∧ (τ.2.1 34 (Int32.toNatClampNeg z16_)).toInt = 4 := by omega
            have A122_ : y114_ = caF (σ.1 29).toNatClampNeg (cor σ) (coJ σ) false (σ.2.1 32) (σ.2.1 37) (τ.2.2.1 41) (Int32.toNatClampNeg sv) base := by rw [ca_4 (T := cor σ) (by rw [EZ]; rw [Ek] at o82; exact o82)]; simp only [f115_, ey113_, ey108_, ey112_]; rw [Xz106_, Xz110_, (Xτ14_ 27 rg_495).2.2.1, (Xτ14_ 28 rg_496).2.2.1]; rfl
            have o83 : z118_.toInt ≤ (σ.2.1 12 (σ.1 29).toNatClampNeg).toInt := by omega
            have o84 : (12 - z118_.toInt).toNat < n2 := by omega
            exact ih2 τ116_ z118_ _ _ _ (show (12 - z118_.toInt).toNat < n2 from o84) hIτ116_ Xτ116_ o80 (by rw [A121_, A119_]; exact PlR.snoc A124_ hpl R13_) (by rw [A121_, A120_]; exact CaR.snoc A124_ hca A122_) o83 hP hD hS (lv_sub hl [2, 3, 4, 0] rfl)
  refine zH (A := A) (ws := mW h ad cl σ) (fun H hP hS => ?_) hP
  have bσ_29 : 0 ≤ (σ.1 29).toInt ∧ (σ.1 29).toInt ≤ 1 := hI.1 29
  refine lv_iconst (v := 0) hx hb dX12_run_0 rg_0 ?_
  refine lv_istore_n (lv' := [(3, .int 0), (0, .ref h), (1, .ref (ad 32)), (2, .int base)]) hx hb dX12_run_1 rfl hl (Nat.le_of_ble_eq_true rfl) rfl (fun ls hl => ?_)
  exact pt_2 _ σ 0 _ _ _ (Nat.lt_succ_self _) hI eqx.rf rg_56 PlR.z CaR.z (show (0 : Int32).toInt ≤ (σ.2.1 12 (σ.1 29).toNatClampNeg).toInt from by rw [rg_11]; exact hn12.1) hP hD hS (lv_sub hl [1, 2, 3, 0] rfl)
