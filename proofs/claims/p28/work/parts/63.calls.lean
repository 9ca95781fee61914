theorem dX12_passed_30 : decode cX12_passed 30 = .ok (.iload 6, 2) := by decide +kernel
theorem dX12_passed_32 : decode cX12_passed 32 = .ok (.aload_n 0, 1) := by decide +kernel
theorem dX12_passed_33 : decode cX12_passed 33 = .ok (.getfield 249, 3) := by decide +kernel
theorem dX12_passed_36 : decode cX12_passed 36 = .ok (.if_icmp .ge 41, 3) := by decide +kernel
theorem dX12_passed_77 : decode cX12_passed 77 = .ok (.iload 5, 2) := by decide +kernel
theorem dX12_passed_79 : decode cX12_passed 79 = .ok (.ireturn, 1) := by decide +kernel
theorem dX12_passed_39 : decode cX12_passed 39 = .ok (.iload 5, 2) := by decide +kernel
theorem dX12_passed_41 : decode cX12_passed 41 = .ok (.aload_n 0, 1) := by decide +kernel
theorem dX12_passed_42 : decode cX12_passed 42 = .ok (.getfield 97, 3) := by decide +kernel
theorem dX12_passed_45 : decode cX12_passed 45 = .ok (.iload 6, 2) := by decide +kernel
theorem dX12_passed_47 : decode cX12_passed 47 = .ok (.baload, 1) := by decide +kernel
theorem dX12_passed_48 : decode cX12_passed 48 = .ok (.ifCond .eq 19, 3) := by decide +kernel
theorem dX12_passed_67 : decode cX12_passed 67 = .ok (.iconst 0, 1) := by decide +kernel
theorem dX12_passed_68 : decode cX12_passed 68 = .ok (.iadd, 1) := by decide +kernel
theorem dX12_passed_69 : decode cX12_passed 69 = .ok (.istore 5, 2) := by decide +kernel
theorem dX12_passed_71 : decode cX12_passed 71 = .ok (.iinc 6 1, 3) := by decide +kernel
theorem dX12_passed_74 : decode cX12_passed 74 = .ok (.goto (-44), 3) := by decide +kernel
theorem dX12_passed_51 : decode cX12_passed 51 = .ok (.aload_n 0, 1) := by decide +kernel
theorem dX12_passed_52 : decode cX12_passed 52 = .ok (.iload_n 1, 1) := by decide +kernel
theorem dX12_passed_53 : decode cX12_passed 53 = .ok (.iload 6, 2) := by decide +kernel
theorem dX12_passed_55 : decode cX12_passed 55 = .ok (.invokevirtual 438, 3) := by decide +kernel
theorem dX12_passed_58 : decode cX12_passed 58 = .ok (.lload_n 3, 1) := by decide +kernel
theorem dX12_passed_59 : decode cX12_passed 59 = .ok (.lcmp, 1) := by decide +kernel
theorem dX12_passed_60 : decode cX12_passed 60 = .ok (.ifCond .le 7, 3) := by decide +kernel
theorem dX12_passed_63 : decode cX12_passed 63 = .ok (.iconst 1, 1) := by decide +kernel
theorem dX12_passed_64 : decode cX12_passed 64 = .ok (.goto 4, 3) := by decide +kernel
theorem dX12_passed_0 : decode cX12_passed 0 = .ok (.aload_n 0, 1) := by decide +kernel
theorem dX12_passed_1 : decode cX12_passed 1 = .ok (.iload_n 1, 1) := by decide +kernel
theorem dX12_passed_2 : decode cX12_passed 2 = .ok (.invokevirtual 431, 3) := by decide +kernel
theorem dX12_passed_5 : decode cX12_passed 5 = .ok (.ifCond .eq 11, 3) := by decide +kernel
theorem dX12_passed_16 : decode cX12_passed 16 = .ok (.iconst (-1), 1) := by decide +kernel
theorem dX12_passed_17 : decode cX12_passed 17 = .ok (.ireturn, 1) := by decide +kernel
theorem dX12_passed_8 : decode cX12_passed 8 = .ok (.aload_n 0, 1) := by decide +kernel
theorem dX12_passed_9 : decode cX12_passed 9 = .ok (.iload_n 2, 1) := by decide +kernel
theorem dX12_passed_10 : decode cX12_passed 10 = .ok (.invokevirtual 370, 3) := by decide +kernel
theorem dX12_passed_13 : decode cX12_passed 13 = .ok (.ifCond .ne 5, 3) := by decide +kernel
theorem dX12_passed_18 : decode cX12_passed 18 = .ok (.aload_n 0, 1) := by decide +kernel
theorem dX12_passed_19 : decode cX12_passed 19 = .ok (.iload_n 1, 1) := by decide +kernel
theorem dX12_passed_20 : decode cX12_passed 20 = .ok (.invokevirtual 441, 3) := by decide +kernel
theorem dX12_passed_23 : decode cX12_passed 23 = .ok (.lstore_n 3, 1) := by decide +kernel
theorem dX12_passed_24 : decode cX12_passed 24 = .ok (.iconst 0, 1) := by decide +kernel
theorem dX12_passed_25 : decode cX12_passed 25 = .ok (.istore 5, 2) := by decide +kernel
theorem dX12_passed_27 : decode cX12_passed 27 = .ok (.iconst 0, 1) := by decide +kernel
theorem dX12_passed_28 : decode cX12_passed 28 = .ok (.istore 6, 2) := by decide +kernel
theorem dX12_common_6 : decode cX12_common 6 = .ok (.lload 6, 2) := by decide +kernel
theorem dX12_common_8 : decode cX12_common 8 = .ok (.lconst 0, 1) := by decide +kernel
theorem dX12_common_9 : decode cX12_common 9 = .ok (.lcmp, 1) := by decide +kernel
theorem dX12_common_10 : decode cX12_common 10 = .ok (.ifCond .eq 21, 3) := by decide +kernel
theorem dX12_common_31 : decode cX12_common 31 = .ok (.lload 4, 2) := by decide +kernel
theorem dX12_common_33 : decode cX12_common 33 = .ok (.lreturn, 1) := by decide +kernel
theorem dX12_common_13 : decode cX12_common 13 = .ok (.lload 4, 2) := by decide +kernel
theorem dX12_common_15 : decode cX12_common 15 = .ok (.lload 6, 2) := by decide +kernel
theorem dX12_common_17 : decode cX12_common 17 = .ok (.lrem, 1) := by decide +kernel
theorem dX12_common_18 : decode cX12_common 18 = .ok (.lstore 8, 2) := by decide +kernel
theorem dX12_common_20 : decode cX12_common 20 = .ok (.lload 6, 2) := by decide +kernel
theorem dX12_common_22 : decode cX12_common 22 = .ok (.lstore 4, 2) := by decide +kernel
theorem dX12_common_24 : decode cX12_common 24 = .ok (.lload 8, 2) := by decide +kernel
theorem dX12_common_26 : decode cX12_common 26 = .ok (.lstore 6, 2) := by decide +kernel
theorem dX12_common_28 : decode cX12_common 28 = .ok (.goto (-22), 3) := by decide +kernel
theorem dX12_common_0 : decode cX12_common 0 = .ok (.lload_n 0, 1) := by decide +kernel
theorem dX12_common_1 : decode cX12_common 1 = .ok (.lstore 4, 2) := by decide +kernel
theorem dX12_common_3 : decode cX12_common 3 = .ok (.lload_n 2, 1) := by decide +kernel
theorem dX12_common_4 : decode cX12_common 4 = .ok (.lstore 6, 2) := by decide +kernel
theorem dX12_mean_42 : decode cX12_mean 42 = .ok (.iload 6, 2) := by decide +kernel
theorem dX12_mean_44 : decode cX12_mean 44 = .ok (.aload_n 0, 1) := by decide +kernel
theorem dX12_mean_45 : decode cX12_mean 45 = .ok (.getfield 249, 3) := by decide +kernel
theorem dX12_mean_48 : decode cX12_mean 48 = .ok (.if_icmp .ge 21, 3) := by decide +kernel
theorem dX12_mean_69 : decode cX12_mean 69 = .ok (.lload 4, 2) := by decide +kernel
theorem dX12_mean_71 : decode cX12_mean 71 = .ok (.aload_n 0, 1) := by decide +kernel
theorem dX12_mean_72 : decode cX12_mean 72 = .ok (.getfield 249, 3) := by decide +kernel
theorem dX12_mean_75 : decode cX12_mean 75 = .ok (.i2l, 1) := by decide +kernel
theorem dX12_mean_76 : decode cX12_mean 76 = .ok (.invokestatic 444, 3) := by decide +kernel
theorem dX12_mean_79 : decode cX12_mean 79 = .ok (.lstore 6, 2) := by decide +kernel
theorem dX12_mean_81 : decode cX12_mean 81 = .ok (.iload_n 3, 1) := by decide +kernel
theorem dX12_mean_82 : decode cX12_mean 82 = .ok (.ifCond .ne 11, 3) := by decide +kernel
theorem dX12_mean_93 : decode cX12_mean 93 = .ok (.aload_n 0, 1) := by decide +kernel
theorem dX12_mean_94 : decode cX12_mean 94 = .ok (.getfield 249, 3) := by decide +kernel
theorem dX12_mean_97 : decode cX12_mean 97 = .ok (.i2l, 1) := by decide +kernel
theorem dX12_mean_98 : decode cX12_mean 98 = .ok (.lload 6, 2) := by decide +kernel
theorem dX12_mean_100 : decode cX12_mean 100 = .ok (.ldiv, 1) := by decide +kernel
theorem dX12_mean_101 : decode cX12_mean 101 = .ok (.lreturn, 1) := by decide +kernel
theorem dX12_mean_85 : decode cX12_mean 85 = .ok (.lload 4, 2) := by decide +kernel
theorem dX12_mean_87 : decode cX12_mean 87 = .ok (.lload 6, 2) := by decide +kernel
theorem dX12_mean_89 : decode cX12_mean 89 = .ok (.ldiv, 1) := by decide +kernel
theorem dX12_mean_90 : decode cX12_mean 90 = .ok (.goto 11, 3) := by decide +kernel
theorem dX12_mean_51 : decode cX12_mean 51 = .ok (.lload 4, 2) := by decide +kernel
theorem dX12_mean_53 : decode cX12_mean 53 = .ok (.aload_n 0, 1) := by decide +kernel
theorem dX12_mean_54 : decode cX12_mean 54 = .ok (.iload_n 1, 1) := by decide +kernel
theorem dX12_mean_55 : decode cX12_mean 55 = .ok (.iload 6, 2) := by decide +kernel
theorem dX12_mean_57 : decode cX12_mean 57 = .ok (.invokevirtual 438, 3) := by decide +kernel
theorem dX12_mean_60 : decode cX12_mean 60 = .ok (.ladd, 1) := by decide +kernel
theorem dX12_mean_61 : decode cX12_mean 61 = .ok (.lstore 4, 2) := by decide +kernel
theorem dX12_mean_63 : decode cX12_mean 63 = .ok (.iinc 6 1, 3) := by decide +kernel
theorem dX12_mean_66 : decode cX12_mean 66 = .ok (.goto (-24), 3) := by decide +kernel
theorem dX12_mean_0 : decode cX12_mean 0 = .ok (.aload_n 0, 1) := by decide +kernel
theorem dX12_mean_1 : decode cX12_mean 1 = .ok (.iload_n 1, 1) := by decide +kernel
theorem dX12_mean_2 : decode cX12_mean 2 = .ok (.invokevirtual 431, 3) := by decide +kernel
theorem dX12_mean_5 : decode cX12_mean 5 = .ok (.ifCond .eq 27, 3) := by decide +kernel
theorem dX12_mean_32 : decode cX12_mean 32 = .ok (.ldc2_w 373, 3) := by decide +kernel
theorem dX12_mean_35 : decode cX12_mean 35 = .ok (.lreturn, 1) := by decide +kernel
theorem dX12_mean_8 : decode cX12_mean 8 = .ok (.aload_n 0, 1) := by decide +kernel
theorem dX12_mean_9 : decode cX12_mean 9 = .ok (.iload_n 2, 1) := by decide +kernel
theorem dX12_mean_10 : decode cX12_mean 10 = .ok (.invokevirtual 370, 3) := by decide +kernel
theorem dX12_mean_13 : decode cX12_mean 13 = .ok (.ifCond .eq 19, 3) := by decide +kernel
theorem dX12_mean_16 : decode cX12_mean 16 = .ok (.aload_n 0, 1) := by decide +kernel
theorem dX12_mean_17 : decode cX12_mean 17 = .ok (.getfield 249, 3) := by decide +kernel
theorem dX12_mean_20 : decode cX12_mean 20 = .ok (.ifCond .eq 12, 3) := by decide +kernel
theorem dX12_mean_23 : decode cX12_mean 23 = .ok (.iload_n 3, 1) := by decide +kernel
theorem dX12_mean_24 : decode cX12_mean 24 = .ok (.iconst 0, 1) := by decide +kernel
theorem dX12_mean_25 : decode cX12_mean 25 = .ok (.iconst 1, 1) := by decide +kernel
theorem dX12_mean_26 : decode cX12_mean 26 = .ok (.invokestatic 324, 3) := by decide +kernel
theorem dX12_mean_29 : decode cX12_mean 29 = .ok (.ifCond .ne 7, 3) := by decide +kernel
theorem dX12_mean_36 : decode cX12_mean 36 = .ok (.lconst 0, 1) := by decide +kernel
theorem dX12_mean_37 : decode cX12_mean 37 = .ok (.lstore 4, 2) := by decide +kernel
theorem dX12_mean_39 : decode cX12_mean 39 = .ok (.iconst 0, 1) := by decide +kernel
theorem dX12_mean_40 : decode cX12_mean 40 = .ok (.istore 6, 2) := by decide +kernel
theorem rg_582 : 39 ∉ [37, 41, 42, 43, 44, 45, 46, 32, 47, 48, 49, 54, 55, 56, 57] := by decide
def ow_n_passed : List Cond := [.fieldLink RX12 249 "NearEnoughModel" "sheets" "I", .fieldLink RX12 97 "NearEnoughModel" "isKeptBack" "[Z"]
def vs_n_passed : List Cond := .code yX12_passed cX12_passed 7 (some .int) :: (ow_n_passed ++ (([.methodLink RX12 438 yX12_farOn, .instanceMethod yX12_farOn, .selects RX12 yX12_farOn yX12_farOn, .initialized RX12] : List Cond) ++ (vs_n_farOn ++ (([.methodLink RX12 431 yX12_isEnd, .instanceMethod yX12_isEnd, .selects RX12 yX12_isEnd yX12_isEnd, .initialized RX12] : List Cond) ++ (vs_n_isEnd ++ (([.methodLink RX12 370 yX12_isOpen, .instanceMethod yX12_isOpen, .selects RX12 yX12_isOpen yX12_isOpen, .initialized RX12] : List Cond) ++ (vs_n_isOpen ++ (([.methodLink RX12 441 yX12_measure, .instanceMethod yX12_measure, .selects RX12 yX12_measure yX12_measure, .initialized RX12] : List Cond) ++ (vs_n_measure ++ (wsX120))))))))))
theorem vg_n_passed : vs_n_passed.all goodWord = true := by decide +kernel
theorem dd_n_passed : yX12_passed.cls = RX12 ∧ yX12_passed.cls ≠ "java/lang/invoke/MethodHandle" ∧ yX12_passed.cls ≠ "java/lang/invoke/VarHandle" ∧ (parseMethodDescriptor yX12_passed.desc).map (fun d => d.parameters.length) = some 2 := by decide +kernel
def rm_n_passed : Room := { frames := 7, cells := 0, slots := 0, locals := 185 }
theorem gd_n_passed_438_n_farOn : GoodIn vs_n_passed (wsV RX12 438 RX12 yX12_farOn vs_n_farOn) := goodIn_app (goodIn_sub (fun w h => (List.mem_cons_of_mem _ (List.mem_append_right _ (List.mem_append_left _ h)))) (by decide +kernel)) (goodIn_sub (fun w h => (List.mem_cons_of_mem _ (List.mem_append_right _ (List.mem_append_right _ (List.mem_append_left _ h))))) vg_n_farOn)
theorem gd_n_passed_431_n_isEnd : GoodIn vs_n_passed (wsV RX12 431 RX12 yX12_isEnd vs_n_isEnd) := goodIn_app (goodIn_sub (fun w h => (List.mem_cons_of_mem _ (List.mem_append_right _ (List.mem_append_right _ (List.mem_append_right _ (List.mem_append_left _ h)))))) (by decide +kernel)) (goodIn_sub (fun w h => (List.mem_cons_of_mem _ (List.mem_append_right _ (List.mem_append_right _ (List.mem_append_right _ (List.mem_append_right _ (List.mem_append_left _ h))))))) vg_n_isEnd)
theorem gd_n_passed_370_n_isOpen : GoodIn vs_n_passed (wsV RX12 370 RX12 yX12_isOpen vs_n_isOpen) := goodIn_app (goodIn_sub (fun w h => (List.mem_cons_of_mem _ (List.mem_append_right _ (List.mem_append_right _ (List.mem_append_right _ (List.mem_append_right _ (List.mem_append_right _ (List.mem_append_left _ h)))))))) (by decide +kernel)) (goodIn_sub (fun w h => (List.mem_cons_of_mem _ (List.mem_append_right _ (List.mem_append_right _ (List.mem_append_right _ (List.mem_append_right _ (List.mem_append_right _ (List.mem_append_right _ (List.mem_append_left _ h))))))))) vg_n_isOpen)
theorem gd_n_passed_441_n_measure : GoodIn vs_n_passed (wsV RX12 441 RX12 yX12_measure vs_n_measure) := goodIn_app (goodIn_sub (fun w h => (List.mem_cons_of_mem _ (List.mem_append_right _ (List.mem_append_right _ (List.mem_append_right _ (List.mem_append_right _ (List.mem_append_right _ (List.mem_append_right _ (List.mem_append_right _ (List.mem_append_left _ h)))))))))) (by decide +kernel)) (goodIn_sub (fun w h => (List.mem_cons_of_mem _ (List.mem_append_right _ (List.mem_append_right _ (List.mem_append_right _ (List.mem_append_right _ (List.mem_append_right _ (List.mem_append_right _ (List.mem_append_right _ (List.mem_append_right _ (List.mem_append_left _ h))))))))))) vg_n_measure)
set_option maxHeartbeats 4000000 in
set_option maxRecDepth 100000 in
theorem n_passed (l : Launch) (dC : Nat → ClassId) (dI : Nat → Nat → Nat) (h : Nat) (ad : Nat → Nat) (cl : Nat → ClassId) (sz : Nat) (σ : MS) (x : Int32) (y : Int32) (hI : Inv σ) (hR : RelP σ (σ.1 29).toNatClampNeg) (hC : ChR σ) : Met l yX12_passed vs_n_passed rm_n_passed (va_Pc [.ref h, .int x, .int y] (wSt dC dI (mW h ad cl σ) (mT cl) sz)) (va_Qi (fun (r : Int32) (τ : MS) => Inv τ ∧ eqx [37, 41, 42, 43, 44, 45, 46, 32, 47, 48, 49, 54, 55, 56, 57] τ σ) (fun (τ : MS) => wEn dC dI (va_A (mW h ad cl σ) sz) (mW h ad cl τ) []) (va_A (mW h ad cl σ) sz)) 0 0 (va_A (mW h ad cl σ) sz) := by
  refine Met.ofW (cc := cX12_passed) (maxL := 7) (ret := (some .int)) (by decide) rfl ?_
  intro p e s m args below meth c s₁ B hml hv
  obtain ⟨rfl, hsz, hP, hK, hD0, hE⟩ := hv
  have hx := B.exec
  have hb := B.bytes
  have hr := B.returns
  have hts := atoms_spec (ws := vs_n_passed) B.pre
  have hown : s.vm.findClass RX12 = some m.cls := findClass_of_methodNamed B.named
  have hlocks := B.notSynchronized
  subst hsz
  have hD := hD0.self (sz := s.heap.size)
  generalize hAe : va_A (mW h ad cl σ) s.heap.size = A at hD ⊢
  have hA : ∀ q : Nat, s.heap.size ≤ q → A q := fun q h => by rw [← hAe]; exact Or.inr h
  have hl := lv_entry ([.ref h, .int x, .int y]) (n := 7) (Nat.le_of_ble_eq_true rfl)
  rw [lg_entry_eq]
  generalize (lg_sl ([.ref h, .int x, .int y]) ++ List.replicate (7 - (lg_sl ([.ref h, .int x, .int y])).length) Slot.unset).toArray = ls at hl ⊢
  have hl : lv_has ls 7 [(0, .ref h), (1, .int x), (2, .int y)] := hl
  have ho := fun w (h : w ∈ ow_n_passed) => hts w (List.mem_cons_of_mem _ (List.mem_append_left _ h))
  have hin12 : ∀ w ∈ u_ws RX12 TX12 59, w ∈ vs_n_passed := fun w h => (List.mem_cons_of_mem _ (List.mem_append_right _ (List.mem_append_right _ (List.mem_append_right _ (List.mem_append_right _ (List.mem_append_right _ (List.mem_append_right _ (List.mem_append_right _ (List.mem_append_right _ (List.mem_append_right _ h))))))))))
  refine zQ (fun Q hQ => ?_)
  have pt_30 : ∀ (n30 : Nat) (τ : MS) (mo : Int64) (nv : Int32) (kv : Int32) (H : Heap) (locs : List Loc) (ls : Array Slot), (40 - kv.toInt).toNat < n30 → (Inv τ) → (eqx [37, 41, 42, 43, 44, 45, 46, 32, 47, 48, 49, 54, 55, 56, 57] τ σ) → (0 ≤ kv.toInt) → (OnOk τ) → (EndOk σ x) → va_P (dC, dI) vwCl (mW h ad cl τ) H → va_D A (mW h ad cl τ) → va_S A s.heap H locs → lv_has ls 7 [(0, .ref h), (1, .int x), (2, .int y), (3, .long mo), (5, .int nv), (6, .int kv)] → W p l e (headSpec vs_n_passed rm_n_passed).room s m #[Value.ref h, Value.int x, Value.int y] below meth c H locs 0 0 Q (F0 m 30 ls []) := by
    intro n30
    induction n30 with
    | zero => intro τ mo nv kv H locs ls hn30 hIτ hxτ hk0τ honτ henτ hP hD hS hl; exact absurd hn30 (Nat.not_lt_zero _)
    | succ n30 ih30 =>
      intro τ mo nv kv H locs ls hn30 hIτ hxτ hk0τ honτ henτ hP hD hS hl
      have bτ_29 : 0 ≤ (τ.1 29).toInt ∧ (τ.1 29).toInt ≤ 1 := hIτ.1 29
      have qq1_ : (τ.1 29).toInt = ((σ.1 29) : Int32).toInt := congrArg Int32.toInt (((hxτ 29 rg_571).1))
      have bτ_39 : 0 ≤ (τ.1 39).toInt ∧ (τ.1 39).toInt ≤ 40 := hIτ.1 39
      have qq2_ : (τ.1 39).toInt = ((σ.1 39) : Int32).toInt := congrArg Int32.toInt (((hxτ 39 rg_582).1))
      refine lv_iload hx hb dX12_passed_30 (lv_at hl 5 rfl) ?_
      refine lv_aload_n hx hb dX12_passed_32 rfl (lv_at hl 0 rfl) ?_
      refine va_get (D := (dC, dI)) (ci := 12) (v := .int (τ.1 39)) (C := RX12) (T := TX12) (N := 59) hx hb hts hin12 hown hK hP 0 rfl rfl 39 (Nat.le_of_ble_eq_true rfl) (ho (.fieldLink RX12 249 "NearEnoughModel" "sheets" "I") (List.mem_of_getElem? (i := 0) rfl)) (fun _ h9 => h9) rfl dX12_passed_33 ?_
      refine zi (v := (σ.1 39)) ((hxτ 39 rg_582).1) ?_
      have bb3_ : 0 ≤ (σ.1 39).toInt ∧ (σ.1 39).toInt ≤ 40 := by have h9 := hIτ.1 39; rw [show (τ.1 39) = (σ.1 39) from ((hxτ 39 rg_582).1)] at h9; exact h9
      refine lv_icmp_ge (tgt := 77) hx hb dX12_passed_36 rfl (fun c4_ => ?_) (fun c4_ => ?_)
      · have tc4_ := (show (σ.1 39).toInt ≤ kv.toInt from ti_le rfl rfl c4_)
        refine lv_iload hx hb dX12_passed_77 (lv_at hl 4 rfl) ?_
        rw [hQ]
        exact W.iret (v := nv) hx hb hr (fun t ht hW => ⟨⟨nv, τ, rfl, ⟨hIτ, hxτ⟩, wEn_of hP (hK.sub [] rfl) hD ht hW⟩, hS.F ht⟩) hS.2.2 dX12_passed_79
      · have tc4_ := (show kv.toInt < (σ.1 39).toInt from ti_nle rfl rfl c4_)
        refine lv_iload hx hb dX12_passed_39 (lv_at hl 4 rfl) ?_
        refine lv_aload_n hx hb dX12_passed_41 rfl (lv_at hl 0 rfl) ?_
        refine va_get (D := (dC, dI)) (ci := 12) (v := .ref (ad 38)) (C := RX12) (T := TX12) (N := 59) hx hb hts hin12 hown hK hP 0 rfl rfl 38 (Nat.le_of_ble_eq_true rfl) (ho (.fieldLink RX12 97 "NearEnoughModel" "isKeptBack" "[Z") (List.mem_of_getElem? (i := 1) rfl)) (fun _ h9 => h9) rfl dX12_passed_42 ?_
        refine lv_iload hx hb dX12_passed_45 (lv_at hl 5 rfl) ?_
        have o1 : 0 ≤ kv.toInt := by omega
        have o2 : kv.toInt < ((40 : Nat) : Int) := by omega
        refine va_zald hx hb hK hP 28 27 rfl rfl (ti_inx o1 o2) dX12_passed_47 ?_
        refine lv_topi (fun z5_ ez5_ => ?_)
        have gz5_ : z5_.toInt = ((τ.2.1 38) (Int32.toNatClampNeg kv)).toInt := congrArg Int32.toInt (ez5_.trans (congrFun rfl (Int32.toNatClampNeg kv)))
        refine lv_if_eq (tgt := 67) hx hb dX12_passed_48 rfl (fun c6_ => ?_) (fun c6_ => ?_)
        · have tc6_ := (show z5_.toInt = 0 from ti_eq rfl rg_11 c6_)
          refine lv_iconst (v := 0) hx hb dX12_passed_67 rg_0 ?_
          refine lv_iadd hx hb dX12_passed_68 ?_
          refine lv_topi (fun z7_ ez7_ => ?_)
          refine lv_istore (lv' := [(5, .int z7_), (0, .ref h), (1, .int x), (2, .int y), (3, .long mo), (6, .int kv)]) hx hb dX12_passed_69 hl (Nat.le_of_ble_eq_true rfl) rfl (fun ls hl => ?_)
          obtain ⟨z8_, ez8_⟩ : ∃ y : Int32, y = kv + 1 := ⟨_, rfl⟩
          have o3 : -2147483648 ≤ kv.toInt + 1 := by omega
          have o4 : kv.toInt + 1 ≤ 2147483647 := by omega
          have tz8_ := ti_add ez8_ rfl rg_18 o3 o4
          refine lv_iinc (v := z8_) (lv' := [(6, .int z8_), (5, .int z7_), (0, .ref h), (1, .int x), (2, .int y), (3, .long mo)]) hx hb dX12_passed_71 hl (k := 5) rfl (iincp ez8_ rg_6) (Nat.le_of_ble_eq_true rfl) rfl (fun ls hl => ?_)
          refine lv_goto (tgt := 30) hx hb dX12_passed_74 rfl ?_
          have o5 : (40 - z8_.toInt).toNat < n30 := by omega
          have o6 : 0 ≤ z8_.toInt := by omega
          exact ih30 τ mo z7_ z8_ _ _ _ (show (40 - z8_.toInt).toNat < n30 from o5) hIτ hxτ (show 0 ≤ z8_.toInt from o6) honτ henτ hP hD hS (lv_sub hl [2, 3, 4, 5, 1, 0] rfl)
        · have tc6_ := (show z5_.toInt ≠ 0 from ti_ne rfl rg_11 c6_)
          refine lv_aload_n hx hb dX12_passed_51 rfl (lv_at hl 0 rfl) ?_
          refine lv_iload_n hx hb dX12_passed_52 rfl (lv_at hl 1 rfl) ?_
          refine lv_iload hx hb dX12_passed_53 (lv_at hl 5 rfl) ?_
          have o7 : kv.toInt ≤ 39 := by omega
          refine zy_l (va_runV (As := [.int x, .int kv]) (rest := [.int nv]) ⟨hx, hb, hml, hown, hts⟩ (n_farOn l dC dI h ad cl H.size τ x kv hIτ (RelP.x hR hxτ rg_571 rg_572) honτ (EndOk.x henτ hxτ rg_571 rg_577) ⟨o1, o7⟩) (cwV 2 hts gd_n_passed_438_n_farOn rfl rfl rfl dd_n_farOn ⟨Nat.le_of_ble_eq_true rfl, Nat.le_of_ble_eq_true rfl⟩) (preV hP hK hD hE (ci := 12) (q0 := 0) rfl rfl) rfl rfl hl.1 rfl (lv_room (Nat.le_of_ble_eq_true rfl)) dX12_passed_55 ⟨Nat.le_of_ble_eq_true rfl, Nat.le_of_ble_eq_true rfl⟩) hD hS hA (fun y10_ τ9_ H locs hq hP hD hS => ?_)
          obtain ⟨hI11_, hx12_, f13_⟩ := hq
          have Xτ9_ : eqx [37, 41, 42, 43, 44, 45, 46, 32, 47, 48, 49, 54, 55, 56, 57] τ9_ σ := eqx.tr hx12_ hxτ rg_575
          have qq14_ : (τ9_.1 29).toInt = ((σ.1 29) : Int32).toInt := congrArg Int32.toInt ((show τ9_.1 29 = (σ.1 29) from ((hx12_ 29 rg_483).1).trans ((hxτ 29 rg_571).1)))
          have qq15_ : (τ9_.1 39).toInt = ((σ.1 39) : Int32).toInt := congrArg Int32.toInt ((show τ9_.1 39 = (σ.1 39) from ((hx12_ 39 rg_576).1).trans ((hxτ 39 rg_582).1)))
          refine W.widen (k := 0) (n := 0) (Nat.le_of_ble_eq_true rfl) (Nat.le_of_ble_eq_true rfl) ?_
          refine lv_lload_n hx hb dX12_passed_58 rfl (lv_at hl 3 rfl) ?_
          refine W.lcmp hx hb dX12_passed_59 ?_
          refine lv_topi (fun z16_ ez16_ => ?_)
          refine lv_if_le (tgt := 67) hx hb dX12_passed_60 rfl (fun c17_ => ?_) (fun c17_ => ?_)
          · have tc17_ := (show z16_.toInt ≤ 0 from ti_le rfl rg_11 c17_)
            have lc17_ : y10_ ≤ mo := (lg_cmp_le y10_ mo).mp (by rw [← ez16_]; exact c17_)
            refine lv_iconst (v := 0) hx hb dX12_passed_67 rg_0 ?_
            refine lv_iadd hx hb dX12_passed_68 ?_
            refine lv_topi (fun z18_ ez18_ => ?_)
            refine lv_istore (lv' := [(5, .int z18_), (0, .ref h), (1, .int x), (2, .int y), (3, .long mo), (6, .int kv)]) hx hb dX12_passed_69 hl (Nat.le_of_ble_eq_true rfl) rfl (fun ls hl => ?_)
            obtain ⟨z19_, ez19_⟩ : ∃ y : Int32, y = kv + 1 := ⟨_, rfl⟩
            have o8 : -2147483648 ≤ kv.toInt + 1 := by omega
            have o9 : kv.toInt + 1 ≤ 2147483647 := by omega
            have tz19_ := ti_add ez19_ rfl rg_18 o8 o9
            refine lv_iinc (v := z19_) (lv' := [(6, .int z19_), (5, .int z18_), (0, .ref h), (1, .int x), (2, .int y), (3, .long mo)]) hx hb dX12_passed_71 hl (k := 5) rfl (iincp ez19_ rg_6) (Nat.le_of_ble_eq_true rfl) rfl (fun ls hl => ?_)
            refine lv_goto (tgt := 30) hx hb dX12_passed_74 rfl ?_
            have o10 : (40 - z19_.toInt).toNat < n30 := by omega
            have o11 : 0 ≤ z19_.toInt := by omega
            exact ih30 τ9_ mo z18_ z19_ _ _ _ (show (40 - z19_.toInt).toNat < n30 from o10) hI11_ Xτ9_ (show 0 ≤ z19_.toInt from o11) (OnOk.x honτ hx12_ rg_492 rg_493 rg_487) henτ hP hD hS (lv_sub hl [2, 3, 4, 5, 1, 0] rfl)
          · have tc17_ := (show 0 < z16_.toInt from ti_nle rfl rg_11 c17_)
            have lc17_ : ¬ y10_ ≤ mo := fun h => c17_ (by rw [ez16_]; exact (lg_cmp_le y10_ mo).mpr h)
            refine lv_iconst (v := 1) hx hb dX12_passed_63 rg_6 ?_
            refine lv_goto (tgt := 68) hx hb dX12_passed_64 rfl ?_
            refine lv_iadd hx hb dX12_passed_68 ?_
            refine lv_topi (fun z20_ ez20_ => ?_)
            refine lv_istore (lv' := [(5, .int z20_), (0, .ref h), (1, .int x), (2, .int y), (3, .long mo), (6, .int kv)]) hx hb dX12_passed_69 hl (Nat.le_of_ble_eq_true rfl) rfl (fun ls hl => ?_)
            obtain ⟨z21_, ez21_⟩ : ∃ y : Int32, y = kv + 1 := ⟨_, rfl⟩
            have o12 : -2147483648 ≤ kv.toInt + 1 := by omega
            have o13 : kv.toInt + 1 ≤ 2147483647 := by omega
            have tz21_ := ti_add ez21_ rfl rg_18 o12 o13
            refine lv_iinc (v := z21_) (lv' := [(6, .int z21_), (5, .int z20_), (0, .ref h), (1, .int x), (2, .int y), (3, .long mo)]) hx hb dX12_passed_71 hl (k := 5) rfl (iincp ez21_ rg_6) (Nat.le_of_ble_eq_true rfl) rfl (fun ls hl => ?_)
            refine lv_goto (tgt := 30) hx hb dX12_passed_74 rfl ?_
            have o14 : (40 - z21_.toInt).toNat < n30 := by omega
            have o15 : 0 ≤ z21_.toInt := by omega
            exact ih30 τ9_ mo z20_ z21_ _ _ _ (show (40 - z21_.toInt).toNat < n30 from o14) hI11_ Xτ9_ (show 0 ≤ z21_.toInt from o15) (OnOk.x honτ hx12_ rg_492 rg_493 rg_487) henτ hP hD hS (lv_sub hl [2, 3, 4, 5, 1, 0] rfl)
  refine zH (A := A) (ws := mW h ad cl σ) (fun H hP hS => ?_) hP
  have bσ_29 : 0 ≤ (σ.1 29).toInt ∧ (σ.1 29).toInt ≤ 1 := hI.1 29
  have bσ_39 : 0 ≤ (σ.1 39).toInt ∧ (σ.1 39).toInt ≤ 40 := hI.1 39
  refine lv_aload_n hx hb dX12_passed_0 rfl (lv_at hl 0 rfl) ?_
  refine lv_iload_n hx hb dX12_passed_1 rfl (lv_at hl 1 rfl) ?_
  refine zy_i (va_runV (As := [.int x]) (rest := []) ⟨hx, hb, hml, hown, hts⟩ (n_isEnd l dC dI h ad cl H.size σ x hI) (cwV 1 hts gd_n_passed_431_n_isEnd rfl rfl rfl dd_n_isEnd ⟨Nat.le_of_ble_eq_true rfl, Nat.le_of_ble_eq_true rfl⟩) (preV hP hK hD hE (ci := 12) (q0 := 0) rfl rfl) rfl rfl hl.1 rfl (lv_room (Nat.le_of_ble_eq_true rfl)) dX12_passed_2 ⟨Nat.le_of_ble_eq_true rfl, Nat.le_of_ble_eq_true rfl⟩) hD hS hA (fun z23_ τ22_ H locs hq hP hD hS => ?_)
  obtain ⟨rfl, f24_⟩ := hq
  refine W.widen (k := 0) (n := 0) (Nat.le_of_ble_eq_true rfl) (Nat.le_of_ble_eq_true rfl) ?_
  refine lv_if_eq (tgt := 16) hx hb dX12_passed_5 rfl (fun c25_ => ?_) (fun c25_ => ?_)
  · have tc25_ := (show z23_.toInt = 0 from ti_eq rfl rg_11 c25_)
    refine lv_iconst (v := (-1)) hx hb dX12_passed_16 rg_53 ?_
    rw [hQ]
    exact W.iret (v := (-1)) hx hb hr (fun t ht hW => ⟨⟨(-1), σ, rfl, ⟨hI, eqx.rf⟩, wEn_of hP (hK.sub [] rfl) hD ht hW⟩, hS.F ht⟩) hS.2.2 dX12_passed_17
  · have tc25_ := (show z23_.toInt ≠ 0 from ti_ne rfl rg_11 c25_)
    refine lv_aload_n hx hb dX12_passed_8 rfl (lv_at hl 0 rfl) ?_
    refine lv_iload_n hx hb dX12_passed_9 rfl (lv_at hl 2 rfl) ?_
    refine zy_i (va_runV (As := [.int y]) (rest := []) ⟨hx, hb, hml, hown, hts⟩ (n_isOpen l dC dI h ad cl H.size σ y hI hR hC) (cwV 1 hts gd_n_passed_370_n_isOpen rfl rfl rfl dd_n_isOpen ⟨Nat.le_of_ble_eq_true rfl, Nat.le_of_ble_eq_true rfl⟩) (preV hP hK hD hE (ci := 12) (q0 := 0) rfl rfl) rfl rfl hl.1 rfl (lv_room (Nat.le_of_ble_eq_true rfl)) dX12_passed_10 ⟨Nat.le_of_ble_eq_true rfl, Nat.le_of_ble_eq_true rfl⟩) hD hS hA (fun z27_ τ26_ H locs hq hP hD hS => ?_)
    obtain ⟨hI28_, hx29_, f30_⟩ := hq
    have Xτ26_ : eqx [37, 41, 42, 43, 44, 45, 46, 32, 47, 48, 49, 54, 55, 56, 57] τ26_ σ := eqx.tr hx29_ eqx.rf rg_568
    have qq31_ : (τ26_.1 29).toInt = ((σ.1 29) : Int32).toInt := congrArg Int32.toInt ((show τ26_.1 29 = (σ.1 29) from ((hx29_ 29 rg_569).1).trans rfl))
    have qq32_ : (τ26_.1 39).toInt = ((σ.1 39) : Int32).toInt := congrArg Int32.toInt ((show τ26_.1 39 = (σ.1 39) from ((hx29_ 39 rg_570).1).trans rfl))
    refine W.widen (k := 0) (n := 0) (Nat.le_of_ble_eq_true rfl) (Nat.le_of_ble_eq_true rfl) ?_
    refine lv_if_ne (tgt := 18) hx hb dX12_passed_13 rfl (fun c33_ => ?_) (fun c33_ => ?_)
    · have tc33_ := (show z27_.toInt ≠ 0 from ti_ne rfl rg_11 c33_)
      refine lv_aload_n hx hb dX12_passed_18 rfl (lv_at hl 0 rfl) ?_
      refine lv_iload_n hx hb dX12_passed_19 rfl (lv_at hl 1 rfl) ?_
      have o16 : ¬ z27_.toInt = 0 := by omega
      have POK34_ : Opn σ y (τ26_.2.1 37) (τ26_.2.2.1 43) (τ26_.2.2.1 44) := by rcases f30_ with q | q; exact q.2; exact absurd q.1 o16
      have OK34_ : OnOk τ26_ := OnR.ok hI hC hx29_ rg_573 rg_574 POK34_.1
      have o17 : 0 ≤ x.toInt := by omega
      have o18 : x.toInt ≤ 3 := by omega
      have o19 : x.toInt < (σ.2.1 13 (σ.1 29).toNatClampNeg).toInt := by omega
      have HE35_ : EndOk σ x := ⟨o17, o18, o19⟩
      refine zy_l (va_runV (As := [.int x]) (rest := []) ⟨hx, hb, hml, hown, hts⟩ (n_measure l dC dI h ad cl H.size τ26_ x hI28_ (RelP.x hR Xτ26_ rg_571 rg_572) OK34_ (EndOk.x HE35_ Xτ26_ rg_571 rg_577)) (cwV 1 hts gd_n_passed_441_n_measure rfl rfl rfl dd_n_measure ⟨Nat.le_of_ble_eq_true rfl, Nat.le_of_ble_eq_true rfl⟩) (preV hP hK hD hE (ci := 12) (q0 := 0) rfl rfl) rfl rfl hl.1 rfl (lv_room (Nat.le_of_ble_eq_true rfl)) dX12_passed_20 ⟨Nat.le_of_ble_eq_true rfl, Nat.le_of_ble_eq_true rfl⟩) hD hS hA (fun y37_ τ36_ H locs hq hP hD hS => ?_)
      obtain ⟨hI38_, hx39_⟩ := hq
      have Xτ36_ : eqx [37, 41, 42, 43, 44, 45, 46, 32, 47, 48, 49, 54, 55, 56, 57] τ36_ σ := eqx.tr hx39_ Xτ26_ rg_575
      have qq40_ : (τ36_.1 29).toInt = ((σ.1 29) : Int32).toInt := congrArg Int32.toInt ((show τ36_.1 29 = (σ.1 29) from ((hx39_ 29 rg_483).1).trans (show τ26_.1 29 = (σ.1 29) from ((hx29_ 29 rg_569).1).trans rfl)))
      have qq41_ : (τ36_.1 39).toInt = ((σ.1 39) : Int32).toInt := congrArg Int32.toInt ((show τ36_.1 39 = (σ.1 39) from ((hx39_ 39 rg_576).1).trans (show τ26_.1 39 = (σ.1 39) from ((hx29_ 39 rg_570).1).trans rfl)))
      refine W.widen (k := 0) (n := 0) (Nat.le_of_ble_eq_true rfl) (Nat.le_of_ble_eq_true rfl) ?_
      refine lv_lstore_n (lv' := [(3, .long y37_), (0, .ref h), (1, .int x), (2, .int y)]) hx hb dX12_passed_23 rfl hl (Nat.le_of_ble_eq_true rfl) rfl (fun ls hl => ?_)
      refine lv_iconst (v := 0) hx hb dX12_passed_24 rg_0 ?_
      refine lv_istore (lv' := [(5, .int 0), (3, .long y37_), (0, .ref h), (1, .int x), (2, .int y)]) hx hb dX12_passed_25 hl (Nat.le_of_ble_eq_true rfl) rfl (fun ls hl => ?_)
      refine lv_iconst (v := 0) hx hb dX12_passed_27 rg_0 ?_
      refine lv_istore (lv' := [(6, .int 0), (5, .int 0), (3, .long y37_), (0, .ref h), (1, .int x), (2, .int y)]) hx hb dX12_passed_28 hl (Nat.le_of_ble_eq_true rfl) rfl (fun ls hl => ?_)
      exact pt_30 _ τ36_ y37_ 0 0 _ _ _ (Nat.lt_succ_self _) hI38_ Xτ36_ rg_56 (OnOk.x OK34_ hx39_ rg_492 rg_493 rg_487) HE35_ hP hD hS (lv_sub hl [3, 4, 5, 2, 1, 0] rfl)
    · have tc33_ := (show z27_.toInt = 0 from ti_eq rfl rg_11 c33_)
      refine lv_iconst (v := (-1)) hx hb dX12_passed_16 rg_53 ?_
      rw [hQ]
      exact W.iret (v := (-1)) hx hb hr (fun t ht hW => ⟨⟨(-1), τ26_, rfl, ⟨hI28_, Xτ26_⟩, wEn_of hP (hK.sub [] rfl) hD ht hW⟩, hS.F ht⟩) hS.2.2 dX12_passed_17
def ow_n_common : List Cond := []
def vs_n_common : List Cond := .code yX12_common cX12_common 10 (some .long) :: (ow_n_common)
theorem vg_n_common : vs_n_common.all goodWord = true := by decide +kernel
theorem dd_n_common : yX12_common.cls ≠ "java/lang/invoke/MethodHandle" ∧ yX12_common.cls ≠ "java/lang/invoke/VarHandle" ∧ (parseMethodDescriptor yX12_common.desc).map (fun d => d.parameters.length) = some 2 := by decide +kernel
def rm_n_common : Room := { frames := 0, cells := 0, slots := 0, locals := 0 }
set_option maxHeartbeats 4000000 in
set_option maxRecDepth 100000 in
theorem n_common (l : Launch) (dC : Nat → ClassId) (dI : Nat → Nat → Nat) (x : Int64) (y : Int64) (hy : ¬ y = 0) (sz : Nat) : Met l yX12_common vs_n_common rm_n_common (va_Pc [.long x, .long y] (wSt dC dI [] [] sz)) (va_Ql (fun (r : Int64) (_ : Unit) => ¬ r = 0) (fun (_ : Unit) => wEn dC dI (va_A [] sz) [] []) (va_A ([]) sz)) 0 0 (va_A ([]) sz) := by
  refine Met.ofW (cc := cX12_common) (maxL := 10) (ret := (some .long)) (by decide) rfl ?_
  intro p e s m args below meth c s₁ B hml hv
  obtain ⟨rfl, hsz, hP, hK, hD0, hE⟩ := hv
  have hx := B.exec
  have hb := B.bytes
  have hr := B.returns
  have hts := atoms_spec (ws := vs_n_common) B.pre
  have hown : s.vm.findClass RX12 = some m.cls := findClass_of_methodNamed B.named
  have hlocks := B.notSynchronized
  subst hsz
  have hD := hD0.self (sz := s.heap.size)
  generalize hAe : va_A ([]) s.heap.size = A at hD ⊢
  have hA : ∀ q : Nat, s.heap.size ≤ q → A q := fun q h => by rw [← hAe]; exact Or.inr h
  have hl := lv_entry ([.long x, .long y]) (n := 10) (Nat.le_of_ble_eq_true rfl)
  rw [lg_entry_eq]
  generalize (lg_sl ([.long x, .long y]) ++ List.replicate (10 - (lg_sl ([.long x, .long y])).length) Slot.unset).toArray = ls at hl ⊢
  have hl : lv_has ls 10 [(0, .long x), (2, .long y)] := hl
  have ho := fun w (h : w ∈ ow_n_common) => hts w (List.mem_cons_of_mem _ h)
  refine zQ (fun Q hQ => ?_)
  have pt_6 : ∀ (n6 : Nat) (pv : Int64) (qv : Int64) (H : Heap) (locs : List Loc) (ls : Array Slot), qv.toInt.natAbs < n6 → (¬ pv = 0 ∨ ¬ qv = 0) → va_P (dC, dI) vwCl [] H → va_D A [] → va_S A s.heap H locs → lv_has ls 10 [(0, .long x), (2, .long y), (4, .long pv), (6, .long qv)] → W p l e (headSpec vs_n_common rm_n_common).room s m #[Value.long x, Value.long y] below meth c H locs 0 0 Q (F0 m 6 ls []) := by
    intro n6
    induction n6 with
    | zero => intro pv qv H locs ls hn6 hpq hP hD hS hl; exact absurd hn6 (Nat.not_lt_zero _)
    | succ n6 ih6 =>
      intro pv qv H locs ls hn6 hpq hP hD hS hl
      refine lv_lload hx hb dX12_common_6 (lv_at hl 3 rfl) ?_
      refine lv_lconst (v := 0) hx hb dX12_common_8 (by decide) ?_
      refine W.lcmp hx hb dX12_common_9 ?_
      refine lv_topi (fun z1_ ez1_ => ?_)
      refine lv_if_eq (tgt := 31) hx hb dX12_common_10 rfl (fun c2_ => ?_) (fun c2_ => ?_)
      · have tc2_ := (show z1_.toInt = 0 from ti_eq rfl rg_11 c2_)
        have lc2_ : qv = 0 := (lg_cmp_eq qv 0).mp (by rw [← ez1_]; exact c2_)
        refine lv_lload hx hb dX12_common_31 (lv_at hl 2 rfl) ?_
        rw [hQ]
        exact W.lret (v := pv) hx hb hr (fun t ht hW => ⟨⟨pv, (), rfl, (hpq.elim (fun h9 => h9) (fun h9 => absurd lc2_ h9)), wEn_of empP (hK.sub [] rfl) empD ht hW⟩, hS.F ht⟩) hS.2.2 dX12_common_33
      · have tc2_ := (show z1_.toInt ≠ 0 from ti_ne rfl rg_11 c2_)
        have lc2_ : ¬ qv = 0 := fun h => c2_ (by rw [ez1_]; exact (lg_cmp_eq qv 0).mpr h)
        refine lv_lload hx hb dX12_common_13 (lv_at hl 2 rfl) ?_
        refine lv_lload hx hb dX12_common_15 (lv_at hl 3 rfl) ?_
        refine lv_lrem hx hb dX12_common_17 lc2_ ?_
        refine lv_topl (fun y3_ ey3_ => ?_)
        refine lv_lstore (lv' := [(8, .long y3_), (0, .long x), (2, .long y), (4, .long pv), (6, .long qv)]) hx hb dX12_common_18 hl (Nat.le_of_ble_eq_true rfl) rfl (fun ls hl => ?_)
        refine lv_lload hx hb dX12_common_20 (lv_at hl 4 rfl) ?_
        refine lv_lstore (lv' := [(4, .long qv), (8, .long y3_), (0, .long x), (2, .long y), (6, .long qv)]) hx hb dX12_common_22 hl (Nat.le_of_ble_eq_true rfl) rfl (fun ls hl => ?_)
        refine lv_lload hx hb dX12_common_24 (lv_at hl 1 rfl) ?_
        refine lv_lstore (lv' := [(6, .long y3_), (4, .long qv), (8, .long y3_), (0, .long x), (2, .long y)]) hx hb dX12_common_26 hl (Nat.le_of_ble_eq_true rfl) rfl (fun ls hl => ?_)
        refine lv_goto (tgt := 6) hx hb dX12_common_28 rfl ?_
        exact ih6  qv y3_ _ _ _ (Nat.lt_of_lt_of_le (rem_lt (p := pv) (q := qv) lc2_ ey3_) (Nat.le_of_lt_succ hn6)) (Or.inl (show ¬ qv = 0 from lc2_)) hP hD hS (lv_sub hl [3, 4, 1, 0] rfl)
  refine zH (A := A) (ws := []) (fun H hP hS => ?_) hP
  refine lv_lload_n hx hb dX12_common_0 rfl (lv_at hl 0 rfl) ?_
  refine lv_lstore (lv' := [(4, .long x), (0, .long x), (2, .long y)]) hx hb dX12_common_1 hl (Nat.le_of_ble_eq_true rfl) rfl (fun ls hl => ?_)
  refine lv_lload_n hx hb dX12_common_3 rfl (lv_at hl 2 rfl) ?_
  refine lv_lstore (lv' := [(6, .long y), (4, .long x), (0, .long x), (2, .long y)]) hx hb dX12_common_4 hl (Nat.le_of_ble_eq_true rfl) rfl (fun ls hl => ?_)
  exact pt_6 _  x y _ _ _ (Nat.lt_succ_self _) (Or.inr hy) hP hD hS (lv_sub hl [2, 3, 1, 0] rfl)
def ow_n_mean : List Cond := [.fieldLink RX12 249 "NearEnoughModel" "sheets" "I", .constantLong RX12 373 (-1)]
def vs_n_mean : List Cond := .code yX12_mean cX12_mean 8 (some .long) :: (ow_n_mean ++ (([.methodLink RX12 444 yX12_common, .static yX12_common, .initialized yX12_common.cls] : List Cond) ++ (vs_n_common ++ (([.methodLink RX12 438 yX12_farOn, .instanceMethod yX12_farOn, .selects RX12 yX12_farOn yX12_farOn, .initialized RX12] : List Cond) ++ (vs_n_farOn ++ (([.methodLink RX12 431 yX12_isEnd, .instanceMethod yX12_isEnd, .selects RX12 yX12_isEnd yX12_isEnd, .initialized RX12] : List Cond) ++ (vs_n_isEnd ++ (([.methodLink RX12 370 yX12_isOpen, .instanceMethod yX12_isOpen, .selects RX12 yX12_isOpen yX12_isOpen, .initialized RX12] : List Cond) ++ (vs_n_isOpen ++ (([.methodLink RX12 324 yX12_isIn, .static yX12_isIn, .initialized yX12_isIn.cls] : List Cond) ++ (vs_n_isIn ++ (wsX120))))))))))))
theorem vg_n_mean : vs_n_mean.all goodWord = true := by decide +kernel
theorem dd_n_mean : yX12_mean.cls = RX12 ∧ yX12_mean.cls ≠ "java/lang/invoke/MethodHandle" ∧ yX12_mean.cls ≠ "java/lang/invoke/VarHandle" ∧ (parseMethodDescriptor yX12_mean.desc).map (fun d => d.parameters.length) = some 3 := by decide +kernel
def rm_n_mean : Room := { frames := 7, cells := 0, slots := 0, locals := 180 }
theorem gd_n_mean_444_n_common : GoodIn vs_n_mean (va_wsS RX12 444 yX12_common vs_n_common) := goodIn_app (goodIn_sub (fun w h => (List.mem_cons_of_mem _ (List.mem_append_right _ (List.mem_append_left _ h)))) (by decide +kernel)) (goodIn_sub (fun w h => (List.mem_cons_of_mem _ (List.mem_append_right _ (List.mem_append_right _ (List.mem_append_left _ h))))) vg_n_common)
theorem gd_n_mean_438_n_farOn : GoodIn vs_n_mean (wsV RX12 438 RX12 yX12_farOn vs_n_farOn) := goodIn_app (goodIn_sub (fun w h => (List.mem_cons_of_mem _ (List.mem_append_right _ (List.mem_append_right _ (List.mem_append_right _ (List.mem_append_left _ h)))))) (by decide +kernel)) (goodIn_sub (fun w h => (List.mem_cons_of_mem _ (List.mem_append_right _ (List.mem_append_right _ (List.mem_append_right _ (List.mem_append_right _ (List.mem_append_left _ h))))))) vg_n_farOn)
theorem gd_n_mean_431_n_isEnd : GoodIn vs_n_mean (wsV RX12 431 RX12 yX12_isEnd vs_n_isEnd) := goodIn_app (goodIn_sub (fun w h => (List.mem_cons_of_mem _ (List.mem_append_right _ (List.mem_append_right _ (List.mem_append_right _ (List.mem_append_right _ (List.mem_append_right _ (List.mem_append_left _ h)))))))) (by decide +kernel)) (goodIn_sub (fun w h => (List.mem_cons_of_mem _ (List.mem_append_right _ (List.mem_append_right _ (List.mem_append_right _ (List.mem_append_right _ (List.mem_append_right _ (List.mem_append_right _ (List.mem_append_left _ h))))))))) vg_n_isEnd)
theorem gd_n_mean_370_n_isOpen : GoodIn vs_n_mean (wsV RX12 370 RX12 yX12_isOpen vs_n_isOpen) := goodIn_app (goodIn_sub (fun w h => (List.mem_cons_of_mem _ (List.mem_append_right _ (List.mem_append_right _ (List.mem_append_right _ (List.mem_append_right _ (List.mem_append_right _ (List.mem_append_right _ (List.mem_append_right _ (List.mem_append_left _ h)))))))))) (by decide +kernel)) (goodIn_sub (fun w h => (List.mem_cons_of_mem _ (List.mem_append_right _ (List.mem_append_right _ (List.mem_append_right _ (List.mem_append_right _ (List.mem_append_right _ (List.mem_append_right _ (List.mem_append_right _ (List.mem_append_right _ (List.mem_append_left _ h))))))))))) vg_n_isOpen)
theorem gd_n_mean_324_n_isIn : GoodIn vs_n_mean (va_wsS RX12 324 yX12_isIn vs_n_isIn) := goodIn_app (goodIn_sub (fun w h => (List.mem_cons_of_mem _ (List.mem_append_right _ (List.mem_append_right _ (List.mem_append_right _ (List.mem_append_right _ (List.mem_append_right _ (List.mem_append_right _ (List.mem_append_right _ (List.mem_append_right _ (List.mem_append_right _ (List.mem_append_left _ h)))))))))))) (by decide +kernel)) (goodIn_sub (fun w h => (List.mem_cons_of_mem _ (List.mem_append_right _ (List.mem_append_right _ (List.mem_append_right _ (List.mem_append_right _ (List.mem_append_right _ (List.mem_append_right _ (List.mem_append_right _ (List.mem_append_right _ (List.mem_append_right _ (List.mem_append_right _ (List.mem_append_left _ h))))))))))))) vg_n_isIn)
set_option maxHeartbeats 4000000 in
set_option maxRecDepth 100000 in
theorem n_mean (l : Launch) (dC : Nat → ClassId) (dI : Nat → Nat → Nat) (h : Nat) (ad : Nat → Nat) (cl : Nat → ClassId) (sz : Nat) (σ : MS) (x : Int32) (y : Int32) (z : Int32) (hI : Inv σ) (hR : RelP σ (σ.1 29).toNatClampNeg) (hC : ChR σ) : Met l yX12_mean vs_n_mean rm_n_mean (va_Pc [.ref h, .int x, .int y, .int z] (wSt dC dI (mW h ad cl σ) (mT cl) sz)) (va_Ql (fun (r : Int64) (τ : MS) => Inv τ ∧ eqx [37, 41, 42, 43, 44, 45, 46, 32, 47, 48, 49, 54, 55, 56, 57] τ σ) (fun (τ : MS) => wEn dC dI (va_A (mW h ad cl σ) sz) (mW h ad cl τ) []) (va_A (mW h ad cl σ) sz)) 0 0 (va_A (mW h ad cl σ) sz) := by
  refine Met.ofW (cc := cX12_mean) (maxL := 8) (ret := (some .long)) (by decide) rfl ?_
  intro p e s m args below meth c s₁ B hml hv
  obtain ⟨rfl, hsz, hP, hK, hD0, hE⟩ := hv
  have hx := B.exec
  have hb := B.bytes
  have hr := B.returns
  have hts := atoms_spec (ws := vs_n_mean) B.pre
  have hown : s.vm.findClass RX12 = some m.cls := findClass_of_methodNamed B.named
  have hlocks := B.notSynchronized
  subst hsz
  have hD := hD0.self (sz := s.heap.size)
  generalize hAe : va_A (mW h ad cl σ) s.heap.size = A at hD ⊢
  have hA : ∀ q : Nat, s.heap.size ≤ q → A q := fun q h => by rw [← hAe]; exact Or.inr h
  have hl := lv_entry ([.ref h, .int x, .int y, .int z]) (n := 8) (Nat.le_of_ble_eq_true rfl)
  rw [lg_entry_eq]
  generalize (lg_sl ([.ref h, .int x, .int y, .int z]) ++ List.replicate (8 - (lg_sl ([.ref h, .int x, .int y, .int z])).length) Slot.unset).toArray = ls at hl ⊢
  have hl : lv_has ls 8 [(0, .ref h), (1, .int x), (2, .int y), (3, .int z)] := hl
  have ho := fun w (h : w ∈ ow_n_mean) => hts w (List.mem_cons_of_mem _ (List.mem_append_left _ h))
  have hin12 : ∀ w ∈ u_ws RX12 TX12 59, w ∈ vs_n_mean := fun w h => (List.mem_cons_of_mem _ (List.mem_append_right _ (List.mem_append_right _ (List.mem_append_right _ (List.mem_append_right _ (List.mem_append_right _ (List.mem_append_right _ (List.mem_append_right _ (List.mem_append_right _ (List.mem_append_right _ (List.mem_append_right _ (List.mem_append_right _ h))))))))))))
  refine zQ (fun Q hQ => ?_)
  have pt_42 : ∀ (n42 : Nat) (τ : MS) (sv : Int64) (kv : Int32) (H : Heap) (locs : List Loc) (ls : Array Slot), (40 - kv.toInt).toNat < n42 → (Inv τ) → (eqx [37, 41, 42, 43, 44, 45, 46, 32, 47, 48, 49, 54, 55, 56, 57] τ σ) → (0 ≤ kv.toInt) → (OnOk τ) → (EndOk σ x) → ((σ.1 39).toInt ≠ 0) → va_P (dC, dI) vwCl (mW h ad cl τ) H → va_D A (mW h ad cl τ) → va_S A s.heap H locs → lv_has ls 8 [(0, .ref h), (1, .int x), (2, .int y), (3, .int z), (4, .long sv), (6, .int kv)] → W p l e (headSpec vs_n_mean rm_n_mean).room s m #[Value.ref h, Value.int x, Value.int y, Value.int z] below meth c H locs 0 0 Q (F0 m 42 ls []) := by
    intro n42
    induction n42 with
    | zero => intro τ sv kv H locs ls hn42 hIτ hxτ hk0τ honτ henτ hsz hP hD hS hl; exact absurd hn42 (Nat.not_lt_zero _)
    | succ n42 ih42 =>
      intro τ sv kv H locs ls hn42 hIτ hxτ hk0τ honτ henτ hsz hP hD hS hl
      have bτ_29 : 0 ≤ (τ.1 29).toInt ∧ (τ.1 29).toInt ≤ 1 := hIτ.1 29
      have qq1_ : (τ.1 29).toInt = ((σ.1 29) : Int32).toInt := congrArg Int32.toInt (((hxτ 29 rg_571).1))
      have bτ_39 : 0 ≤ (τ.1 39).toInt ∧ (τ.1 39).toInt ≤ 40 := hIτ.1 39
      have qq2_ : (τ.1 39).toInt = ((σ.1 39) : Int32).toInt := congrArg Int32.toInt (((hxτ 39 rg_582).1))
      refine lv_iload hx hb dX12_mean_42 (lv_at hl 5 rfl) ?_
      refine lv_aload_n hx hb dX12_mean_44 rfl (lv_at hl 0 rfl) ?_
      refine va_get (D := (dC, dI)) (ci := 12) (v := .int (τ.1 39)) (C := RX12) (T := TX12) (N := 59) hx hb hts hin12 hown hK hP 0 rfl rfl 39 (Nat.le_of_ble_eq_true rfl) (ho (.fieldLink RX12 249 "NearEnoughModel" "sheets" "I") (List.mem_of_getElem? (i := 0) rfl)) (fun _ h9 => h9) rfl dX12_mean_45 ?_
      refine zi (v := (σ.1 39)) ((hxτ 39 rg_582).1) ?_
      have bb3_ : 0 ≤ (σ.1 39).toInt ∧ (σ.1 39).toInt ≤ 40 := by have h9 := hIτ.1 39; rw [show (τ.1 39) = (σ.1 39) from ((hxτ 39 rg_582).1)] at h9; exact h9
      refine lv_icmp_ge (tgt := 69) hx hb dX12_mean_48 rfl (fun c4_ => ?_) (fun c4_ => ?_)
      · have tc4_ := (show (σ.1 39).toInt ≤ kv.toInt from ti_le rfl rfl c4_)
        refine lv_lload hx hb dX12_mean_69 (lv_at hl 4 rfl) ?_
        refine lv_aload_n hx hb dX12_mean_71 rfl (lv_at hl 0 rfl) ?_
        refine va_get (D := (dC, dI)) (ci := 12) (v := .int (τ.1 39)) (C := RX12) (T := TX12) (N := 59) hx hb hts hin12 hown hK hP 0 rfl rfl 39 (Nat.le_of_ble_eq_true rfl) (ho (.fieldLink RX12 249 "NearEnoughModel" "sheets" "I") (List.mem_of_getElem? (i := 0) rfl)) (fun _ h9 => h9) rfl dX12_mean_72 ?_
        refine zi (v := (σ.1 39)) ((hxτ 39 rg_582).1) ?_
        have bb5_ : 0 ≤ (σ.1 39).toInt ∧ (σ.1 39).toInt ≤ 40 := by have h9 := hIτ.1 39; rw [show (τ.1 39) = (σ.1 39) from ((hxτ 39 rg_582).1)] at h9; exact h9
        refine lv_i2l hx hb dX12_mean_75 rfl ?_
        refine lv_topl (fun y6_ ey6_ => ?_)
        have o1 : (σ.1 39).toInt ≠ 0 := by omega
        refine zs_l (va_runS (As := [.long sv, .long y6_]) (rest := []) ⟨hx, hb, hml, hown, hts⟩ (n_common l dC dI sv y6_ (i2l_ne ey6_ o1) H.size) (va_cwS 2 hts gd_n_mean_444_n_common rfl rfl rfl dd_n_common ⟨Nat.le_of_ble_eq_true rfl, Nat.le_of_ble_eq_true rfl⟩) (preS (A := A) empP (hK.sub (tys' := []) [] rfl) empD hE) rfl rfl hl.1 rfl (lv_room (Nat.le_of_ble_eq_true rfl)) dX12_mean_76 ⟨Nat.le_of_ble_eq_true rfl, Nat.le_of_ble_eq_true rfl⟩) hP hD hS hA (fun y7_ H locs hq hP hD hS => ?_)
        have f8_ := hq
        refine W.widen (k := 0) (n := 0) (Nat.le_of_ble_eq_true rfl) (Nat.le_of_ble_eq_true rfl) ?_
        refine lv_lstore (lv' := [(6, .long y7_), (0, .ref h), (1, .int x), (2, .int y), (3, .int z), (4, .long sv)]) hx hb dX12_mean_79 hl (Nat.le_of_ble_eq_true rfl) rfl (fun ls hl => ?_)
        refine lv_iload_n hx hb dX12_mean_81 rfl (lv_at hl 4 rfl) ?_
        refine lv_if_ne (tgt := 93) hx hb dX12_mean_82 rfl (fun c9_ => ?_) (fun c9_ => ?_)
        · have tc9_ := (show z.toInt ≠ 0 from ti_ne rfl rg_11 c9_)
          refine lv_aload_n hx hb dX12_mean_93 rfl (lv_at hl 1 rfl) ?_
          refine va_get (D := (dC, dI)) (ci := 12) (v := .int (τ.1 39)) (C := RX12) (T := TX12) (N := 59) hx hb hts hin12 hown hK hP 0 rfl rfl 39 (Nat.le_of_ble_eq_true rfl) (ho (.fieldLink RX12 249 "NearEnoughModel" "sheets" "I") (List.mem_of_getElem? (i := 0) rfl)) (fun _ h9 => h9) rfl dX12_mean_94 ?_
          refine zi (v := (σ.1 39)) ((hxτ 39 rg_582).1) ?_
          have bb10_ : 0 ≤ (σ.1 39).toInt ∧ (σ.1 39).toInt ≤ 40 := by have h9 := hIτ.1 39; rw [show (τ.1 39) = (σ.1 39) from ((hxτ 39 rg_582).1)] at h9; exact h9
          refine lv_i2l hx hb dX12_mean_97 rfl ?_
          refine lv_topl (fun y11_ ey11_ => ?_)
          refine lv_lload hx hb dX12_mean_98 (lv_at hl 0 rfl) ?_
          refine lv_ldiv hx hb dX12_mean_100 f8_ ?_
          refine lv_topl (fun y12_ ey12_ => ?_)
          rw [hQ]
          exact W.lret (v := y12_) hx hb hr (fun t ht hW => ⟨⟨y12_, τ, rfl, ⟨hIτ, hxτ⟩, wEn_of hP (hK.sub [] rfl) hD ht hW⟩, hS.F ht⟩) hS.2.2 dX12_mean_101
        · have tc9_ := (show z.toInt = 0 from ti_eq rfl rg_11 c9_)
          refine lv_lload hx hb dX12_mean_85 (lv_at hl 5 rfl) ?_
          refine lv_lload hx hb dX12_mean_87 (lv_at hl 0 rfl) ?_
          refine lv_ldiv hx hb dX12_mean_89 f8_ ?_
          refine lv_topl (fun y13_ ey13_ => ?_)
          refine lv_goto (tgt := 101) hx hb dX12_mean_90 rfl ?_
          rw [hQ]
          exact W.lret (v := y13_) hx hb hr (fun t ht hW => ⟨⟨y13_, τ, rfl, ⟨hIτ, hxτ⟩, wEn_of hP (hK.sub [] rfl) hD ht hW⟩, hS.F ht⟩) hS.2.2 dX12_mean_101
      · have tc4_ := (show kv.toInt < (σ.1 39).toInt from ti_nle rfl rfl c4_)
        refine lv_lload hx hb dX12_mean_51 (lv_at hl 4 rfl) ?_
        refine lv_aload_n hx hb dX12_mean_53 rfl (lv_at hl 0 rfl) ?_
        refine lv_iload_n hx hb dX12_mean_54 rfl (lv_at hl 1 rfl) ?_
        refine lv_iload hx hb dX12_mean_55 (lv_at hl 5 rfl) ?_
        have o2 : 0 ≤ kv.toInt := by omega
        have o3 : kv.toInt ≤ 39 := by omega
        refine zy_l (va_runV (As := [.int x, .int kv]) (rest := [.long sv]) ⟨hx, hb, hml, hown, hts⟩ (n_farOn l dC dI h ad cl H.size τ x kv hIτ (RelP.x hR hxτ rg_571 rg_572) honτ (EndOk.x henτ hxτ rg_571 rg_577) ⟨o2, o3⟩) (cwV 2 hts gd_n_mean_438_n_farOn rfl rfl rfl dd_n_farOn ⟨Nat.le_of_ble_eq_true rfl, Nat.le_of_ble_eq_true rfl⟩) (preV hP hK hD hE (ci := 12) (q0 := 0) rfl rfl) rfl rfl hl.1 rfl (lv_room (Nat.le_of_ble_eq_true rfl)) dX12_mean_57 ⟨Nat.le_of_ble_eq_true rfl, Nat.le_of_ble_eq_true rfl⟩) hD hS hA (fun y15_ τ14_ H locs hq hP hD hS => ?_)
        obtain ⟨hI16_, hx17_, f18_⟩ := hq
        have Xτ14_ : eqx [37, 41, 42, 43, 44, 45, 46, 32, 47, 48, 49, 54, 55, 56, 57] τ14_ σ := eqx.tr hx17_ hxτ rg_575
        have qq19_ : (τ14_.1 29).toInt = ((σ.1 29) : Int32).toInt := congrArg Int32.toInt ((show τ14_.1 29 = (σ.1 29) from ((hx17_ 29 rg_483).1).trans ((hxτ 29 rg_571).1)))
        have qq20_ : (τ14_.1 39).toInt = ((σ.1 39) : Int32).toInt := congrArg Int32.toInt ((show τ14_.1 39 = (σ.1 39) from ((hx17_ 39 rg_576).1).trans ((hxτ 39 rg_582).1)))
        refine W.widen (k := 0) (n := 0) (Nat.le_of_ble_eq_true rfl) (Nat.le_of_ble_eq_true rfl) ?_
        refine lv_ladd hx hb dX12_mean_60 ?_
        refine lv_topl (fun y21_ ey21_ => ?_)
        refine lv_lstore (lv' := [(4, .long y21_), (0, .ref h), (1, .int x), (2, .int y), (3, .int z), (6, .int kv)]) hx hb dX12_mean_61 hl (Nat.le_of_ble_eq_true rfl) rfl (fun ls hl => ?_)
        obtain ⟨z22_, ez22_⟩ : ∃ y : Int32, y = kv + 1 := ⟨_, rfl⟩
        have o4 : -2147483648 ≤ kv.toInt + 1 := by omega
        have o5 : kv.toInt + 1 ≤ 2147483647 := by omega
        have tz22_ := ti_add ez22_ rfl rg_18 o4 o5
        refine lv_iinc (v := z22_) (lv' := [(6, .int z22_), (4, .long y21_), (0, .ref h), (1, .int x), (2, .int y), (3, .int z)]) hx hb dX12_mean_63 hl (k := 5) rfl (iincp ez22_ rg_6) (Nat.le_of_ble_eq_true rfl) rfl (fun ls hl => ?_)
        refine lv_goto (tgt := 42) hx hb dX12_mean_66 rfl ?_
        have o6 : (40 - z22_.toInt).toNat < n42 := by omega
        have o7 : 0 ≤ z22_.toInt := by omega
        exact ih42 τ14_ y21_ z22_ _ _ _ (show (40 - z22_.toInt).toNat < n42 from o6) hI16_ Xτ14_ (show 0 ≤ z22_.toInt from o7) (OnOk.x honτ hx17_ rg_492 rg_493 rg_487) henτ hsz hP hD hS (lv_sub hl [2, 3, 4, 5, 1, 0] rfl)
  refine zH (A := A) (ws := mW h ad cl σ) (fun H hP hS => ?_) hP
  have bσ_29 : 0 ≤ (σ.1 29).toInt ∧ (σ.1 29).toInt ≤ 1 := hI.1 29
  have bσ_39 : 0 ≤ (σ.1 39).toInt ∧ (σ.1 39).toInt ≤ 40 := hI.1 39
  refine lv_aload_n hx hb dX12_mean_0 rfl (lv_at hl 0 rfl) ?_
  refine lv_iload_n hx hb dX12_mean_1 rfl (lv_at hl 1 rfl) ?_
  refine zy_i (va_runV (As := [.int x]) (rest := []) ⟨hx, hb, hml, hown, hts⟩ (n_isEnd l dC dI h ad cl H.size σ x hI) (cwV 1 hts gd_n_mean_431_n_isEnd rfl rfl rfl dd_n_isEnd ⟨Nat.le_of_ble_eq_true rfl, Nat.le_of_ble_eq_true rfl⟩) (preV hP hK hD hE (ci := 12) (q0 := 0) rfl rfl) rfl rfl hl.1 rfl (lv_room (Nat.le_of_ble_eq_true rfl)) dX12_mean_2 ⟨Nat.le_of_ble_eq_true rfl, Nat.le_of_ble_eq_true rfl⟩) hD hS hA (fun z24_ τ23_ H locs hq hP hD hS => ?_)
  obtain ⟨rfl, f25_⟩ := hq
  refine W.widen (k := 0) (n := 0) (Nat.le_of_ble_eq_true rfl) (Nat.le_of_ble_eq_true rfl) ?_
  refine lv_if_eq (tgt := 32) hx hb dX12_mean_5 rfl (fun c26_ => ?_) (fun c26_ => ?_)
  · have tc26_ := (show z24_.toInt = 0 from ti_eq rfl rg_11 c26_)
    refine lv_ldc2 (v := (-1)) hx hb hown (ho (.constantLong RX12 373 (-1)) (List.mem_of_getElem? (i := 1) rfl)) dX12_mean_32 ?_
    rw [hQ]
    exact W.lret (v := (-1)) hx hb hr (fun t ht hW => ⟨⟨(-1), σ, rfl, ⟨hI, eqx.rf⟩, wEn_of hP (hK.sub [] rfl) hD ht hW⟩, hS.F ht⟩) hS.2.2 dX12_mean_35
  · have tc26_ := (show z24_.toInt ≠ 0 from ti_ne rfl rg_11 c26_)
    refine lv_aload_n hx hb dX12_mean_8 rfl (lv_at hl 0 rfl) ?_
    refine lv_iload_n hx hb dX12_mean_9 rfl (lv_at hl 2 rfl) ?_
    refine zy_i (va_runV (As := [.int y]) (rest := []) ⟨hx, hb, hml, hown, hts⟩ (n_isOpen l dC dI h ad cl H.size σ y hI hR hC) (cwV 1 hts gd_n_mean_370_n_isOpen rfl rfl rfl dd_n_isOpen ⟨Nat.le_of_ble_eq_true rfl, Nat.le_of_ble_eq_true rfl⟩) (preV hP hK hD hE (ci := 12) (q0 := 0) rfl rfl) rfl rfl hl.1 rfl (lv_room (Nat.le_of_ble_eq_true rfl)) dX12_mean_10 ⟨Nat.le_of_ble_eq_true rfl, Nat.le_of_ble_eq_true rfl⟩) hD hS hA (fun z28_ τ27_ H locs hq hP hD hS => ?_)
    obtain ⟨hI29_, hx30_, f31_⟩ := hq
    have Xτ27_ : eqx [37, 41, 42, 43, 44, 45, 46, 32, 47, 48, 49, 54, 55, 56, 57] τ27_ σ := eqx.tr hx30_ eqx.rf rg_568
    have qq32_ : (τ27_.1 29).toInt = ((σ.1 29) : Int32).toInt := congrArg Int32.toInt ((show τ27_.1 29 = (σ.1 29) from ((hx30_ 29 rg_569).1).trans rfl))
    have qq33_ : (τ27_.1 39).toInt = ((σ.1 39) : Int32).toInt := congrArg Int32.toInt ((show τ27_.1 39 = (σ.1 39) from ((hx30_ 39 rg_570).1).trans rfl))
    refine W.widen (k := 0) (n := 0) (Nat.le_of_ble_eq_true rfl) (Nat.le_of_ble_eq_true rfl) ?_
    refine lv_if_eq (tgt := 32) hx hb dX12_mean_13 rfl (fun c34_ => ?_) (fun c34_ => ?_)
    · have tc34_ := (show z28_.toInt = 0 from ti_eq rfl rg_11 c34_)
      refine lv_ldc2 (v := (-1)) hx hb hown (ho (.constantLong RX12 373 (-1)) (List.mem_of_getElem? (i := 1) rfl)) dX12_mean_32 ?_
      rw [hQ]
      exact W.lret (v := (-1)) hx hb hr (fun t ht hW => ⟨⟨(-1), τ27_, rfl, ⟨hI29_, Xτ27_⟩, wEn_of hP (hK.sub [] rfl) hD ht hW⟩, hS.F ht⟩) hS.2.2 dX12_mean_35
    · have tc34_ := (show z28_.toInt ≠ 0 from ti_ne rfl rg_11 c34_)
      refine lv_aload_n hx hb dX12_mean_16 rfl (lv_at hl 0 rfl) ?_
      refine va_get (D := (dC, dI)) (ci := 12) (v := .int (τ27_.1 39)) (C := RX12) (T := TX12) (N := 59) hx hb hts hin12 hown hK hP 0 rfl rfl 39 (Nat.le_of_ble_eq_true rfl) (ho (.fieldLink RX12 249 "NearEnoughModel" "sheets" "I") (List.mem_of_getElem? (i := 0) rfl)) (fun _ h9 => h9) rfl dX12_mean_17 ?_
      refine zi (v := (σ.1 39)) (show τ27_.1 39 = (σ.1 39) from ((hx30_ 39 rg_570).1).trans rfl) ?_
      have bb35_ : 0 ≤ (σ.1 39).toInt ∧ (σ.1 39).toInt ≤ 40 := by have h9 := hI29_.1 39; rw [show (τ27_.1 39) = (σ.1 39) from (show τ27_.1 39 = (σ.1 39) from ((hx30_ 39 rg_570).1).trans rfl)] at h9; exact h9
      refine lv_if_eq (tgt := 32) hx hb dX12_mean_20 rfl (fun c36_ => ?_) (fun c36_ => ?_)
      · have tc36_ := (show (σ.1 39).toInt = 0 from ti_eq rfl rg_11 c36_)
        refine lv_ldc2 (v := (-1)) hx hb hown (ho (.constantLong RX12 373 (-1)) (List.mem_of_getElem? (i := 1) rfl)) dX12_mean_32 ?_
        rw [hQ]
        exact W.lret (v := (-1)) hx hb hr (fun t ht hW => ⟨⟨(-1), τ27_, rfl, ⟨hI29_, Xτ27_⟩, wEn_of hP (hK.sub [] rfl) hD ht hW⟩, hS.F ht⟩) hS.2.2 dX12_mean_35
      · have tc36_ := (show (σ.1 39).toInt ≠ 0 from ti_ne rfl rg_11 c36_)
        refine lv_iload_n hx hb dX12_mean_23 rfl (lv_at hl 3 rfl) ?_
        refine lv_iconst (v := 0) hx hb dX12_mean_24 rg_0 ?_
        refine lv_iconst (v := 1) hx hb dX12_mean_25 rg_6 ?_
        have kk37_ : (0 : Int32).toInt = 0 := rg_11
        have kk38_ : (1 : Int32).toInt = 1 := rg_18
        refine zs_i (va_runS (As := [.int z, .int 0, .int 1]) (rest := []) ⟨hx, hb, hml, hown, hts⟩ (n_isIn l dC dI z 0 1  H.size) (va_cwS 3 hts gd_n_mean_324_n_isIn rfl rfl rfl dd_n_isIn ⟨Nat.le_of_ble_eq_true rfl, Nat.le_of_ble_eq_true rfl⟩) (preS (A := A) empP (hK.sub (tys' := []) [] rfl) empD hE) rfl rfl hl.1 rfl (lv_room (Nat.le_of_ble_eq_true rfl)) dX12_mean_26 ⟨Nat.le_of_ble_eq_true rfl, Nat.le_of_ble_eq_true rfl⟩) hP hD hS hA (fun z39_ H locs hq hP hD hS => ?_)
        have f40_ := hq
        refine W.widen (k := 0) (n := 0) (Nat.le_of_ble_eq_true rfl) (Nat.le_of_ble_eq_true rfl) ?_
        refine lv_if_ne (tgt := 36) hx hb dX12_mean_29 rfl (fun c41_ => ?_) (fun c41_ => ?_)
        · have tc41_ := (show z39_.toInt ≠ 0 from ti_ne rfl rg_11 c41_)
          refine lv_lconst (v := 0) hx hb dX12_mean_36 (by decide) ?_
          refine lv_lstore (lv' := [(4, .long 0), (0, .ref h), (1, .int x), (2, .int y), (3, .int z)]) hx hb dX12_mean_37 hl (Nat.le_of_ble_eq_true rfl) rfl (fun ls hl => ?_)
          refine lv_iconst (v := 0) hx hb dX12_mean_39 rg_0 ?_
          refine lv_istore (lv' := [(6, .int 0), (4, .long 0), (0, .ref h), (1, .int x), (2, .int y), (3, .int z)]) hx hb dX12_mean_40 hl (Nat.le_of_ble_eq_true rfl) rfl (fun ls hl => ?_)
          have o8 : ¬ z28_.toInt = 0 := by omega
          have POK42_ : Opn σ y (τ27_.2.1 37) (τ27_.2.2.1 43) (τ27_.2.2.1 44) := by rcases f31_ with q | q; exact q.2; exact absurd q.1 o8
          have OK42_ : OnOk τ27_ := OnR.ok hI hC hx30_ rg_573 rg_574 POK42_.1
          have o9 : 0 ≤ x.toInt := by omega
          have o10 : x.toInt ≤ 3 := by omega
          have o11 : x.toInt < (σ.2.1 13 (σ.1 29).toNatClampNeg).toInt := by omega
          have HE43_ : EndOk σ x := ⟨o9, o10, o11⟩
          have o12 : (σ.1 39).toInt ≠ 0 := by omega
          exact pt_42 _ τ27_ 0 0 _ _ _ (Nat.lt_succ_self _) hI29_ Xτ27_ rg_56 OK42_ HE43_ o12 hP hD hS (lv_sub hl [2, 3, 4, 5, 1, 0] rfl)
        · have tc41_ := (show z39_.toInt = 0 from ti_eq rfl rg_11 c41_)
          refine lv_ldc2 (v := (-1)) hx hb hown (ho (.constantLong RX12 373 (-1)) (List.mem_of_getElem? (i := 1) rfl)) dX12_mean_32 ?_
          rw [hQ]
          exact W.lret (v := (-1)) hx hb hr (fun t ht hW => ⟨⟨(-1), τ27_, rfl, ⟨hI29_, Xτ27_⟩, wEn_of hP (hK.sub [] rfl) hD ht hW⟩, hS.F ht⟩) hS.2.2 dX12_mean_35
