theorem dX10_made_0 : decode cX10_made 0 = .ok (.iload 4, 2) := by decide +kernel
theorem dX10_made_2 : decode cX10_made 2 = .ok (.iconst 4, 1) := by decide +kernel
theorem dX10_made_3 : decode cX10_made 3 = .ok (.if_icmp .ne 8, 3) := by decide +kernel
theorem dX10_made_11 : decode cX10_made 11 = .ok (.iload_n 2, 1) := by decide +kernel
theorem dX10_made_12 : decode cX10_made 12 = .ok (.bipush 12, 2) := by decide +kernel
theorem dX10_made_14 : decode cX10_made 14 = .ok (.imul, 1) := by decide +kernel
theorem dX10_made_15 : decode cX10_made 15 = .ok (.istore 6, 2) := by decide +kernel
theorem dX10_made_85 : decode cX10_made 85 = .ok (.iload 4, 2) := by decide +kernel
theorem dX10_made_87 : decode cX10_made 87 = .ok (.iconst 1, 1) := by decide +kernel
theorem dX10_made_88 : decode cX10_made 88 = .ok (.if_icmp .ne 14, 3) := by decide +kernel
theorem dX10_made_102 : decode cX10_made 102 = .ok (.lload 7, 2) := by decide +kernel
theorem dX10_made_104 : decode cX10_made 104 = .ok (.lreturn, 1) := by decide +kernel
theorem dX10_made_91 : decode cX10_made 91 = .ok (.lload 7, 2) := by decide +kernel
theorem dX10_made_93 : decode cX10_made 93 = .ok (.iload 5, 2) := by decide +kernel
theorem dX10_made_95 : decode cX10_made 95 = .ok (.lshr, 1) := by decide +kernel
theorem dX10_made_96 : decode cX10_made 96 = .ok (.iload 5, 2) := by decide +kernel
theorem dX10_made_98 : decode cX10_made 98 = .ok (.lshl, 1) := by decide +kernel
theorem dX10_made_99 : decode cX10_made 99 = .ok (.goto 5, 3) := by decide +kernel
theorem dX10_made_17 : decode cX10_made 17 = .ok (.aload_n 3, 1) := by decide +kernel
theorem dX10_made_18 : decode cX10_made 18 = .ok (.getfield 55, 3) := by decide +kernel
theorem dX10_made_21 : decode cX10_made 21 = .ok (.bipush 6, 2) := by decide +kernel
theorem dX10_made_23 : decode cX10_made 23 = .ok (.if_icmp .ne 27, 3) := by decide +kernel
theorem dX10_made_50 : decode cX10_made 50 = .ok (.aload_n 3, 1) := by decide +kernel
theorem dX10_made_51 : decode cX10_made 51 = .ok (.getfield 66, 3) := by decide +kernel
theorem dX10_made_54 : decode cX10_made 54 = .ok (.ifnull 18, 3) := by decide +kernel
theorem dX10_made_72 : decode cX10_made 72 = .ok (.aload_n 1, 1) := by decide +kernel
theorem dX10_made_73 : decode cX10_made 73 = .ok (.iload 6, 2) := by decide +kernel
theorem dX10_made_75 : decode cX10_made 75 = .ok (.aload_n 3, 1) := by decide +kernel
theorem dX10_made_76 : decode cX10_made 76 = .ok (.iload 4, 2) := by decide +kernel
theorem dX10_made_78 : decode cX10_made 78 = .ok (.iload 5, 2) := by decide +kernel
theorem dX10_made_80 : decode cX10_made 80 = .ok (.invokestatic 74, 3) := by decide +kernel
theorem dX10_made_83 : decode cX10_made 83 = .ok (.lstore 7, 2) := by decide +kernel
theorem dX10_made_57 : decode cX10_made 57 = .ok (.aload_n 0, 1) := by decide +kernel
theorem dX10_made_58 : decode cX10_made 58 = .ok (.aload_n 3, 1) := by decide +kernel
theorem dX10_made_59 : decode cX10_made 59 = .ok (.iload_n 2, 1) := by decide +kernel
theorem dX10_made_60 : decode cX10_made 60 = .ok (.iload 4, 2) := by decide +kernel
theorem dX10_made_62 : decode cX10_made 62 = .ok (.iload 5, 2) := by decide +kernel
theorem dX10_made_64 : decode cX10_made 64 = .ok (.invokevirtual 70, 3) := by decide +kernel
theorem dX10_made_67 : decode cX10_made 67 = .ok (.lstore 7, 2) := by decide +kernel
theorem dX10_made_69 : decode cX10_made 69 = .ok (.goto 16, 3) := by decide +kernel
theorem dX10_made_26 : decode cX10_made 26 = .ok (.aload_n 0, 1) := by decide +kernel
theorem dX10_made_27 : decode cX10_made 27 = .ok (.aload_n 3, 1) := by decide +kernel
theorem dX10_made_28 : decode cX10_made 28 = .ok (.aload_n 1, 1) := by decide +kernel
theorem dX10_made_29 : decode cX10_made 29 = .ok (.iload 6, 2) := by decide +kernel
theorem dX10_made_31 : decode cX10_made 31 = .ok (.aload_n 3, 1) := by decide +kernel
theorem dX10_made_32 : decode cX10_made 32 = .ok (.getfield 59, 3) := by decide +kernel
theorem dX10_made_35 : decode cX10_made 35 = .ok (.iadd, 1) := by decide +kernel
theorem dX10_made_36 : decode cX10_made 36 = .ok (.laload, 1) := by decide +kernel
theorem dX10_made_37 : decode cX10_made 37 = .ok (.iload_n 2, 1) := by decide +kernel
theorem dX10_made_38 : decode cX10_made 38 = .ok (.iload 4, 2) := by decide +kernel
theorem dX10_made_40 : decode cX10_made 40 = .ok (.iload 5, 2) := by decide +kernel
theorem dX10_made_42 : decode cX10_made 42 = .ok (.invokevirtual 62, 3) := by decide +kernel
theorem dX10_made_45 : decode cX10_made 45 = .ok (.lstore 7, 2) := by decide +kernel
theorem dX10_made_47 : decode cX10_made 47 = .ok (.goto 38, 3) := by decide +kernel
theorem dX10_made_6 : decode cX10_made 6 = .ok (.aload_n 3, 1) := by decide +kernel
theorem dX10_made_7 : decode cX10_made 7 = .ok (.invokevirtual 49, 3) := by decide +kernel
theorem dX10_made_10 : decode cX10_made 10 = .ok (.lreturn, 1) := by decide +kernel
theorem dX10_workPlain_0 : decode cX10_workPlain 0 = .ok (.iload_n 1, 1) := by decide +kernel
theorem dX10_workPlain_1 : decode cX10_workPlain 1 = .ok (.bipush 12, 2) := by decide +kernel
theorem dX10_workPlain_3 : decode cX10_workPlain 3 = .ok (.imul, 1) := by decide +kernel
theorem dX10_workPlain_4 : decode cX10_workPlain 4 = .ok (.istore_n 3, 1) := by decide +kernel
theorem dX10_workPlain_5 : decode cX10_workPlain 5 = .ok (.iconst 0, 1) := by decide +kernel
theorem dX10_workPlain_6 : decode cX10_workPlain 6 = .ok (.istore 4, 2) := by decide +kernel
theorem dX10_workPlain_8 : decode cX10_workPlain 8 = .ok (.iload 4, 2) := by decide +kernel
theorem dX10_workPlain_10 : decode cX10_workPlain 10 = .ok (.iload_n 2, 1) := by decide +kernel
theorem dX10_workPlain_11 : decode cX10_workPlain 11 = .ok (.if_icmp .gt 39, 3) := by decide +kernel
theorem dX10_workPlain_50 : decode cX10_workPlain 50 = .ok (.return_, 1) := by decide +kernel
theorem dX10_workPlain_14 : decode cX10_workPlain 14 = .ok (.aload_n 0, 1) := by decide +kernel
theorem dX10_workPlain_15 : decode cX10_workPlain 15 = .ok (.getfield 9, 3) := by decide +kernel
theorem dX10_workPlain_18 : decode cX10_workPlain 18 = .ok (.iload_n 3, 1) := by decide +kernel
theorem dX10_workPlain_19 : decode cX10_workPlain 19 = .ok (.iload 4, 2) := by decide +kernel
theorem dX10_workPlain_21 : decode cX10_workPlain 21 = .ok (.iadd, 1) := by decide +kernel
theorem dX10_workPlain_22 : decode cX10_workPlain 22 = .ok (.aload_n 0, 1) := by decide +kernel
theorem dX10_workPlain_23 : decode cX10_workPlain 23 = .ok (.aload_n 0, 1) := by decide +kernel
theorem dX10_workPlain_24 : decode cX10_workPlain 24 = .ok (.getfield 9, 3) := by decide +kernel
theorem dX10_workPlain_27 : decode cX10_workPlain 27 = .ok (.iload_n 1, 1) := by decide +kernel
theorem dX10_workPlain_28 : decode cX10_workPlain 28 = .ok (.aload_n 0, 1) := by decide +kernel
theorem dX10_workPlain_29 : decode cX10_workPlain 29 = .ok (.getfield 18, 3) := by decide +kernel
theorem dX10_workPlain_32 : decode cX10_workPlain 32 = .ok (.getfield 30, 3) := by decide +kernel
theorem dX10_workPlain_35 : decode cX10_workPlain 35 = .ok (.iload 4, 2) := by decide +kernel
theorem dX10_workPlain_37 : decode cX10_workPlain 37 = .ok (.aaload, 1) := by decide +kernel
theorem dX10_workPlain_38 : decode cX10_workPlain 38 = .ok (.iconst (-1), 1) := by decide +kernel
theorem dX10_workPlain_39 : decode cX10_workPlain 39 = .ok (.iconst 0, 1) := by decide +kernel
theorem dX10_workPlain_40 : decode cX10_workPlain 40 = .ok (.invokevirtual 36, 3) := by decide +kernel
theorem dX10_workPlain_43 : decode cX10_workPlain 43 = .ok (.lastore, 1) := by decide +kernel
theorem dX10_workPlain_44 : decode cX10_workPlain 44 = .ok (.iinc 4 1, 3) := by decide +kernel
theorem dX10_workPlain_47 : decode cX10_workPlain 47 = .ok (.goto (-39), 3) := by decide +kernel
theorem dX10_workChanged_0 : decode cX10_workChanged 0 = .ok (.iload_n 1, 1) := by decide +kernel
theorem dX10_workChanged_1 : decode cX10_workChanged 1 = .ok (.bipush 12, 2) := by decide +kernel
theorem dX10_workChanged_3 : decode cX10_workChanged 3 = .ok (.imul, 1) := by decide +kernel
theorem dX10_workChanged_4 : decode cX10_workChanged 4 = .ok (.istore 4, 2) := by decide +kernel
theorem dX10_workChanged_6 : decode cX10_workChanged 6 = .ok (.iload_n 2, 1) := by decide +kernel
theorem dX10_workChanged_7 : decode cX10_workChanged 7 = .ok (.istore 5, 2) := by decide +kernel
theorem dX10_workChanged_9 : decode cX10_workChanged 9 = .ok (.iload 5, 2) := by decide +kernel
theorem dX10_workChanged_11 : decode cX10_workChanged 11 = .ok (.iload_n 3, 1) := by decide +kernel
theorem dX10_workChanged_12 : decode cX10_workChanged 12 = .ok (.if_icmp .gt 56, 3) := by decide +kernel
theorem dX10_workChanged_68 : decode cX10_workChanged 68 = .ok (.return_, 1) := by decide +kernel
theorem dX10_workChanged_15 : decode cX10_workChanged 15 = .ok (.aload_n 0, 1) := by decide +kernel
theorem dX10_workChanged_16 : decode cX10_workChanged 16 = .ok (.getfield 15, 3) := by decide +kernel
theorem dX10_workChanged_19 : decode cX10_workChanged 19 = .ok (.iload 4, 2) := by decide +kernel
theorem dX10_workChanged_21 : decode cX10_workChanged 21 = .ok (.iload 5, 2) := by decide +kernel
theorem dX10_workChanged_23 : decode cX10_workChanged 23 = .ok (.iadd, 1) := by decide +kernel
theorem dX10_workChanged_24 : decode cX10_workChanged 24 = .ok (.aload_n 0, 1) := by decide +kernel
theorem dX10_workChanged_25 : decode cX10_workChanged 25 = .ok (.aload_n 0, 1) := by decide +kernel
theorem dX10_workChanged_26 : decode cX10_workChanged 26 = .ok (.getfield 15, 3) := by decide +kernel
theorem dX10_workChanged_29 : decode cX10_workChanged 29 = .ok (.iload_n 1, 1) := by decide +kernel
theorem dX10_workChanged_30 : decode cX10_workChanged 30 = .ok (.aload_n 0, 1) := by decide +kernel
theorem dX10_workChanged_31 : decode cX10_workChanged 31 = .ok (.getfield 18, 3) := by decide +kernel
theorem dX10_workChanged_34 : decode cX10_workChanged 34 = .ok (.getfield 30, 3) := by decide +kernel
theorem dX10_workChanged_37 : decode cX10_workChanged 37 = .ok (.iload 5, 2) := by decide +kernel
theorem dX10_workChanged_39 : decode cX10_workChanged 39 = .ok (.aaload, 1) := by decide +kernel
theorem dX10_workChanged_40 : decode cX10_workChanged 40 = .ok (.aload_n 0, 1) := by decide +kernel
theorem dX10_workChanged_41 : decode cX10_workChanged 41 = .ok (.getfield 26, 3) := by decide +kernel
theorem dX10_workChanged_44 : decode cX10_workChanged 44 = .ok (.iload 5, 2) := by decide +kernel
theorem dX10_workChanged_46 : decode cX10_workChanged 46 = .ok (.invokevirtual 40, 3) := by decide +kernel
theorem dX10_workChanged_49 : decode cX10_workChanged 49 = .ok (.aload_n 0, 1) := by decide +kernel
theorem dX10_workChanged_50 : decode cX10_workChanged 50 = .ok (.getfield 26, 3) := by decide +kernel
theorem dX10_workChanged_53 : decode cX10_workChanged 53 = .ok (.iload 5, 2) := by decide +kernel
theorem dX10_workChanged_55 : decode cX10_workChanged 55 = .ok (.invokevirtual 46, 3) := by decide +kernel
theorem dX10_workChanged_58 : decode cX10_workChanged 58 = .ok (.invokevirtual 36, 3) := by decide +kernel
theorem dX10_workChanged_61 : decode cX10_workChanged 61 = .ok (.lastore, 1) := by decide +kernel
theorem dX10_workChanged_62 : decode cX10_workChanged 62 = .ok (.iinc 5 1, 3) := by decide +kernel
theorem dX10_workChanged_65 : decode cX10_workChanged 65 = .ok (.goto (-56), 3) := by decide +kernel
theorem dX10_errorAt_0 : decode cX10_errorAt 0 = .ok (.aload_n 0, 1) := by decide +kernel
theorem dX10_errorAt_1 : decode cX10_errorAt 1 = .ok (.getfield 15, 3) := by decide +kernel
theorem dX10_errorAt_4 : decode cX10_errorAt 4 = .ok (.iload_n 1, 1) := by decide +kernel
theorem dX10_errorAt_5 : decode cX10_errorAt 5 = .ok (.bipush 12, 2) := by decide +kernel
theorem dX10_errorAt_7 : decode cX10_errorAt 7 = .ok (.imul, 1) := by decide +kernel
theorem dX10_errorAt_8 : decode cX10_errorAt 8 = .ok (.iload_n 2, 1) := by decide +kernel
theorem dX10_errorAt_9 : decode cX10_errorAt 9 = .ok (.iadd, 1) := by decide +kernel
theorem dX10_errorAt_10 : decode cX10_errorAt 10 = .ok (.laload, 1) := by decide +kernel
theorem dX10_errorAt_11 : decode cX10_errorAt 11 = .ok (.aload_n 0, 1) := by decide +kernel
theorem dX10_errorAt_12 : decode cX10_errorAt 12 = .ok (.getfield 9, 3) := by decide +kernel
theorem dX10_errorAt_15 : decode cX10_errorAt 15 = .ok (.iload_n 1, 1) := by decide +kernel
theorem dX10_errorAt_16 : decode cX10_errorAt 16 = .ok (.bipush 12, 2) := by decide +kernel
theorem dX10_errorAt_18 : decode cX10_errorAt 18 = .ok (.imul, 1) := by decide +kernel
theorem dX10_errorAt_19 : decode cX10_errorAt 19 = .ok (.iload_n 2, 1) := by decide +kernel
theorem dX10_errorAt_20 : decode cX10_errorAt 20 = .ok (.iadd, 1) := by decide +kernel
theorem dX10_errorAt_21 : decode cX10_errorAt 21 = .ok (.laload, 1) := by decide +kernel
theorem dX10_errorAt_22 : decode cX10_errorAt 22 = .ok (.lsub, 1) := by decide +kernel
theorem dX10_errorAt_23 : decode cX10_errorAt 23 = .ok (.lreturn, 1) := by decide +kernel

def ow_k_made25 : List Cond := [.fieldLink RX10 55 "NearEnough$Step" "kind" "I", .fieldLink RX10 66 "NearEnough$Step" "row" "LNearEnough$Row;", .fieldLink RX10 59 "NearEnough$Step" "a" "I"]
def vs_k_made25 : List Cond := .code yX10_made cX10_made 9 (some .long) :: (ow_k_made25 ++ (([.methodLink RX10 74 yX10_fromSteps, .static yX10_fromSteps, .initialized yX10_fromSteps.cls] : List Cond) ++ (vs_k_fromSteps25 ++ (([.methodLink RX10 70 yX10_fromRow, .instanceMethod yX10_fromRow, .selects RX10 yX10_fromRow yX10_fromRow, .initialized RX10] : List Cond) ++ (vs_k_fromRow ++ (([.methodLink RX10 62 yX10_fromPlace, .instanceMethod yX10_fromPlace, .selects RX10 yX10_fromPlace yX10_fromPlace, .initialized RX10] : List Cond) ++ (vs_k_fromPlace ++ (([.methodLink RX10 49 yX9_middle, .instanceMethod yX9_middle, .selects RX9 yX9_middle yX9_middle, .initialized RX9] : List Cond) ++ (vs_k_middle ++ (wsX90))))))))))
theorem vg_k_made25 : vs_k_made25.all goodWord = true := by decide +kernel
theorem dd_k_made25 : yX10_made.cls = RX10 ∧ yX10_made.cls ≠ "java/lang/invoke/MethodHandle" ∧ yX10_made.cls ≠ "java/lang/invoke/VarHandle" ∧ (parseMethodDescriptor yX10_made.desc).map (fun d => d.parameters.length) = some 5 := by decide +kernel
def rm_k_made25 : Room := { frames := 3, cells := 0, slots := 0, locals := 84 }
theorem gd_k_made25_74_k_fromSteps25 : GoodIn vs_k_made25 (va_wsS RX10 74 yX10_fromSteps vs_k_fromSteps25) := goodIn_app (goodIn_sub (fun w h => (List.mem_cons_of_mem _ (List.mem_append_right _ (List.mem_append_left _ h)))) (by decide +kernel)) (goodIn_sub (fun w h => (List.mem_cons_of_mem _ (List.mem_append_right _ (List.mem_append_right _ (List.mem_append_left _ h))))) vg_k_fromSteps25)
theorem gd_k_made25_70_k_fromRow : GoodIn vs_k_made25 (wsV RX10 70 RX10 yX10_fromRow vs_k_fromRow) := goodIn_app (goodIn_sub (fun w h => (List.mem_cons_of_mem _ (List.mem_append_right _ (List.mem_append_right _ (List.mem_append_right _ (List.mem_append_left _ h)))))) (by decide +kernel)) (goodIn_sub (fun w h => (List.mem_cons_of_mem _ (List.mem_append_right _ (List.mem_append_right _ (List.mem_append_right _ (List.mem_append_right _ (List.mem_append_left _ h))))))) vg_k_fromRow)
theorem gd_k_made25_62_k_fromPlace : GoodIn vs_k_made25 (wsV RX10 62 RX10 yX10_fromPlace vs_k_fromPlace) := goodIn_app (goodIn_sub (fun w h => (List.mem_cons_of_mem _ (List.mem_append_right _ (List.mem_append_right _ (List.mem_append_right _ (List.mem_append_right _ (List.mem_append_right _ (List.mem_append_left _ h)))))))) (by decide +kernel)) (goodIn_sub (fun w h => (List.mem_cons_of_mem _ (List.mem_append_right _ (List.mem_append_right _ (List.mem_append_right _ (List.mem_append_right _ (List.mem_append_right _ (List.mem_append_right _ (List.mem_append_left _ h))))))))) vg_k_fromPlace)
theorem gd_k_made25_49_k_middle : GoodIn vs_k_made25 (wsV RX10 49 RX9 yX9_middle vs_k_middle) := goodIn_app (goodIn_sub (fun w h => (List.mem_cons_of_mem _ (List.mem_append_right _ (List.mem_append_right _ (List.mem_append_right _ (List.mem_append_right _ (List.mem_append_right _ (List.mem_append_right _ (List.mem_append_right _ (List.mem_append_left _ h)))))))))) (by decide +kernel)) (goodIn_sub (fun w h => (List.mem_cons_of_mem _ (List.mem_append_right _ (List.mem_append_right _ (List.mem_append_right _ (List.mem_append_right _ (List.mem_append_right _ (List.mem_append_right _ (List.mem_append_right _ (List.mem_append_right _ (List.mem_append_left _ h))))))))))) vg_k_middle)
set_option maxHeartbeats 4000000 in
set_option maxRecDepth 100000 in
theorem k_made25 (l : Launch) (dC : Nat → ClassId) (dI : Nat → Nat → Nat) (κ : CE) (sz : Nat) (σ : MS) (x : Int32) (a : Nat) (t_a : TT) (g_a : IsStep κ a t_a) (y : Int32) (z : Int32) (hk : PInv κ) (hI : CInv σ) (hx0 : 0 ≤ x.toInt ∧ x.toInt ≤ 40) (hz0 : 0 ≤ z.toInt ∧ z.toInt ≤ 99) : Met l yX10_made vs_k_made25 rm_k_made25 (va_Pc [.ref (kA κ 24), .ref (kA κ 25), .int x, .ref a, .int y, .int z] (wSy dC dI (cW κ σ) (cT κ) sz)) (va_Ql (fun (r : Int64) (τ : MS) => τ = σ ∧ True) (fun (τ : MS) => wEn dC dI (va_A (cW κ σ) sz) (cW κ τ) []) (va_A (cW κ σ) sz)) 0 0 (va_A (cW κ σ) sz) := by
  refine Met.ofW (cc := cX10_made) (maxL := 9) (ret := (some .long)) (by decide +kernel) rfl ?_
  intro p e s m args below meth c s₁ B hml hv
  obtain ⟨rfl, hsz, hP, hK, hD0, hE⟩ := hv
  have hx := B.exec
  have hb := B.bytes
  have hr := B.returns
  have hts := atoms_spec (ws := vs_k_made25) B.pre
  have hown : s.vm.findClass RX10 = some m.cls := findClass_of_methodNamed B.named
  have hlocks := B.notSynchronized
  subst hsz
  have hD := hD0.self (sz := s.heap.size)
  generalize hAe : va_A (cW κ σ) s.heap.size = A at hD ⊢
  have hA : ∀ q : Nat, s.heap.size ≤ q → A q := fun q h => by rw [← hAe]; exact Or.inr h
  have hl := lv_entry ([.ref (kA κ 24), .ref (kA κ 25), .int x, .ref a, .int y, .int z]) (n := 9) (Nat.le_of_ble_eq_true rfl)
  rw [lg_entry_eq]
  generalize (lg_sl ([.ref (kA κ 24), .ref (kA κ 25), .int x, .ref a, .int y, .int z]) ++ List.replicate (9 - (lg_sl ([.ref (kA κ 24), .ref (kA κ 25), .int x, .ref a, .int y, .int z])).length) Slot.unset).toArray = ls at hl ⊢
  have hl : lv_has ls 9 [(0, .ref (kA κ 24)), (1, .ref (kA κ 25)), (2, .int x), (3, .ref a), (4, .int y), (5, .int z)] := hl
  have ho := fun w (h : w ∈ ow_k_made25) => hts w (List.mem_cons_of_mem _ (List.mem_append_left _ h))
  have hin9 : ∀ w ∈ u_ws RX9 TX9 11, w ∈ vs_k_made25 := fun w h => (List.mem_cons_of_mem _ (List.mem_append_right _ (List.mem_append_right _ (List.mem_append_right _ (List.mem_append_right _ (List.mem_append_right _ (List.mem_append_right _ (List.mem_append_right _ (List.mem_append_right _ (List.mem_append_right _ h))))))))))
  refine zQ (fun Q hQ => ?_)
  refine zH (A := A) (ws := (cW κ σ)) (fun H hP hS => ?_) hP
  have hk0 := hk.1
  have hk1 := hk.2.1
  have hk2 := hk.2.2.1
  refine lv_iload hx hb dX10_made_0 (lv_at hl 4 rfl) ?_
  refine lv_iconst (v := 4) hx hb dX10_made_2 rg_31 ?_
  refine lv_icmp_ne (tgt := 11) hx hb dX10_made_3 rfl (fun c1_ => ?_) (fun c1_ => ?_)
  · have tc1_ := (show y.toInt ≠ 4 from ti_ne rfl rg_32 c1_)
    refine lv_iload_n hx hb dX10_made_11 rfl (lv_at hl 2 rfl) ?_
    refine lv_bipush (v := 12) hx hb dX10_made_12 rg_57 ?_
    refine lv_imul hx hb dX10_made_14 ?_
    refine lv_topi (fun z2_ ez2_ => ?_)
    have o1 : -2147483648 ≤ x.toInt * 12 := by omega
    have o2 : x.toInt * 12 ≤ 2147483647 := by omega
    have tz2_ : z2_.toInt = x.toInt * 12 := ti_mul ez2_ rfl rg_58 o1 o2
    refine lv_istore (lv' := [(6, .int z2_), (0, .ref (kA κ 24)), (1, .ref (kA κ 25)), (2, .int x), (3, .ref a), (4, .int y), (5, .int z)]) hx hb dX10_made_15 hl (Nat.le_of_ble_eq_true rfl) rfl (fun ls hl => ?_)
    have pt85_ : ∀ (v7_ : Int64) (H : Heap) (locs : List Loc) (ls : Array Slot), va_P (dC, dI) vwCl (cW κ σ) H → va_D A (cW κ σ) → va_S A s.heap H locs → lv_has ls 9 [(7, .long v7_), (4, .int y), (5, .int z)] → W p l e (headSpec vs_k_made25 rm_k_made25).room s m #[Value.ref (kA κ 24), Value.ref (kA κ 25), Value.int x, Value.ref a, Value.int y, Value.int z] below meth c H locs 0 0 Q (F0 m 85 ls []) := by
      intro v7_ H locs ls hP hD hS hl
      refine lv_iload hx hb dX10_made_85 (lv_at hl 1 rfl) ?_
      refine lv_iconst (v := 1) hx hb dX10_made_87 rg_6 ?_
      refine lv_icmp_ne (tgt := 102) hx hb dX10_made_88 rfl (fun c3_ => ?_) (fun c3_ => ?_)
      · have tc3_ := (show y.toInt ≠ 1 from ti_ne rfl rg_18 c3_)
        refine lv_lload hx hb dX10_made_102 (lv_at hl 0 rfl) ?_
        rw [hQ]
        exact W.lret (v := v7_) hx hb hr (fun t ht hW => ⟨⟨v7_, σ, rfl, ⟨rfl, trivial⟩, wEn_of hP (hK.sub [] rfl) hD ht hW⟩, hS.F ht⟩) hS.2.2 dX10_made_104
      · have tc3_ := (show y.toInt = 1 from ti_eq rfl rg_18 c3_)
        refine lv_lload hx hb dX10_made_91 (lv_at hl 0 rfl) ?_
        refine lv_iload hx hb dX10_made_93 (lv_at hl 2 rfl) ?_
        refine lv_lshr hx hb dX10_made_95 rfl ?_
        refine lv_topl (fun y4_ ey4_ => ?_)
        refine lv_iload hx hb dX10_made_96 (lv_at hl 2 rfl) ?_
        refine lv_lshl hx hb dX10_made_98 rfl ?_
        refine lv_topl (fun y5_ ey5_ => ?_)
        refine lv_goto (tgt := 104) hx hb dX10_made_99 rfl ?_
        rw [hQ]
        exact W.lret (v := y5_) hx hb hr (fun t ht hW => ⟨⟨y5_, σ, rfl, ⟨rfl, trivial⟩, wEn_of hP (hK.sub [] rfl) hD ht hW⟩, hS.F ht⟩) hS.2.2 dX10_made_104
    refine lv_aload_n hx hb dX10_made_17 rfl (lv_at hl 4 rfl) ?_
    obtain ⟨kp6_, hkp6_⟩ := cpl (κ := κ) (σ := σ) g_a.1 g_a.2.1
    refine va_get (D := (dC, dI)) (ci := 9) (v := .int (t_a.1 0)) (C := RX9) (T := TX9) (N := 11) hx hb hts hin9 hown hK hP kp6_ hkp6_ rfl 0 (Nat.le_of_ble_eq_true rfl) (ho (.fieldLink RX10 55 "NearEnough$Step" "kind" "I") (List.mem_of_getElem? (i := 0) rfl)) (fun _ h9 => h9) rfl dX10_made_18 ?_
    refine lv_bipush (v := 6) hx hb dX10_made_21 rg_55 ?_
    refine lv_icmp_ne (tgt := 50) hx hb dX10_made_23 rfl (fun c7_ => ?_) (fun c7_ => ?_)
    · have tc7_ := (show (t_a.1 0).toInt ≠ 6 from ti_ne rfl rg_70 c7_)
      refine lv_aload_n hx hb dX10_made_50 rfl (lv_at hl 4 rfl) ?_
      obtain ⟨kp8_, hkp8_⟩ := cpl (κ := κ) (σ := σ) g_a.1 g_a.2.1
      refine va_get (D := (dC, dI)) (ci := 9) (v := va_rf t_a.2.2) (C := RX9) (T := TX9) (N := 11) hx hb hts hin9 hown hK hP kp8_ hkp8_ rfl 2 (Nat.le_of_ble_eq_true rfl) (ho (.fieldLink RX10 66 "NearEnough$Step" "row" "LNearEnough$Row;") (List.mem_of_getElem? (i := 1) rfl)) (fun _ h9 => h9) rfl dX10_made_51 ?_
      rcases er10_ : t_a.2.2 with _ | r9_
      · refine zv (v := .null) rfl ?_
        have na := er10_
        refine lv_ifnullN (tgt := 72) hx hb dX10_made_54 rfl ?_
        refine lv_aload_n hx hb dX10_made_72 rfl (lv_at hl 2 rfl) ?_
        refine lv_iload hx hb dX10_made_73 (lv_at hl 0 rfl) ?_
        refine lv_aload_n hx hb dX10_made_75 rfl (lv_at hl 4 rfl) ?_
        refine lv_iload hx hb dX10_made_76 (lv_at hl 5 rfl) ?_
        refine lv_iload hx hb dX10_made_78 (lv_at hl 6 rfl) ?_
        have o3 : 0 ≤ z2_.toInt := by omega
        have o4 : z2_.toInt ≤ 480 := by omega
        refine zy_l (va_runS (As := [.ref (kA κ 25), .int z2_, .ref a, .int y, .int z]) (rest := []) ⟨hx, hb, hml, hown, hts⟩ (k_fromSteps25 l dC dI κ H.size σ z2_ a t_a g_a y z hk hI ⟨o3, o4⟩) (va_cwS 5 hts gd_k_made25_74_k_fromSteps25 rfl rfl rfl dd_k_fromSteps25 ⟨Nat.le_of_ble_eq_true rfl, Nat.le_of_ble_eq_true rfl⟩) (preSy hP hK hD hE) rfl rfl hl.1 rfl (lv_room (Nat.le_of_ble_eq_true rfl)) dX10_made_80 ⟨Nat.le_of_ble_eq_true rfl, Nat.le_of_ble_eq_true rfl⟩) hD hS hA (fun y11_ τ12_ H locs hq hP hD hS => ?_)
        obtain ⟨hτ12_, q13_⟩ := hq
        rw [hτ12_] at hP hD
        refine W.widen (k := 0) (n := 0) (Nat.le_of_ble_eq_true rfl) (Nat.le_of_ble_eq_true rfl) ?_
        refine lv_lstore (lv' := [(7, .long y11_), (6, .int z2_), (0, .ref (kA κ 24)), (1, .ref (kA κ 25)), (2, .int x), (3, .ref a), (4, .int y), (5, .int z)]) hx hb dX10_made_83 hl (Nat.le_of_ble_eq_true rfl) rfl (fun ls hl => ?_)
        exact pt85_  y11_ _ _ _  hP hD hS (lv_sub hl [0, 6, 7] rfl)
      · refine zv (v := .ref r9_) rfl ?_
        obtain ⟨u14_, gu14_⟩ := g_a.2.2.2 r9_ er10_
        refine lv_ifnull hx hb dX10_made_54 ?_
        refine lv_aload_n hx hb dX10_made_57 rfl (lv_at hl 1 rfl) ?_
        refine lv_aload_n hx hb dX10_made_58 rfl (lv_at hl 4 rfl) ?_
        refine lv_iload_n hx hb dX10_made_59 rfl (lv_at hl 3 rfl) ?_
        refine lv_iload hx hb dX10_made_60 (lv_at hl 5 rfl) ?_
        refine lv_iload hx hb dX10_made_62 (lv_at hl 6 rfl) ?_
        have o5 : 0 ≤ x.toInt := by omega
        have o6 : x.toInt ≤ 40 := by omega
        have o7 : 0 ≤ z.toInt := by omega
        have o8 : z.toInt ≤ 99 := by omega
        refine zy_l (va_runV (As := [.ref a, .int x, .int y, .int z]) (rest := []) ⟨hx, hb, hml, hown, hts⟩ (k_fromRow l dC dI κ H.size σ a t_a g_a r9_ u14_ er10_ gu14_ x y z hk hI ⟨o5, o6⟩ ⟨o7, o8⟩) (cwV 4 hts gd_k_made25_70_k_fromRow rfl rfl rfl dd_k_fromRow ⟨Nat.le_of_ble_eq_true rfl, Nat.le_of_ble_eq_true rfl⟩) (preVy hP hK hD hE (ci := 10) (q0 := 24) rfl rfl) rfl rfl hl.1 rfl (lv_room (Nat.le_of_ble_eq_true rfl)) dX10_made_64 ⟨Nat.le_of_ble_eq_true rfl, Nat.le_of_ble_eq_true rfl⟩) hD hS hA (fun y15_ τ16_ H locs hq hP hD hS => ?_)
        obtain ⟨hτ16_, q17_⟩ := hq
        rw [hτ16_] at hP hD
        refine W.widen (k := 0) (n := 0) (Nat.le_of_ble_eq_true rfl) (Nat.le_of_ble_eq_true rfl) ?_
        refine lv_lstore (lv' := [(7, .long y15_), (6, .int z2_), (0, .ref (kA κ 24)), (1, .ref (kA κ 25)), (2, .int x), (3, .ref a), (4, .int y), (5, .int z)]) hx hb dX10_made_67 hl (Nat.le_of_ble_eq_true rfl) rfl (fun ls hl => ?_)
        refine lv_goto (tgt := 85) hx hb dX10_made_69 rfl ?_
        exact pt85_  y15_ _ _ _  hP hD hS (lv_sub hl [0, 6, 7] rfl)
    · have tc7_ := (show (t_a.1 0).toInt = 6 from ti_eq rfl rg_70 c7_)
      refine lv_aload_n hx hb dX10_made_26 rfl (lv_at hl 1 rfl) ?_
      refine lv_aload_n hx hb dX10_made_27 rfl (lv_at hl 4 rfl) ?_
      refine lv_aload_n hx hb dX10_made_28 rfl (lv_at hl 2 rfl) ?_
      refine lv_iload hx hb dX10_made_29 (lv_at hl 0 rfl) ?_
      refine lv_aload_n hx hb dX10_made_31 rfl (lv_at hl 4 rfl) ?_
      have bb18_ := g_a.2.2.1 1 rx_cd17d5a19c rx_be9bb8ec2b
      obtain ⟨kp19_, hkp19_⟩ := cpl (κ := κ) (σ := σ) g_a.1 g_a.2.1
      refine va_get (D := (dC, dI)) (ci := 9) (v := .int (t_a.1 1)) (C := RX9) (T := TX9) (N := 11) hx hb hts hin9 hown hK hP kp19_ hkp19_ rfl 3 (Nat.le_of_ble_eq_true rfl) (ho (.fieldLink RX10 59 "NearEnough$Step" "a" "I") (List.mem_of_getElem? (i := 2) rfl)) (fun _ h9 => h9) rfl dX10_made_32 ?_
      refine lv_iadd hx hb dX10_made_35 ?_
      refine lv_topi (fun z20_ ez20_ => ?_)
      have o9 : -2147483648 ≤ z2_.toInt + (t_a.1 1).toInt := by omega
      have o10 : z2_.toInt + (t_a.1 1).toInt ≤ 2147483647 := by omega
      have tz20_ : z20_.toInt = z2_.toInt + (t_a.1 1).toInt := ti_add ez20_ rfl rfl o9 o10
      have o11 : 0 ≤ z20_.toInt := by omega
      have o12 : z20_.toInt < ((492 : Nat) : Int) := by omega
      refine va_lald hx hb hK hP 25 19 rfl rfl (ti_inx o11 o12) dX10_made_36 ?_
      refine lv_topl (fun y21_ ey21_ => ?_)
      refine lv_iload_n hx hb dX10_made_37 rfl (lv_at hl 3 rfl) ?_
      refine lv_iload hx hb dX10_made_38 (lv_at hl 5 rfl) ?_
      refine lv_iload hx hb dX10_made_40 (lv_at hl 6 rfl) ?_
      have o13 : 0 ≤ x.toInt := by omega
      have o14 : x.toInt ≤ 40 := by omega
      refine zy_l (va_runV (As := [.ref a, .long y21_, .int x, .int y, .int z]) (rest := []) ⟨hx, hb, hml, hown, hts⟩ (k_fromPlace l dC dI κ H.size σ a t_a g_a y21_ x y z hk hI ⟨o13, o14⟩) (cwV 5 hts gd_k_made25_62_k_fromPlace rfl rfl rfl dd_k_fromPlace ⟨Nat.le_of_ble_eq_true rfl, Nat.le_of_ble_eq_true rfl⟩) (preVy hP hK hD hE (ci := 10) (q0 := 24) rfl rfl) rfl rfl hl.1 rfl (lv_room (Nat.le_of_ble_eq_true rfl)) dX10_made_42 ⟨Nat.le_of_ble_eq_true rfl, Nat.le_of_ble_eq_true rfl⟩) hD hS hA (fun y22_ τ23_ H locs hq hP hD hS => ?_)
      obtain ⟨hτ23_, q24_⟩ := hq
      rw [hτ23_] at hP hD
      refine W.widen (k := 0) (n := 0) (Nat.le_of_ble_eq_true rfl) (Nat.le_of_ble_eq_true rfl) ?_
      refine lv_lstore (lv' := [(7, .long y22_), (6, .int z2_), (0, .ref (kA κ 24)), (1, .ref (kA κ 25)), (2, .int x), (3, .ref a), (4, .int y), (5, .int z)]) hx hb dX10_made_45 hl (Nat.le_of_ble_eq_true rfl) rfl (fun ls hl => ?_)
      refine lv_goto (tgt := 85) hx hb dX10_made_47 rfl ?_
      exact pt85_  y22_ _ _ _  hP hD hS (lv_sub hl [0, 6, 7] rfl)
  · have tc1_ := (show y.toInt = 4 from ti_eq rfl rg_32 c1_)
    refine lv_aload_n hx hb dX10_made_6 rfl (lv_at hl 3 rfl) ?_
    obtain ⟨kp26_, hkp26_⟩ := cpl (κ := κ) (σ := σ) g_a.1 g_a.2.1
    refine zy_l (va_runV (As := []) (rest := []) ⟨hx, hb, hml, hown, hts⟩ (k_middle l dC dI κ H.size σ a t_a g_a hk hI ) (cwV 0 hts gd_k_made25_49_k_middle rfl rfl rfl dd_k_middle ⟨Nat.le_of_ble_eq_true rfl, Nat.le_of_ble_eq_true rfl⟩) (preVy hP hK hD hE (ci := 9) (q0 := kp26_) rfl hkp26_) rfl rfl hl.1 rfl (lv_room (Nat.le_of_ble_eq_true rfl)) dX10_made_7 ⟨Nat.le_of_ble_eq_true rfl, Nat.le_of_ble_eq_true rfl⟩) hD hS hA (fun y25_ τ27_ H locs hq hP hD hS => ?_)
    obtain ⟨hτ27_, q28_⟩ := hq
    rw [hτ27_] at hP hD
    refine W.widen (k := 0) (n := 0) (Nat.le_of_ble_eq_true rfl) (Nat.le_of_ble_eq_true rfl) ?_
    rw [hQ]
    exact W.lret (v := y25_) hx hb hr (fun t ht hW => ⟨⟨y25_, σ, rfl, ⟨rfl, trivial⟩, wEn_of hP (hK.sub [] rfl) hD ht hW⟩, hS.F ht⟩) hS.2.2 dX10_made_10
def ow_k_made26 : List Cond := [.fieldLink RX10 55 "NearEnough$Step" "kind" "I", .fieldLink RX10 66 "NearEnough$Step" "row" "LNearEnough$Row;", .fieldLink RX10 59 "NearEnough$Step" "a" "I"]
def vs_k_made26 : List Cond := .code yX10_made cX10_made 9 (some .long) :: (ow_k_made26 ++ (([.methodLink RX10 74 yX10_fromSteps, .static yX10_fromSteps, .initialized yX10_fromSteps.cls] : List Cond) ++ (vs_k_fromSteps26 ++ (([.methodLink RX10 70 yX10_fromRow, .instanceMethod yX10_fromRow, .selects RX10 yX10_fromRow yX10_fromRow, .initialized RX10] : List Cond) ++ (vs_k_fromRow ++ (([.methodLink RX10 62 yX10_fromPlace, .instanceMethod yX10_fromPlace, .selects RX10 yX10_fromPlace yX10_fromPlace, .initialized RX10] : List Cond) ++ (vs_k_fromPlace ++ (([.methodLink RX10 49 yX9_middle, .instanceMethod yX9_middle, .selects RX9 yX9_middle yX9_middle, .initialized RX9] : List Cond) ++ (vs_k_middle ++ (wsX90))))))))))
theorem vg_k_made26 : vs_k_made26.all goodWord = true := by decide +kernel
theorem dd_k_made26 : yX10_made.cls = RX10 ∧ yX10_made.cls ≠ "java/lang/invoke/MethodHandle" ∧ yX10_made.cls ≠ "java/lang/invoke/VarHandle" ∧ (parseMethodDescriptor yX10_made.desc).map (fun d => d.parameters.length) = some 5 := by decide +kernel
def rm_k_made26 : Room := { frames := 3, cells := 0, slots := 0, locals := 84 }
theorem gd_k_made26_74_k_fromSteps26 : GoodIn vs_k_made26 (va_wsS RX10 74 yX10_fromSteps vs_k_fromSteps26) := goodIn_app (goodIn_sub (fun w h => (List.mem_cons_of_mem _ (List.mem_append_right _ (List.mem_append_left _ h)))) (by decide +kernel)) (goodIn_sub (fun w h => (List.mem_cons_of_mem _ (List.mem_append_right _ (List.mem_append_right _ (List.mem_append_left _ h))))) vg_k_fromSteps26)
theorem gd_k_made26_70_k_fromRow : GoodIn vs_k_made26 (wsV RX10 70 RX10 yX10_fromRow vs_k_fromRow) := goodIn_app (goodIn_sub (fun w h => (List.mem_cons_of_mem _ (List.mem_append_right _ (List.mem_append_right _ (List.mem_append_right _ (List.mem_append_left _ h)))))) (by decide +kernel)) (goodIn_sub (fun w h => (List.mem_cons_of_mem _ (List.mem_append_right _ (List.mem_append_right _ (List.mem_append_right _ (List.mem_append_right _ (List.mem_append_left _ h))))))) vg_k_fromRow)
theorem gd_k_made26_62_k_fromPlace : GoodIn vs_k_made26 (wsV RX10 62 RX10 yX10_fromPlace vs_k_fromPlace) := goodIn_app (goodIn_sub (fun w h => (List.mem_cons_of_mem _ (List.mem_append_right _ (List.mem_append_right _ (List.mem_append_right _ (List.mem_append_right _ (List.mem_append_right _ (List.mem_append_left _ h)))))))) (by decide +kernel)) (goodIn_sub (fun w h => (List.mem_cons_of_mem _ (List.mem_append_right _ (List.mem_append_right _ (List.mem_append_right _ (List.mem_append_right _ (List.mem_append_right _ (List.mem_append_right _ (List.mem_append_left _ h))))))))) vg_k_fromPlace)
theorem gd_k_made26_49_k_middle : GoodIn vs_k_made26 (wsV RX10 49 RX9 yX9_middle vs_k_middle) := goodIn_app (goodIn_sub (fun w h => (List.mem_cons_of_mem _ (List.mem_append_right _ (List.mem_append_right _ (List.mem_append_right _ (List.mem_append_right _ (List.mem_append_right _ (List.mem_append_right _ (List.mem_append_right _ (List.mem_append_left _ h)))))))))) (by decide +kernel)) (goodIn_sub (fun w h => (List.mem_cons_of_mem _ (List.mem_append_right _ (List.mem_append_right _ (List.mem_append_right _ (List.mem_append_right _ (List.mem_append_right _ (List.mem_append_right _ (List.mem_append_right _ (List.mem_append_right _ (List.mem_append_left _ h))))))))))) vg_k_middle)
set_option maxHeartbeats 4000000 in
set_option maxRecDepth 100000 in
theorem k_made26 (l : Launch) (dC : Nat → ClassId) (dI : Nat → Nat → Nat) (κ : CE) (sz : Nat) (σ : MS) (x : Int32) (a : Nat) (t_a : TT) (g_a : IsStep κ a t_a) (y : Int32) (z : Int32) (hk : PInv κ) (hI : CInv σ) (hx0 : 0 ≤ x.toInt ∧ x.toInt ≤ 40) (hz0 : 0 ≤ z.toInt ∧ z.toInt ≤ 99) : Met l yX10_made vs_k_made26 rm_k_made26 (va_Pc [.ref (kA κ 24), .ref (kA κ 26), .int x, .ref a, .int y, .int z] (wSy dC dI (cW κ σ) (cT κ) sz)) (va_Ql (fun (r : Int64) (τ : MS) => τ = σ ∧ True) (fun (τ : MS) => wEn dC dI (va_A (cW κ σ) sz) (cW κ τ) []) (va_A (cW κ σ) sz)) 0 0 (va_A (cW κ σ) sz) := by
  refine Met.ofW (cc := cX10_made) (maxL := 9) (ret := (some .long)) (by decide +kernel) rfl ?_
  intro p e s m args below meth c s₁ B hml hv
  obtain ⟨rfl, hsz, hP, hK, hD0, hE⟩ := hv
  have hx := B.exec
  have hb := B.bytes
  have hr := B.returns
  have hts := atoms_spec (ws := vs_k_made26) B.pre
  have hown : s.vm.findClass RX10 = some m.cls := findClass_of_methodNamed B.named
  have hlocks := B.notSynchronized
  subst hsz
  have hD := hD0.self (sz := s.heap.size)
  generalize hAe : va_A (cW κ σ) s.heap.size = A at hD ⊢
  have hA : ∀ q : Nat, s.heap.size ≤ q → A q := fun q h => by rw [← hAe]; exact Or.inr h
  have hl := lv_entry ([.ref (kA κ 24), .ref (kA κ 26), .int x, .ref a, .int y, .int z]) (n := 9) (Nat.le_of_ble_eq_true rfl)
  rw [lg_entry_eq]
  generalize (lg_sl ([.ref (kA κ 24), .ref (kA κ 26), .int x, .ref a, .int y, .int z]) ++ List.replicate (9 - (lg_sl ([.ref (kA κ 24), .ref (kA κ 26), .int x, .ref a, .int y, .int z])).length) Slot.unset).toArray = ls at hl ⊢
  have hl : lv_has ls 9 [(0, .ref (kA κ 24)), (1, .ref (kA κ 26)), (2, .int x), (3, .ref a), (4, .int y), (5, .int z)] := hl
  have ho := fun w (h : w ∈ ow_k_made26) => hts w (List.mem_cons_of_mem _ (List.mem_append_left _ h))
  have hin9 : ∀ w ∈ u_ws RX9 TX9 11, w ∈ vs_k_made26 := fun w h => (List.mem_cons_of_mem _ (List.mem_append_right _ (List.mem_append_right _ (List.mem_append_right _ (List.mem_append_right _ (List.mem_append_right _ (List.mem_append_right _ (List.mem_append_right _ (List.mem_append_right _ (List.mem_append_right _ h))))))))))
  refine zQ (fun Q hQ => ?_)
  refine zH (A := A) (ws := (cW κ σ)) (fun H hP hS => ?_) hP
  have hk0 := hk.1
  have hk1 := hk.2.1
  have hk2 := hk.2.2.1
  refine lv_iload hx hb dX10_made_0 (lv_at hl 4 rfl) ?_
  refine lv_iconst (v := 4) hx hb dX10_made_2 rg_31 ?_
  refine lv_icmp_ne (tgt := 11) hx hb dX10_made_3 rfl (fun c1_ => ?_) (fun c1_ => ?_)
  · have tc1_ := (show y.toInt ≠ 4 from ti_ne rfl rg_32 c1_)
    refine lv_iload_n hx hb dX10_made_11 rfl (lv_at hl 2 rfl) ?_
    refine lv_bipush (v := 12) hx hb dX10_made_12 rg_57 ?_
    refine lv_imul hx hb dX10_made_14 ?_
    refine lv_topi (fun z2_ ez2_ => ?_)
    have o1 : -2147483648 ≤ x.toInt * 12 := by omega
    have o2 : x.toInt * 12 ≤ 2147483647 := by omega
    have tz2_ : z2_.toInt = x.toInt * 12 := ti_mul ez2_ rfl rg_58 o1 o2
    refine lv_istore (lv' := [(6, .int z2_), (0, .ref (kA κ 24)), (1, .ref (kA κ 26)), (2, .int x), (3, .ref a), (4, .int y), (5, .int z)]) hx hb dX10_made_15 hl (Nat.le_of_ble_eq_true rfl) rfl (fun ls hl => ?_)
    have pt85_ : ∀ (v7_ : Int64) (H : Heap) (locs : List Loc) (ls : Array Slot), va_P (dC, dI) vwCl (cW κ σ) H → va_D A (cW κ σ) → va_S A s.heap H locs → lv_has ls 9 [(7, .long v7_), (4, .int y), (5, .int z)] → W p l e (headSpec vs_k_made26 rm_k_made26).room s m #[Value.ref (kA κ 24), Value.ref (kA κ 26), Value.int x, Value.ref a, Value.int y, Value.int z] below meth c H locs 0 0 Q (F0 m 85 ls []) := by
      intro v7_ H locs ls hP hD hS hl
      refine lv_iload hx hb dX10_made_85 (lv_at hl 1 rfl) ?_
      refine lv_iconst (v := 1) hx hb dX10_made_87 rg_6 ?_
      refine lv_icmp_ne (tgt := 102) hx hb dX10_made_88 rfl (fun c3_ => ?_) (fun c3_ => ?_)
      · have tc3_ := (show y.toInt ≠ 1 from ti_ne rfl rg_18 c3_)
        refine lv_lload hx hb dX10_made_102 (lv_at hl 0 rfl) ?_
        rw [hQ]
        exact W.lret (v := v7_) hx hb hr (fun t ht hW => ⟨⟨v7_, σ, rfl, ⟨rfl, trivial⟩, wEn_of hP (hK.sub [] rfl) hD ht hW⟩, hS.F ht⟩) hS.2.2 dX10_made_104
      · have tc3_ := (show y.toInt = 1 from ti_eq rfl rg_18 c3_)
        refine lv_lload hx hb dX10_made_91 (lv_at hl 0 rfl) ?_
        refine lv_iload hx hb dX10_made_93 (lv_at hl 2 rfl) ?_
        refine lv_lshr hx hb dX10_made_95 rfl ?_
        refine lv_topl (fun y4_ ey4_ => ?_)
        refine lv_iload hx hb dX10_made_96 (lv_at hl 2 rfl) ?_
        refine lv_lshl hx hb dX10_made_98 rfl ?_
        refine lv_topl (fun y5_ ey5_ => ?_)
        refine lv_goto (tgt := 104) hx hb dX10_made_99 rfl ?_
        rw [hQ]
        exact W.lret (v := y5_) hx hb hr (fun t ht hW => ⟨⟨y5_, σ, rfl, ⟨rfl, trivial⟩, wEn_of hP (hK.sub [] rfl) hD ht hW⟩, hS.F ht⟩) hS.2.2 dX10_made_104
    refine lv_aload_n hx hb dX10_made_17 rfl (lv_at hl 4 rfl) ?_
    obtain ⟨kp6_, hkp6_⟩ := cpl (κ := κ) (σ := σ) g_a.1 g_a.2.1
    refine va_get (D := (dC, dI)) (ci := 9) (v := .int (t_a.1 0)) (C := RX9) (T := TX9) (N := 11) hx hb hts hin9 hown hK hP kp6_ hkp6_ rfl 0 (Nat.le_of_ble_eq_true rfl) (ho (.fieldLink RX10 55 "NearEnough$Step" "kind" "I") (List.mem_of_getElem? (i := 0) rfl)) (fun _ h9 => h9) rfl dX10_made_18 ?_
    refine lv_bipush (v := 6) hx hb dX10_made_21 rg_55 ?_
    refine lv_icmp_ne (tgt := 50) hx hb dX10_made_23 rfl (fun c7_ => ?_) (fun c7_ => ?_)
    · have tc7_ := (show (t_a.1 0).toInt ≠ 6 from ti_ne rfl rg_70 c7_)
      refine lv_aload_n hx hb dX10_made_50 rfl (lv_at hl 4 rfl) ?_
      obtain ⟨kp8_, hkp8_⟩ := cpl (κ := κ) (σ := σ) g_a.1 g_a.2.1
      refine va_get (D := (dC, dI)) (ci := 9) (v := va_rf t_a.2.2) (C := RX9) (T := TX9) (N := 11) hx hb hts hin9 hown hK hP kp8_ hkp8_ rfl 2 (Nat.le_of_ble_eq_true rfl) (ho (.fieldLink RX10 66 "NearEnough$Step" "row" "LNearEnough$Row;") (List.mem_of_getElem? (i := 1) rfl)) (fun _ h9 => h9) rfl dX10_made_51 ?_
      rcases er10_ : t_a.2.2 with _ | r9_
      · refine zv (v := .null) rfl ?_
        have na := er10_
        refine lv_ifnullN (tgt := 72) hx hb dX10_made_54 rfl ?_
        refine lv_aload_n hx hb dX10_made_72 rfl (lv_at hl 2 rfl) ?_
        refine lv_iload hx hb dX10_made_73 (lv_at hl 0 rfl) ?_
        refine lv_aload_n hx hb dX10_made_75 rfl (lv_at hl 4 rfl) ?_
        refine lv_iload hx hb dX10_made_76 (lv_at hl 5 rfl) ?_
        refine lv_iload hx hb dX10_made_78 (lv_at hl 6 rfl) ?_
        have o3 : 0 ≤ z2_.toInt := by omega
        have o4 : z2_.toInt ≤ 480 := by omega
        refine zy_l (va_runS (As := [.ref (kA κ 26), .int z2_, .ref a, .int y, .int z]) (rest := []) ⟨hx, hb, hml, hown, hts⟩ (k_fromSteps26 l dC dI κ H.size σ z2_ a t_a g_a y z hk hI ⟨o3, o4⟩) (va_cwS 5 hts gd_k_made26_74_k_fromSteps26 rfl rfl rfl dd_k_fromSteps26 ⟨Nat.le_of_ble_eq_true rfl, Nat.le_of_ble_eq_true rfl⟩) (preSy hP hK hD hE) rfl rfl hl.1 rfl (lv_room (Nat.le_of_ble_eq_true rfl)) dX10_made_80 ⟨Nat.le_of_ble_eq_true rfl, Nat.le_of_ble_eq_true rfl⟩) hD hS hA (fun y11_ τ12_ H locs hq hP hD hS => ?_)
        obtain ⟨hτ12_, q13_⟩ := hq
        rw [hτ12_] at hP hD
        refine W.widen (k := 0) (n := 0) (Nat.le_of_ble_eq_true rfl) (Nat.le_of_ble_eq_true rfl) ?_
        refine lv_lstore (lv' := [(7, .long y11_), (6, .int z2_), (0, .ref (kA κ 24)), (1, .ref (kA κ 26)), (2, .int x), (3, .ref a), (4, .int y), (5, .int z)]) hx hb dX10_made_83 hl (Nat.le_of_ble_eq_true rfl) rfl (fun ls hl => ?_)
        exact pt85_  y11_ _ _ _  hP hD hS (lv_sub hl [0, 6, 7] rfl)
      · refine zv (v := .ref r9_) rfl ?_
        obtain ⟨u14_, gu14_⟩ := g_a.2.2.2 r9_ er10_
        refine lv_ifnull hx hb dX10_made_54 ?_
        refine lv_aload_n hx hb dX10_made_57 rfl (lv_at hl 1 rfl) ?_
        refine lv_aload_n hx hb dX10_made_58 rfl (lv_at hl 4 rfl) ?_
        refine lv_iload_n hx hb dX10_made_59 rfl (lv_at hl 3 rfl) ?_
        refine lv_iload hx hb dX10_made_60 (lv_at hl 5 rfl) ?_
        refine lv_iload hx hb dX10_made_62 (lv_at hl 6 rfl) ?_
        have o5 : 0 ≤ x.toInt := by omega
        have o6 : x.toInt ≤ 40 := by omega
        have o7 : 0 ≤ z.toInt := by omega
        have o8 : z.toInt ≤ 99 := by omega
        refine zy_l (va_runV (As := [.ref a, .int x, .int y, .int z]) (rest := []) ⟨hx, hb, hml, hown, hts⟩ (k_fromRow l dC dI κ H.size σ a t_a g_a r9_ u14_ er10_ gu14_ x y z hk hI ⟨o5, o6⟩ ⟨o7, o8⟩) (cwV 4 hts gd_k_made26_70_k_fromRow rfl rfl rfl dd_k_fromRow ⟨Nat.le_of_ble_eq_true rfl, Nat.le_of_ble_eq_true rfl⟩) (preVy hP hK hD hE (ci := 10) (q0 := 24) rfl rfl) rfl rfl hl.1 rfl (lv_room (Nat.le_of_ble_eq_true rfl)) dX10_made_64 ⟨Nat.le_of_ble_eq_true rfl, Nat.le_of_ble_eq_true rfl⟩) hD hS hA (fun y15_ τ16_ H locs hq hP hD hS => ?_)
        obtain ⟨hτ16_, q17_⟩ := hq
        rw [hτ16_] at hP hD
        refine W.widen (k := 0) (n := 0) (Nat.le_of_ble_eq_true rfl) (Nat.le_of_ble_eq_true rfl) ?_
        refine lv_lstore (lv' := [(7, .long y15_), (6, .int z2_), (0, .ref (kA κ 24)), (1, .ref (kA κ 26)), (2, .int x), (3, .ref a), (4, .int y), (5, .int z)]) hx hb dX10_made_67 hl (Nat.le_of_ble_eq_true rfl) rfl (fun ls hl => ?_)
        refine lv_goto (tgt := 85) hx hb dX10_made_69 rfl ?_
        exact pt85_  y15_ _ _ _  hP hD hS (lv_sub hl [0, 6, 7] rfl)
    · have tc7_ := (show (t_a.1 0).toInt = 6 from ti_eq rfl rg_70 c7_)
      refine lv_aload_n hx hb dX10_made_26 rfl (lv_at hl 1 rfl) ?_
      refine lv_aload_n hx hb dX10_made_27 rfl (lv_at hl 4 rfl) ?_
      refine lv_aload_n hx hb dX10_made_28 rfl (lv_at hl 2 rfl) ?_
      refine lv_iload hx hb dX10_made_29 (lv_at hl 0 rfl) ?_
      refine lv_aload_n hx hb dX10_made_31 rfl (lv_at hl 4 rfl) ?_
      have bb18_ := g_a.2.2.1 1 rx_cd17d5a19c rx_be9bb8ec2b
      obtain ⟨kp19_, hkp19_⟩ := cpl (κ := κ) (σ := σ) g_a.1 g_a.2.1
      refine va_get (D := (dC, dI)) (ci := 9) (v := .int (t_a.1 1)) (C := RX9) (T := TX9) (N := 11) hx hb hts hin9 hown hK hP kp19_ hkp19_ rfl 3 (Nat.le_of_ble_eq_true rfl) (ho (.fieldLink RX10 59 "NearEnough$Step" "a" "I") (List.mem_of_getElem? (i := 2) rfl)) (fun _ h9 => h9) rfl dX10_made_32 ?_
      refine lv_iadd hx hb dX10_made_35 ?_
      refine lv_topi (fun z20_ ez20_ => ?_)
      have o9 : -2147483648 ≤ z2_.toInt + (t_a.1 1).toInt := by omega
      have o10 : z2_.toInt + (t_a.1 1).toInt ≤ 2147483647 := by omega
      have tz20_ : z20_.toInt = z2_.toInt + (t_a.1 1).toInt := ti_add ez20_ rfl rfl o9 o10
      have o11 : 0 ≤ z20_.toInt := by omega
      have o12 : z20_.toInt < ((492 : Nat) : Int) := by omega
      refine va_lald hx hb hK hP 26 20 rfl rfl (ti_inx o11 o12) dX10_made_36 ?_
      refine lv_topl (fun y21_ ey21_ => ?_)
      refine lv_iload_n hx hb dX10_made_37 rfl (lv_at hl 3 rfl) ?_
      refine lv_iload hx hb dX10_made_38 (lv_at hl 5 rfl) ?_
      refine lv_iload hx hb dX10_made_40 (lv_at hl 6 rfl) ?_
      have o13 : 0 ≤ x.toInt := by omega
      have o14 : x.toInt ≤ 40 := by omega
      refine zy_l (va_runV (As := [.ref a, .long y21_, .int x, .int y, .int z]) (rest := []) ⟨hx, hb, hml, hown, hts⟩ (k_fromPlace l dC dI κ H.size σ a t_a g_a y21_ x y z hk hI ⟨o13, o14⟩) (cwV 5 hts gd_k_made26_62_k_fromPlace rfl rfl rfl dd_k_fromPlace ⟨Nat.le_of_ble_eq_true rfl, Nat.le_of_ble_eq_true rfl⟩) (preVy hP hK hD hE (ci := 10) (q0 := 24) rfl rfl) rfl rfl hl.1 rfl (lv_room (Nat.le_of_ble_eq_true rfl)) dX10_made_42 ⟨Nat.le_of_ble_eq_true rfl, Nat.le_of_ble_eq_true rfl⟩) hD hS hA (fun y22_ τ23_ H locs hq hP hD hS => ?_)
      obtain ⟨hτ23_, q24_⟩ := hq
      rw [hτ23_] at hP hD
      refine W.widen (k := 0) (n := 0) (Nat.le_of_ble_eq_true rfl) (Nat.le_of_ble_eq_true rfl) ?_
      refine lv_lstore (lv' := [(7, .long y22_), (6, .int z2_), (0, .ref (kA κ 24)), (1, .ref (kA κ 26)), (2, .int x), (3, .ref a), (4, .int y), (5, .int z)]) hx hb dX10_made_45 hl (Nat.le_of_ble_eq_true rfl) rfl (fun ls hl => ?_)
      refine lv_goto (tgt := 85) hx hb dX10_made_47 rfl ?_
      exact pt85_  y22_ _ _ _  hP hD hS (lv_sub hl [0, 6, 7] rfl)
  · have tc1_ := (show y.toInt = 4 from ti_eq rfl rg_32 c1_)
    refine lv_aload_n hx hb dX10_made_6 rfl (lv_at hl 3 rfl) ?_
    obtain ⟨kp26_, hkp26_⟩ := cpl (κ := κ) (σ := σ) g_a.1 g_a.2.1
    refine zy_l (va_runV (As := []) (rest := []) ⟨hx, hb, hml, hown, hts⟩ (k_middle l dC dI κ H.size σ a t_a g_a hk hI ) (cwV 0 hts gd_k_made26_49_k_middle rfl rfl rfl dd_k_middle ⟨Nat.le_of_ble_eq_true rfl, Nat.le_of_ble_eq_true rfl⟩) (preVy hP hK hD hE (ci := 9) (q0 := kp26_) rfl hkp26_) rfl rfl hl.1 rfl (lv_room (Nat.le_of_ble_eq_true rfl)) dX10_made_7 ⟨Nat.le_of_ble_eq_true rfl, Nat.le_of_ble_eq_true rfl⟩) hD hS hA (fun y25_ τ27_ H locs hq hP hD hS => ?_)
    obtain ⟨hτ27_, q28_⟩ := hq
    rw [hτ27_] at hP hD
    refine W.widen (k := 0) (n := 0) (Nat.le_of_ble_eq_true rfl) (Nat.le_of_ble_eq_true rfl) ?_
    rw [hQ]
    exact W.lret (v := y25_) hx hb hr (fun t ht hW => ⟨⟨y25_, σ, rfl, ⟨rfl, trivial⟩, wEn_of hP (hK.sub [] rfl) hD ht hW⟩, hS.F ht⟩) hS.2.2 dX10_made_10
def ow_k_workPlain : List Cond := [.fieldLink RX10 9 "NearEnough$Worker" "plain" "[J", .fieldLink RX10 18 "NearEnough$Worker" "told" "LNearEnough$Program;", .fieldLink RX10 30 "NearEnough$Program" "steps" "[LNearEnough$Step;"]
def vs_k_workPlain : List Cond := .code yX10_workPlain cX10_workPlain 5 none :: (ow_k_workPlain ++ (([.methodLink RX10 36 yX10_made, .instanceMethod yX10_made, .selects RX10 yX10_made yX10_made, .initialized RX10] : List Cond) ++ (vs_k_made25 ++ (wsX30 ++ (wsX100)))))
theorem vg_k_workPlain : vs_k_workPlain.all goodWord = true := by decide +kernel
theorem dd_k_workPlain : yX10_workPlain.cls = RX10 ∧ yX10_workPlain.cls ≠ "java/lang/invoke/MethodHandle" ∧ yX10_workPlain.cls ≠ "java/lang/invoke/VarHandle" ∧ (parseMethodDescriptor yX10_workPlain.desc).map (fun d => d.parameters.length) = some 2 := by decide +kernel
def rm_k_workPlain : Room := { frames := 4, cells := 0, slots := 0, locals := 112 }
theorem gd_k_workPlain_36_k_made25 : GoodIn vs_k_workPlain (wsV RX10 36 RX10 yX10_made vs_k_made25) := goodIn_app (goodIn_sub (fun w h => (List.mem_cons_of_mem _ (List.mem_append_right _ (List.mem_append_left _ h)))) (by decide +kernel)) (goodIn_sub (fun w h => (List.mem_cons_of_mem _ (List.mem_append_right _ (List.mem_append_right _ (List.mem_append_left _ h))))) vg_k_made25)
set_option maxHeartbeats 4000000 in
set_option maxRecDepth 100000 in
theorem k_workPlain (l : Launch) (dC : Nat → ClassId) (dI : Nat → Nat → Nat) (κ : CE) (sz : Nat) (σ : MS) (x : Int32) (y : Int32) (hk : PInv κ) (hI : CInv σ) (hx0 : 0 ≤ x.toInt ∧ x.toInt ≤ 40) (hy0 : -1 ≤ y.toInt ∧ y.toInt < (pI κ 1).toInt) : Met l yX10_workPlain vs_k_workPlain rm_k_workPlain (va_Pc [.ref (kA κ 24), .int x, .int y] (wSy dC dI (cW κ σ) (cT κ) sz)) (va_Qv (fun (τ : MS) => CInv τ ∧ True) (fun (τ : MS) => wEn dC dI (va_A (cW κ σ) sz) (cW κ τ) []) (va_A (cW κ σ) sz)) 0 0 (va_A (cW κ σ) sz) := by
  refine Met.ofW (cc := cX10_workPlain) (maxL := 5) (ret := none) (by decide +kernel) rfl ?_
  intro p e s m args below meth c s₁ B hml hv
  obtain ⟨rfl, hsz, hP, hK, hD0, hE⟩ := hv
  have hx := B.exec
  have hb := B.bytes
  have hr := B.returns
  have hts := atoms_spec (ws := vs_k_workPlain) B.pre
  have hown : s.vm.findClass RX10 = some m.cls := findClass_of_methodNamed B.named
  have hlocks := B.notSynchronized
  subst hsz
  have hD := hD0.self (sz := s.heap.size)
  generalize hAe : va_A (cW κ σ) s.heap.size = A at hD ⊢
  have hA : ∀ q : Nat, s.heap.size ≤ q → A q := fun q h => by rw [← hAe]; exact Or.inr h
  have hl := lv_entry ([.ref (kA κ 24), .int x, .int y]) (n := 5) (Nat.le_of_ble_eq_true rfl)
  rw [lg_entry_eq]
  generalize (lg_sl ([.ref (kA κ 24), .int x, .int y]) ++ List.replicate (5 - (lg_sl ([.ref (kA κ 24), .int x, .int y])).length) Slot.unset).toArray = ls at hl ⊢
  have hl : lv_has ls 5 [(0, .ref (kA κ 24)), (1, .int x), (2, .int y)] := hl
  have ho := fun w (h : w ∈ ow_k_workPlain) => hts w (List.mem_cons_of_mem _ (List.mem_append_left _ h))
  have hin3 : ∀ w ∈ u_ws RX3 TX3 8, w ∈ vs_k_workPlain := fun w h => (List.mem_cons_of_mem _ (List.mem_append_right _ (List.mem_append_right _ (List.mem_append_right _ (List.mem_append_left _ h)))))
  have hin10 : ∀ w ∈ u_ws RX10 TX10 5, w ∈ vs_k_workPlain := fun w h => (List.mem_cons_of_mem _ (List.mem_append_right _ (List.mem_append_right _ (List.mem_append_right _ (List.mem_append_right _ h)))))
  refine zQ (fun Q hQ => ?_)
  refine zH (A := A) (ws := (cW κ σ)) (fun H hP hS => ?_) hP
  have hk0 := hk.1
  have hk1 := hk.2.1
  have hk2 := hk.2.2.1
  refine lv_iload_n hx hb dX10_workPlain_0 rfl (lv_at hl 1 rfl) ?_
  refine lv_bipush (v := 12) hx hb dX10_workPlain_1 rg_57 ?_
  refine lv_imul hx hb dX10_workPlain_3 ?_
  refine lv_topi (fun z1_ ez1_ => ?_)
  have o1 : -2147483648 ≤ x.toInt * 12 := by omega
  have o2 : x.toInt * 12 ≤ 2147483647 := by omega
  have tz1_ : z1_.toInt = x.toInt * 12 := ti_mul ez1_ rfl rg_58 o1 o2
  refine lv_istore_n (lv' := [(3, .int z1_), (0, .ref (kA κ 24)), (1, .int x), (2, .int y)]) hx hb dX10_workPlain_4 rfl hl (Nat.le_of_ble_eq_true rfl) rfl (fun ls hl => ?_)
  refine lv_iconst (v := 0) hx hb dX10_workPlain_5 rg_0 ?_
  refine lv_istore (lv' := [(4, .int 0), (3, .int z1_), (0, .ref (kA κ 24)), (1, .int x), (2, .int y)]) hx hb dX10_workPlain_6 hl (Nat.le_of_ble_eq_true rfl) rfl (fun ls hl => ?_)
  have pt8_ : ∀ (n8_ : Nat) (σ8_ : MS) (v4_ : Int32) (H : Heap) (locs : List Loc) (ls : Array Slot), (12 - v4_.toInt).toNat < n8_ → CInv σ8_ → (0 ≤ v4_.toInt ∧ v4_.toInt ≤ 12) → va_P (dC, dI) vwCl (cW κ σ8_) H → va_D A (cW κ σ8_) → va_S A s.heap H locs → lv_has ls 5 [(4, .int v4_), (3, .int z1_), (0, .ref (kA κ 24)), (1, .int x), (2, .int y)] → W p l e (headSpec vs_k_workPlain rm_k_workPlain).room s m #[Value.ref (kA κ 24), Value.int x, Value.int y] below meth c H locs 0 0 Q (F0 m 8 ls []) := by
    intro n8_
    induction n8_ with
    | zero => intro σ8_ v4_ H locs ls hn8_ hIσ8_ hf8_0_ hP hD hS hl; exact absurd hn8_ (Nat.not_lt_zero _)
    | succ n8_ ih8_ =>
      intro σ8_ v4_ H locs ls hn8_ hIσ8_ hf8_0_ hP hD hS hl
      refine lv_iload hx hb dX10_workPlain_8 (lv_at hl 0 rfl) ?_
      refine lv_iload_n hx hb dX10_workPlain_10 rfl (lv_at hl 4 rfl) ?_
      refine lv_icmp_gt (tgt := 50) hx hb dX10_workPlain_11 rfl (fun c2_ => ?_) (fun c2_ => ?_)
      · have tc2_ := (show y.toInt < v4_.toInt from ti_lt rfl rfl c2_)
        rw [hQ]
        exact W.vret hx hb hr (fun t ht hW => ⟨⟨σ8_, rfl, ⟨hIσ8_, trivial⟩, wEn_of hP (hK.sub [] rfl) hD ht hW⟩, hS.F ht⟩) hS.2.2 dX10_workPlain_50
      · have tc2_ := (show v4_.toInt ≤ y.toInt from ti_nlt rfl rfl c2_)
        refine lv_aload_n hx hb dX10_workPlain_14 rfl (lv_at hl 2 rfl) ?_
        refine va_get (D := (dC, dI)) (ci := 10) (v := .ref (kA κ 25)) (C := RX10) (T := TX10) (N := 5) hx hb hts hin10 hown hK hP 24 rfl rfl 3 (Nat.le_of_ble_eq_true rfl) (ho (.fieldLink RX10 9 "NearEnough$Worker" "plain" "[J") (List.mem_of_getElem? (i := 0) rfl)) (fun _ h9 => h9) rfl dX10_workPlain_15 ?_
        refine lv_iload_n hx hb dX10_workPlain_18 rfl (lv_at hl 1 rfl) ?_
        refine lv_iload hx hb dX10_workPlain_19 (lv_at hl 0 rfl) ?_
        refine lv_iadd hx hb dX10_workPlain_21 ?_
        refine lv_topi (fun z3_ ez3_ => ?_)
        have o3 : -2147483648 ≤ z1_.toInt + v4_.toInt := by omega
        have o4 : z1_.toInt + v4_.toInt ≤ 2147483647 := by omega
        have tz3_ : z3_.toInt = z1_.toInt + v4_.toInt := ti_add ez3_ rfl rfl o3 o4
        refine lv_aload_n hx hb dX10_workPlain_22 rfl (lv_at hl 2 rfl) ?_
        refine lv_aload_n hx hb dX10_workPlain_23 rfl (lv_at hl 2 rfl) ?_
        refine va_get (D := (dC, dI)) (ci := 10) (v := .ref (kA κ 25)) (C := RX10) (T := TX10) (N := 5) hx hb hts hin10 hown hK hP 24 rfl rfl 3 (Nat.le_of_ble_eq_true rfl) (ho (.fieldLink RX10 9 "NearEnough$Worker" "plain" "[J") (List.mem_of_getElem? (i := 0) rfl)) (fun _ h9 => h9) rfl dX10_workPlain_24 ?_
        refine lv_iload_n hx hb dX10_workPlain_27 rfl (lv_at hl 3 rfl) ?_
        refine lv_aload_n hx hb dX10_workPlain_28 rfl (lv_at hl 2 rfl) ?_
        refine va_get (D := (dC, dI)) (ci := 10) (v := .ref (kA κ 6)) (C := RX10) (T := TX10) (N := 5) hx hb hts hin10 hown hK hP 24 rfl rfl 0 (Nat.le_of_ble_eq_true rfl) (ho (.fieldLink RX10 18 "NearEnough$Worker" "told" "LNearEnough$Program;") (List.mem_of_getElem? (i := 1) rfl)) (fun _ h9 => h9) rfl dX10_workPlain_29 ?_
        refine va_get (D := (dC, dI)) (ci := 3) (v := .ref (kA κ 8)) (C := RX3) (T := TX3) (N := 8) hx hb hts hin3 hown hK hP 6 rfl rfl 1 (Nat.le_of_ble_eq_true rfl) (ho (.fieldLink RX10 30 "NearEnough$Program" "steps" "[LNearEnough$Step;") (List.mem_of_getElem? (i := 2) rfl)) (fun _ h9 => h9) rfl dX10_workPlain_32 ?_
        refine lv_iload hx hb dX10_workPlain_35 (lv_at hl 0 rfl) ?_
        have o5 : 0 ≤ v4_.toInt := by omega
        have o6 : v4_.toInt < ((12 : Nat) : Int) := by omega
        refine va_aldq hx hb hK hP 8 6 rfl rfl (ti_inx o5 o6) dX10_workPlain_37 ?_
        have o7 : v4_.toInt < (pI κ 1).toInt := by omega
        obtain ⟨a4_, t5_, ea6_, ga7_⟩ := hk.st (x := v4_) o5 o7
        refine zv (v := .ref a4_) (by rw [ea6_]; rfl) ?_
        refine lv_iconst (v := (-1)) hx hb dX10_workPlain_38 rg_53 ?_
        refine lv_iconst (v := 0) hx hb dX10_workPlain_39 rg_0 ?_
        have kk8_ : ((-1) : Int32).toInt = (-1) := rg_489
        have kk9_ : (0 : Int32).toInt = 0 := rg_11
        have o8 : 0 ≤ x.toInt := by omega
        have o9 : x.toInt ≤ 40 := by omega
        have o10 : 0 ≤ (0 : Int32).toInt := by omega
        have o11 : (0 : Int32).toInt ≤ 99 := by omega
        refine zy_l (va_runV (As := [.ref (kA κ 25), .int x, .ref a4_, .int (-1), .int 0]) (rest := [.int z3_, .ref (kA κ 25)]) ⟨hx, hb, hml, hown, hts⟩ (k_made25 l dC dI κ H.size σ8_ x a4_ t5_ ga7_ (-1) 0 hk hIσ8_ ⟨o8, o9⟩ ⟨o10, o11⟩) (cwV 5 hts gd_k_workPlain_36_k_made25 rfl rfl rfl dd_k_made25 ⟨Nat.le_of_ble_eq_true rfl, Nat.le_of_ble_eq_true rfl⟩) (preVy hP hK hD hE (ci := 10) (q0 := 24) rfl rfl) rfl rfl hl.1 rfl (lv_room (Nat.le_of_ble_eq_true rfl)) dX10_workPlain_40 ⟨Nat.le_of_ble_eq_true rfl, Nat.le_of_ble_eq_true rfl⟩) hD hS hA (fun y10_ τ11_ H locs hq hP hD hS => ?_)
        obtain ⟨hτ11_, q12_⟩ := hq
        rw [hτ11_] at hP hD
        refine W.widen (k := 0) (n := 0) (Nat.le_of_ble_eq_true rfl) (Nat.le_of_ble_eq_true rfl) ?_
        have o12 : 0 ≤ z3_.toInt := by omega
        have o13 : z3_.toInt < ((492 : Nat) : Int) := by omega
        refine va_last hx hb hK hP hD hS 25 19 rfl rfl (ti_inx o12 o13) dX10_workPlain_43 (fun H locs hP hD hS => ?_)
        obtain ⟨f13_, ef13_⟩ : ∃ f9 : Nat → Int64, f9 = vp_updL (σ8_.2.2.1 27) (Int32.toNatClampNeg z3_) y10_ := ⟨_, rfl⟩
        have hP : va_P (dC, dI) vwCl (cW κ (sJ σ8_ 27 f13_)) H := by rw [ef13_]; exact hP
        have hD : va_D A (cW κ (sJ σ8_ 27 f13_)) := by rw [ef13_]; exact hD
        obtain ⟨z14_, ez14_⟩ : ∃ y : Int32, y = v4_ + 1 := ⟨_, rfl⟩
        have o14 : -2147483648 ≤ v4_.toInt + 1 := by omega
        have o15 : v4_.toInt + 1 ≤ 2147483647 := by omega
        have tz14_ := ti_add ez14_ rfl rg_18 o14 o15
        refine lv_iinc (v := z14_) (lv' := [(4, .int z14_), (3, .int z1_), (0, .ref (kA κ 24)), (1, .int x), (2, .int y)]) hx hb dX10_workPlain_44 hl (k := 0) rfl (iincp ez14_ rg_6) (Nat.le_of_ble_eq_true rfl) rfl (fun ls hl => ?_)
        refine lv_goto (tgt := 8) hx hb dX10_workPlain_47 rfl ?_
        have o16 : (12 - z14_.toInt).toNat < n8_ := by omega
        have o17 : 0 ≤ z14_.toInt := by omega
        have o18 : z14_.toInt ≤ 12 := by omega
        exact ih8_ (sJ σ8_ 27 f13_) z14_ _ _ _ o16 (CInv.sJ hIσ8_) ⟨o17, o18⟩ hP hD hS (lv_sub hl [0, 1, 2, 3, 4] rfl)
  have kk15_ : (0 : Int32).toInt = 0 := rg_11
  have o19 : 0 ≤ (0 : Int32).toInt := by omega
  have o20 : (0 : Int32).toInt ≤ 12 := by omega
  exact pt8_ _ σ 0 _ _ _ (Nat.lt_succ_self _) hI ⟨o19, o20⟩ hP hD hS (lv_sub hl [0, 1, 2, 3, 4] rfl)
def ow_k_workChanged : List Cond := [.fieldLink RX10 15 "NearEnough$Worker" "changed" "[J", .fieldLink RX10 18 "NearEnough$Worker" "told" "LNearEnough$Program;", .fieldLink RX10 30 "NearEnough$Program" "steps" "[LNearEnough$Step;", .fieldLink RX10 26 "NearEnough$Worker" "changes" "LNearEnough$Changes;"]
def vs_k_workChanged : List Cond := .code yX10_workChanged cX10_workChanged 6 none :: (ow_k_workChanged ++ (([.methodLink RX10 40 yX0_kindAt, .instanceMethod yX0_kindAt, .selects RX0 yX0_kindAt yX0_kindAt, .initialized RX0] : List Cond) ++ (vs_k_kindAt ++ (([.methodLink RX10 46 yX0_nAt, .instanceMethod yX0_nAt, .selects RX0 yX0_nAt yX0_nAt, .initialized RX0] : List Cond) ++ (vs_k_nAt ++ (([.methodLink RX10 36 yX10_made, .instanceMethod yX10_made, .selects RX10 yX10_made yX10_made, .initialized RX10] : List Cond) ++ (vs_k_made26 ++ (wsX30 ++ (wsX100)))))))))
theorem vg_k_workChanged : vs_k_workChanged.all goodWord = true := by decide +kernel
theorem dd_k_workChanged : yX10_workChanged.cls = RX10 ∧ yX10_workChanged.cls ≠ "java/lang/invoke/MethodHandle" ∧ yX10_workChanged.cls ≠ "java/lang/invoke/VarHandle" ∧ (parseMethodDescriptor yX10_workChanged.desc).map (fun d => d.parameters.length) = some 3 := by decide +kernel
def rm_k_workChanged : Room := { frames := 4, cells := 0, slots := 0, locals := 112 }
theorem gd_k_workChanged_40_k_kindAt : GoodIn vs_k_workChanged (wsV RX10 40 RX0 yX0_kindAt vs_k_kindAt) := goodIn_app (goodIn_sub (fun w h => (List.mem_cons_of_mem _ (List.mem_append_right _ (List.mem_append_left _ h)))) (by decide +kernel)) (goodIn_sub (fun w h => (List.mem_cons_of_mem _ (List.mem_append_right _ (List.mem_append_right _ (List.mem_append_left _ h))))) vg_k_kindAt)
theorem gd_k_workChanged_46_k_nAt : GoodIn vs_k_workChanged (wsV RX10 46 RX0 yX0_nAt vs_k_nAt) := goodIn_app (goodIn_sub (fun w h => (List.mem_cons_of_mem _ (List.mem_append_right _ (List.mem_append_right _ (List.mem_append_right _ (List.mem_append_left _ h)))))) (by decide +kernel)) (goodIn_sub (fun w h => (List.mem_cons_of_mem _ (List.mem_append_right _ (List.mem_append_right _ (List.mem_append_right _ (List.mem_append_right _ (List.mem_append_left _ h))))))) vg_k_nAt)
theorem gd_k_workChanged_36_k_made26 : GoodIn vs_k_workChanged (wsV RX10 36 RX10 yX10_made vs_k_made26) := goodIn_app (goodIn_sub (fun w h => (List.mem_cons_of_mem _ (List.mem_append_right _ (List.mem_append_right _ (List.mem_append_right _ (List.mem_append_right _ (List.mem_append_right _ (List.mem_append_left _ h)))))))) (by decide +kernel)) (goodIn_sub (fun w h => (List.mem_cons_of_mem _ (List.mem_append_right _ (List.mem_append_right _ (List.mem_append_right _ (List.mem_append_right _ (List.mem_append_right _ (List.mem_append_right _ (List.mem_append_left _ h))))))))) vg_k_made26)
set_option maxHeartbeats 4000000 in
set_option maxRecDepth 100000 in
theorem k_workChanged (l : Launch) (dC : Nat → ClassId) (dI : Nat → Nat → Nat) (κ : CE) (sz : Nat) (σ : MS) (x : Int32) (y : Int32) (z : Int32) (hk : PInv κ) (hI : CInv σ) (hx0 : 0 ≤ x.toInt ∧ x.toInt ≤ 40) (hy0 : 0 ≤ y.toInt ∧ y.toInt ≤ 12) (hz0 : -1 ≤ z.toInt ∧ z.toInt < (pI κ 1).toInt) : Met l yX10_workChanged vs_k_workChanged rm_k_workChanged (va_Pc [.ref (kA κ 24), .int x, .int y, .int z] (wSy dC dI (cW κ σ) (cT κ) sz)) (va_Qv (fun (τ : MS) => CInv τ ∧ True) (fun (τ : MS) => wEn dC dI (va_A (cW κ σ) sz) (cW κ τ) []) (va_A (cW κ σ) sz)) 0 0 (va_A (cW κ σ) sz) := by
  refine Met.ofW (cc := cX10_workChanged) (maxL := 6) (ret := none) (by decide +kernel) rfl ?_
  intro p e s m args below meth c s₁ B hml hv
  obtain ⟨rfl, hsz, hP, hK, hD0, hE⟩ := hv
  have hx := B.exec
  have hb := B.bytes
  have hr := B.returns
  have hts := atoms_spec (ws := vs_k_workChanged) B.pre
  have hown : s.vm.findClass RX10 = some m.cls := findClass_of_methodNamed B.named
  have hlocks := B.notSynchronized
  subst hsz
  have hD := hD0.self (sz := s.heap.size)
  generalize hAe : va_A (cW κ σ) s.heap.size = A at hD ⊢
  have hA : ∀ q : Nat, s.heap.size ≤ q → A q := fun q h => by rw [← hAe]; exact Or.inr h
  have hl := lv_entry ([.ref (kA κ 24), .int x, .int y, .int z]) (n := 6) (Nat.le_of_ble_eq_true rfl)
  rw [lg_entry_eq]
  generalize (lg_sl ([.ref (kA κ 24), .int x, .int y, .int z]) ++ List.replicate (6 - (lg_sl ([.ref (kA κ 24), .int x, .int y, .int z])).length) Slot.unset).toArray = ls at hl ⊢
  have hl : lv_has ls 6 [(0, .ref (kA κ 24)), (1, .int x), (2, .int y), (3, .int z)] := hl
  have ho := fun w (h : w ∈ ow_k_workChanged) => hts w (List.mem_cons_of_mem _ (List.mem_append_left _ h))
  have hin3 : ∀ w ∈ u_ws RX3 TX3 8, w ∈ vs_k_workChanged := fun w h => (List.mem_cons_of_mem _ (List.mem_append_right _ (List.mem_append_right _ (List.mem_append_right _ (List.mem_append_right _ (List.mem_append_right _ (List.mem_append_right _ (List.mem_append_right _ (List.mem_append_left _ h)))))))))
  have hin10 : ∀ w ∈ u_ws RX10 TX10 5, w ∈ vs_k_workChanged := fun w h => (List.mem_cons_of_mem _ (List.mem_append_right _ (List.mem_append_right _ (List.mem_append_right _ (List.mem_append_right _ (List.mem_append_right _ (List.mem_append_right _ (List.mem_append_right _ (List.mem_append_right _ h)))))))))
  refine zQ (fun Q hQ => ?_)
  refine zH (A := A) (ws := (cW κ σ)) (fun H hP hS => ?_) hP
  have hk0 := hk.1
  have hk1 := hk.2.1
  have hk2 := hk.2.2.1
  refine lv_iload_n hx hb dX10_workChanged_0 rfl (lv_at hl 1 rfl) ?_
  refine lv_bipush (v := 12) hx hb dX10_workChanged_1 rg_57 ?_
  refine lv_imul hx hb dX10_workChanged_3 ?_
  refine lv_topi (fun z1_ ez1_ => ?_)
  have o1 : -2147483648 ≤ x.toInt * 12 := by omega
  have o2 : x.toInt * 12 ≤ 2147483647 := by omega
  have tz1_ : z1_.toInt = x.toInt * 12 := ti_mul ez1_ rfl rg_58 o1 o2
  refine lv_istore (lv' := [(4, .int z1_), (0, .ref (kA κ 24)), (1, .int x), (2, .int y), (3, .int z)]) hx hb dX10_workChanged_4 hl (Nat.le_of_ble_eq_true rfl) rfl (fun ls hl => ?_)
  refine lv_iload_n hx hb dX10_workChanged_6 rfl (lv_at hl 3 rfl) ?_
  refine lv_istore (lv' := [(5, .int y), (4, .int z1_), (0, .ref (kA κ 24)), (1, .int x), (2, .int y), (3, .int z)]) hx hb dX10_workChanged_7 hl (Nat.le_of_ble_eq_true rfl) rfl (fun ls hl => ?_)
  have pt9_ : ∀ (n9_ : Nat) (σ9_ : MS) (v5_ : Int32) (H : Heap) (locs : List Loc) (ls : Array Slot), (12 - v5_.toInt).toNat < n9_ → CInv σ9_ → (0 ≤ v5_.toInt ∧ v5_.toInt ≤ 12) → va_P (dC, dI) vwCl (cW κ σ9_) H → va_D A (cW κ σ9_) → va_S A s.heap H locs → lv_has ls 6 [(5, .int v5_), (4, .int z1_), (0, .ref (kA κ 24)), (1, .int x), (3, .int z)] → W p l e (headSpec vs_k_workChanged rm_k_workChanged).room s m #[Value.ref (kA κ 24), Value.int x, Value.int y, Value.int z] below meth c H locs 0 0 Q (F0 m 9 ls []) := by
    intro n9_
    induction n9_ with
    | zero => intro σ9_ v5_ H locs ls hn9_ hIσ9_ hf9_0_ hP hD hS hl; exact absurd hn9_ (Nat.not_lt_zero _)
    | succ n9_ ih9_ =>
      intro σ9_ v5_ H locs ls hn9_ hIσ9_ hf9_0_ hP hD hS hl
      refine lv_iload hx hb dX10_workChanged_9 (lv_at hl 0 rfl) ?_
      refine lv_iload_n hx hb dX10_workChanged_11 rfl (lv_at hl 4 rfl) ?_
      refine lv_icmp_gt (tgt := 68) hx hb dX10_workChanged_12 rfl (fun c2_ => ?_) (fun c2_ => ?_)
      · have tc2_ := (show z.toInt < v5_.toInt from ti_lt rfl rfl c2_)
        rw [hQ]
        exact W.vret hx hb hr (fun t ht hW => ⟨⟨σ9_, rfl, ⟨hIσ9_, trivial⟩, wEn_of hP (hK.sub [] rfl) hD ht hW⟩, hS.F ht⟩) hS.2.2 dX10_workChanged_68
      · have tc2_ := (show v5_.toInt ≤ z.toInt from ti_nlt rfl rfl c2_)
        refine lv_aload_n hx hb dX10_workChanged_15 rfl (lv_at hl 2 rfl) ?_
        refine va_get (D := (dC, dI)) (ci := 10) (v := .ref (kA κ 26)) (C := RX10) (T := TX10) (N := 5) hx hb hts hin10 hown hK hP 24 rfl rfl 4 (Nat.le_of_ble_eq_true rfl) (ho (.fieldLink RX10 15 "NearEnough$Worker" "changed" "[J") (List.mem_of_getElem? (i := 0) rfl)) (fun _ h9 => h9) rfl dX10_workChanged_16 ?_
        refine lv_iload hx hb dX10_workChanged_19 (lv_at hl 1 rfl) ?_
        refine lv_iload hx hb dX10_workChanged_21 (lv_at hl 0 rfl) ?_
        refine lv_iadd hx hb dX10_workChanged_23 ?_
        refine lv_topi (fun z3_ ez3_ => ?_)
        have o3 : -2147483648 ≤ z1_.toInt + v5_.toInt := by omega
        have o4 : z1_.toInt + v5_.toInt ≤ 2147483647 := by omega
        have tz3_ : z3_.toInt = z1_.toInt + v5_.toInt := ti_add ez3_ rfl rfl o3 o4
        refine lv_aload_n hx hb dX10_workChanged_24 rfl (lv_at hl 2 rfl) ?_
        refine lv_aload_n hx hb dX10_workChanged_25 rfl (lv_at hl 2 rfl) ?_
        refine va_get (D := (dC, dI)) (ci := 10) (v := .ref (kA κ 26)) (C := RX10) (T := TX10) (N := 5) hx hb hts hin10 hown hK hP 24 rfl rfl 4 (Nat.le_of_ble_eq_true rfl) (ho (.fieldLink RX10 15 "NearEnough$Worker" "changed" "[J") (List.mem_of_getElem? (i := 0) rfl)) (fun _ h9 => h9) rfl dX10_workChanged_26 ?_
        refine lv_iload_n hx hb dX10_workChanged_29 rfl (lv_at hl 3 rfl) ?_
        refine lv_aload_n hx hb dX10_workChanged_30 rfl (lv_at hl 2 rfl) ?_
        refine va_get (D := (dC, dI)) (ci := 10) (v := .ref (kA κ 6)) (C := RX10) (T := TX10) (N := 5) hx hb hts hin10 hown hK hP 24 rfl rfl 0 (Nat.le_of_ble_eq_true rfl) (ho (.fieldLink RX10 18 "NearEnough$Worker" "told" "LNearEnough$Program;") (List.mem_of_getElem? (i := 1) rfl)) (fun _ h9 => h9) rfl dX10_workChanged_31 ?_
        refine va_get (D := (dC, dI)) (ci := 3) (v := .ref (kA κ 8)) (C := RX3) (T := TX3) (N := 8) hx hb hts hin3 hown hK hP 6 rfl rfl 1 (Nat.le_of_ble_eq_true rfl) (ho (.fieldLink RX10 30 "NearEnough$Program" "steps" "[LNearEnough$Step;") (List.mem_of_getElem? (i := 2) rfl)) (fun _ h9 => h9) rfl dX10_workChanged_34 ?_
        refine lv_iload hx hb dX10_workChanged_37 (lv_at hl 0 rfl) ?_
        have o5 : 0 ≤ v5_.toInt := by omega
        have o6 : v5_.toInt < ((12 : Nat) : Int) := by omega
        refine va_aldq hx hb hK hP 8 6 rfl rfl (ti_inx o5 o6) dX10_workChanged_39 ?_
        have o7 : v5_.toInt < (pI κ 1).toInt := by omega
        obtain ⟨a4_, t5_, ea6_, ga7_⟩ := hk.st (x := v5_) o5 o7
        refine zv (v := .ref a4_) (by rw [ea6_]; rfl) ?_
        refine lv_aload_n hx hb dX10_workChanged_40 rfl (lv_at hl 2 rfl) ?_
        refine va_get (D := (dC, dI)) (ci := 10) (v := .ref (kA κ 15)) (C := RX10) (T := TX10) (N := 5) hx hb hts hin10 hown hK hP 24 rfl rfl 2 (Nat.le_of_ble_eq_true rfl) (ho (.fieldLink RX10 26 "NearEnough$Worker" "changes" "LNearEnough$Changes;") (List.mem_of_getElem? (i := 3) rfl)) (fun _ h9 => h9) rfl dX10_workChanged_41 ?_
        refine lv_iload hx hb dX10_workChanged_44 (lv_at hl 0 rfl) ?_
        have o8 : v5_.toInt ≤ 11 := by omega
        refine zy_i (va_runV (As := [.int v5_]) (rest := [.ref a4_, .int x, .ref (kA κ 26), .ref (kA κ 24), .int z3_, .ref (kA κ 26)]) ⟨hx, hb, hml, hown, hts⟩ (k_kindAt l dC dI κ H.size σ9_ v5_ hk hIσ9_ ⟨o5, o8⟩) (cwV 1 hts gd_k_workChanged_40_k_kindAt rfl rfl rfl dd_k_kindAt ⟨Nat.le_of_ble_eq_true rfl, Nat.le_of_ble_eq_true rfl⟩) (preVy hP hK hD hE (ci := 0) (q0 := 15) rfl rfl) rfl rfl hl.1 rfl (lv_room (Nat.le_of_ble_eq_true rfl)) dX10_workChanged_46 ⟨Nat.le_of_ble_eq_true rfl, Nat.le_of_ble_eq_true rfl⟩) hD hS hA (fun z8_ τ9_ H locs hq hP hD hS => ?_)
        obtain ⟨hτ9_, q10_⟩ := hq
        rw [hτ9_] at hP hD
        refine W.widen (k := 0) (n := 0) (Nat.le_of_ble_eq_true rfl) (Nat.le_of_ble_eq_true rfl) ?_
        refine lv_aload_n hx hb dX10_workChanged_49 rfl (lv_at hl 2 rfl) ?_
        refine va_get (D := (dC, dI)) (ci := 10) (v := .ref (kA κ 15)) (C := RX10) (T := TX10) (N := 5) hx hb hts hin10 hown hK hP 24 rfl rfl 2 (Nat.le_of_ble_eq_true rfl) (ho (.fieldLink RX10 26 "NearEnough$Worker" "changes" "LNearEnough$Changes;") (List.mem_of_getElem? (i := 3) rfl)) (fun _ h9 => h9) rfl dX10_workChanged_50 ?_
        refine lv_iload hx hb dX10_workChanged_53 (lv_at hl 0 rfl) ?_
        refine zy_i (va_runV (As := [.int v5_]) (rest := [.int z8_, .ref a4_, .int x, .ref (kA κ 26), .ref (kA κ 24), .int z3_, .ref (kA κ 26)]) ⟨hx, hb, hml, hown, hts⟩ (k_nAt l dC dI κ H.size σ9_ v5_ hk hIσ9_ ⟨o5, o8⟩) (cwV 1 hts gd_k_workChanged_46_k_nAt rfl rfl rfl dd_k_nAt ⟨Nat.le_of_ble_eq_true rfl, Nat.le_of_ble_eq_true rfl⟩) (preVy hP hK hD hE (ci := 0) (q0 := 15) rfl rfl) rfl rfl hl.1 rfl (lv_room (Nat.le_of_ble_eq_true rfl)) dX10_workChanged_55 ⟨Nat.le_of_ble_eq_true rfl, Nat.le_of_ble_eq_true rfl⟩) hD hS hA (fun z11_ τ12_ H locs hq hP hD hS => ?_)
        obtain ⟨hτ12_, q13_⟩ := hq
        rw [hτ12_] at hP hD
        have q13_ : 0 ≤ z11_.toInt ∧ z11_.toInt ≤ 99 := q13_
        refine W.widen (k := 0) (n := 0) (Nat.le_of_ble_eq_true rfl) (Nat.le_of_ble_eq_true rfl) ?_
        have o9 : 0 ≤ x.toInt := by omega
        have o10 : x.toInt ≤ 40 := by omega
        have o11 : 0 ≤ z11_.toInt := by omega
        have o12 : z11_.toInt ≤ 99 := by omega
        refine zy_l (va_runV (As := [.ref (kA κ 26), .int x, .ref a4_, .int z8_, .int z11_]) (rest := [.int z3_, .ref (kA κ 26)]) ⟨hx, hb, hml, hown, hts⟩ (k_made26 l dC dI κ H.size σ9_ x a4_ t5_ ga7_ z8_ z11_ hk hIσ9_ ⟨o9, o10⟩ ⟨o11, o12⟩) (cwV 5 hts gd_k_workChanged_36_k_made26 rfl rfl rfl dd_k_made26 ⟨Nat.le_of_ble_eq_true rfl, Nat.le_of_ble_eq_true rfl⟩) (preVy hP hK hD hE (ci := 10) (q0 := 24) rfl rfl) rfl rfl hl.1 rfl (lv_room (Nat.le_of_ble_eq_true rfl)) dX10_workChanged_58 ⟨Nat.le_of_ble_eq_true rfl, Nat.le_of_ble_eq_true rfl⟩) hD hS hA (fun y14_ τ15_ H locs hq hP hD hS => ?_)
        obtain ⟨hτ15_, q16_⟩ := hq
        rw [hτ15_] at hP hD
        refine W.widen (k := 0) (n := 0) (Nat.le_of_ble_eq_true rfl) (Nat.le_of_ble_eq_true rfl) ?_
        have o13 : 0 ≤ z3_.toInt := by omega
        have o14 : z3_.toInt < ((492 : Nat) : Int) := by omega
        refine va_last hx hb hK hP hD hS 26 20 rfl rfl (ti_inx o13 o14) dX10_workChanged_61 (fun H locs hP hD hS => ?_)
        obtain ⟨f17_, ef17_⟩ : ∃ f9 : Nat → Int64, f9 = vp_updL (σ9_.2.2.1 28) (Int32.toNatClampNeg z3_) y14_ := ⟨_, rfl⟩
        have hP : va_P (dC, dI) vwCl (cW κ (sJ σ9_ 28 f17_)) H := by rw [ef17_]; exact hP
        have hD : va_D A (cW κ (sJ σ9_ 28 f17_)) := by rw [ef17_]; exact hD
        obtain ⟨z18_, ez18_⟩ : ∃ y : Int32, y = v5_ + 1 := ⟨_, rfl⟩
        have o15 : -2147483648 ≤ v5_.toInt + 1 := by omega
        have o16 : v5_.toInt + 1 ≤ 2147483647 := by omega
        have tz18_ := ti_add ez18_ rfl rg_18 o15 o16
        refine lv_iinc (v := z18_) (lv' := [(5, .int z18_), (4, .int z1_), (0, .ref (kA κ 24)), (1, .int x), (3, .int z)]) hx hb dX10_workChanged_62 hl (k := 0) rfl (iincp ez18_ rg_6) (Nat.le_of_ble_eq_true rfl) rfl (fun ls hl => ?_)
        refine lv_goto (tgt := 9) hx hb dX10_workChanged_65 rfl ?_
        have o17 : (12 - z18_.toInt).toNat < n9_ := by omega
        have o18 : 0 ≤ z18_.toInt := by omega
        have o19 : z18_.toInt ≤ 12 := by omega
        exact ih9_ (sJ σ9_ 28 f17_) z18_ _ _ _ o17 (CInv.sJ hIσ9_) ⟨o18, o19⟩ hP hD hS (lv_sub hl [0, 1, 2, 3, 4] rfl)
  have o20 : 0 ≤ y.toInt := by omega
  have o21 : y.toInt ≤ 12 := by omega
  exact pt9_ _ σ y _ _ _ (Nat.lt_succ_self _) hI ⟨o20, o21⟩ hP hD hS (lv_sub hl [0, 1, 2, 3, 5] rfl)
def ow_k_errorAt : List Cond := [.fieldLink RX10 15 "NearEnough$Worker" "changed" "[J", .fieldLink RX10 9 "NearEnough$Worker" "plain" "[J"]
def vs_k_errorAt : List Cond := .code yX10_errorAt cX10_errorAt 3 (some .long) :: (ow_k_errorAt ++ (wsX100))
theorem vg_k_errorAt : vs_k_errorAt.all goodWord = true := by decide +kernel
theorem dd_k_errorAt : yX10_errorAt.cls = RX10 ∧ yX10_errorAt.cls ≠ "java/lang/invoke/MethodHandle" ∧ yX10_errorAt.cls ≠ "java/lang/invoke/VarHandle" ∧ (parseMethodDescriptor yX10_errorAt.desc).map (fun d => d.parameters.length) = some 2 := by decide +kernel
def rm_k_errorAt : Room := { frames := 0, cells := 0, slots := 0, locals := 0 }
set_option maxHeartbeats 4000000 in
set_option maxRecDepth 100000 in
theorem k_errorAt (l : Launch) (dC : Nat → ClassId) (dI : Nat → Nat → Nat) (κ : CE) (sz : Nat) (σ : MS) (x : Int32) (y : Int32) (hk : PInv κ) (hI : CInv σ) (hx0 : 0 ≤ x.toInt ∧ x.toInt ≤ 40) (hy0 : 0 ≤ y.toInt ∧ y.toInt ≤ 11) : Met l yX10_errorAt vs_k_errorAt rm_k_errorAt (va_Pc [.ref (kA κ 24), .int x, .int y] (wSy dC dI (cW κ σ) (cT κ) sz)) (va_Ql (fun (r : Int64) (τ : MS) => τ = σ ∧ True) (fun (τ : MS) => wEn dC dI (va_A (cW κ σ) sz) (cW κ τ) []) (va_A (cW κ σ) sz)) 0 0 (va_A (cW κ σ) sz) := by
  refine Met.ofW (cc := cX10_errorAt) (maxL := 3) (ret := (some .long)) (by decide +kernel) rfl ?_
  intro p e s m args below meth c s₁ B hml hv
  obtain ⟨rfl, hsz, hP, hK, hD0, hE⟩ := hv
  have hx := B.exec
  have hb := B.bytes
  have hr := B.returns
  have hts := atoms_spec (ws := vs_k_errorAt) B.pre
  have hown : s.vm.findClass RX10 = some m.cls := findClass_of_methodNamed B.named
  have hlocks := B.notSynchronized
  subst hsz
  have hD := hD0.self (sz := s.heap.size)
  generalize hAe : va_A (cW κ σ) s.heap.size = A at hD ⊢
  have hA : ∀ q : Nat, s.heap.size ≤ q → A q := fun q h => by rw [← hAe]; exact Or.inr h
  have hl := lv_entry ([.ref (kA κ 24), .int x, .int y]) (n := 3) (Nat.le_of_ble_eq_true rfl)
  rw [lg_entry_eq]
  generalize (lg_sl ([.ref (kA κ 24), .int x, .int y]) ++ List.replicate (3 - (lg_sl ([.ref (kA κ 24), .int x, .int y])).length) Slot.unset).toArray = ls at hl ⊢
  have hl : lv_has ls 3 [(0, .ref (kA κ 24)), (1, .int x), (2, .int y)] := hl
  have ho := fun w (h : w ∈ ow_k_errorAt) => hts w (List.mem_cons_of_mem _ (List.mem_append_left _ h))
  have hin10 : ∀ w ∈ u_ws RX10 TX10 5, w ∈ vs_k_errorAt := fun w h => (List.mem_cons_of_mem _ (List.mem_append_right _ h))
  refine zQ (fun Q hQ => ?_)
  refine zH (A := A) (ws := (cW κ σ)) (fun H hP hS => ?_) hP
  have hk0 := hk.1
  have hk1 := hk.2.1
  have hk2 := hk.2.2.1
  refine lv_aload_n hx hb dX10_errorAt_0 rfl (lv_at hl 0 rfl) ?_
  refine va_get (D := (dC, dI)) (ci := 10) (v := .ref (kA κ 26)) (C := RX10) (T := TX10) (N := 5) hx hb hts hin10 hown hK hP 24 rfl rfl 4 (Nat.le_of_ble_eq_true rfl) (ho (.fieldLink RX10 15 "NearEnough$Worker" "changed" "[J") (List.mem_of_getElem? (i := 0) rfl)) (fun _ h9 => h9) rfl dX10_errorAt_1 ?_
  refine lv_iload_n hx hb dX10_errorAt_4 rfl (lv_at hl 1 rfl) ?_
  refine lv_bipush (v := 12) hx hb dX10_errorAt_5 rg_57 ?_
  refine lv_imul hx hb dX10_errorAt_7 ?_
  refine lv_topi (fun z1_ ez1_ => ?_)
  have o1 : -2147483648 ≤ x.toInt * 12 := by omega
  have o2 : x.toInt * 12 ≤ 2147483647 := by omega
  have tz1_ : z1_.toInt = x.toInt * 12 := ti_mul ez1_ rfl rg_58 o1 o2
  refine lv_iload_n hx hb dX10_errorAt_8 rfl (lv_at hl 2 rfl) ?_
  refine lv_iadd hx hb dX10_errorAt_9 ?_
  refine lv_topi (fun z2_ ez2_ => ?_)
  have o3 : -2147483648 ≤ z1_.toInt + y.toInt := by omega
  have o4 : z1_.toInt + y.toInt ≤ 2147483647 := by omega
  have tz2_ : z2_.toInt = z1_.toInt + y.toInt := ti_add ez2_ rfl rfl o3 o4
  have o5 : 0 ≤ z2_.toInt := by omega
  have o6 : z2_.toInt < ((492 : Nat) : Int) := by omega
  refine va_lald hx hb hK hP 26 20 rfl rfl (ti_inx o5 o6) dX10_errorAt_10 ?_
  refine lv_topl (fun y3_ ey3_ => ?_)
  refine lv_aload_n hx hb dX10_errorAt_11 rfl (lv_at hl 0 rfl) ?_
  refine va_get (D := (dC, dI)) (ci := 10) (v := .ref (kA κ 25)) (C := RX10) (T := TX10) (N := 5) hx hb hts hin10 hown hK hP 24 rfl rfl 3 (Nat.le_of_ble_eq_true rfl) (ho (.fieldLink RX10 9 "NearEnough$Worker" "plain" "[J") (List.mem_of_getElem? (i := 1) rfl)) (fun _ h9 => h9) rfl dX10_errorAt_12 ?_
  refine lv_iload_n hx hb dX10_errorAt_15 rfl (lv_at hl 1 rfl) ?_
  refine lv_bipush (v := 12) hx hb dX10_errorAt_16 rg_57 ?_
  refine lv_imul hx hb dX10_errorAt_18 ?_
  refine lv_topi (fun z4_ ez4_ => ?_)
  have tz4_ : z4_.toInt = x.toInt * 12 := ti_mul ez4_ rfl rg_58 o1 o2
  refine lv_iload_n hx hb dX10_errorAt_19 rfl (lv_at hl 2 rfl) ?_
  refine lv_iadd hx hb dX10_errorAt_20 ?_
  refine lv_topi (fun z5_ ez5_ => ?_)
  have o7 : -2147483648 ≤ z4_.toInt + y.toInt := by omega
  have o8 : z4_.toInt + y.toInt ≤ 2147483647 := by omega
  have tz5_ : z5_.toInt = z4_.toInt + y.toInt := ti_add ez5_ rfl rfl o7 o8
  have o9 : 0 ≤ z5_.toInt := by omega
  have o10 : z5_.toInt < ((492 : Nat) : Int) := by omega
  refine va_lald hx hb hK hP 25 19 rfl rfl (ti_inx o9 o10) dX10_errorAt_21 ?_
  refine lv_topl (fun y6_ ey6_ => ?_)
  refine lv_lsub hx hb dX10_errorAt_22 ?_
  refine lv_topl (fun y7_ ey7_ => ?_)
  rw [hQ]
  exact W.lret (v := y7_) hx hb hr (fun t ht hW => ⟨⟨y7_, σ, rfl, ⟨rfl, trivial⟩, wEn_of hP (hK.sub [] rfl) hD ht hW⟩, hS.F ht⟩) hS.2.2 dX10_errorAt_23
