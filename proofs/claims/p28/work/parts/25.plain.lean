theorem dX12_isIn_0 : decode cX12_isIn 0 = .ok (.iload_n 0, 1) := by decide +kernel
theorem dX12_isIn_1 : decode cX12_isIn 1 = .ok (.iload_n 1, 1) := by decide +kernel
theorem dX12_isIn_2 : decode cX12_isIn 2 = .ok (.if_icmp .lt 12, 3) := by decide +kernel
theorem dX12_isIn_14 : decode cX12_isIn 14 = .ok (.iconst 0, 1) := by decide +kernel
theorem dX12_isIn_15 : decode cX12_isIn 15 = .ok (.ireturn, 1) := by decide +kernel
theorem dX12_isIn_5 : decode cX12_isIn 5 = .ok (.iload_n 0, 1) := by decide +kernel
theorem dX12_isIn_6 : decode cX12_isIn 6 = .ok (.iload_n 2, 1) := by decide +kernel
theorem dX12_isIn_7 : decode cX12_isIn 7 = .ok (.if_icmp .gt 7, 3) := by decide +kernel
theorem dX12_isIn_10 : decode cX12_isIn 10 = .ok (.iconst 1, 1) := by decide +kernel
theorem dX12_isIn_11 : decode cX12_isIn 11 = .ok (.goto 4, 3) := by decide +kernel
theorem dX12_end_0 : decode cX12_end 0 = .ok (.iload_n 1, 1) := by decide +kernel
theorem dX12_end_1 : decode cX12_end 1 = .ok (.ifCond .lt 11, 3) := by decide +kernel
theorem dX12_end_12 : decode cX12_end 12 = .ok (.iconst (-1), 1) := by decide +kernel
theorem dX12_end_13 : decode cX12_end 13 = .ok (.ireturn, 1) := by decide +kernel
theorem dX12_end_4 : decode cX12_end 4 = .ok (.iload_n 1, 1) := by decide +kernel
theorem dX12_end_5 : decode cX12_end 5 = .ok (.aload_n 0, 1) := by decide +kernel
theorem dX12_end_6 : decode cX12_end 6 = .ok (.getfield 237, 3) := by decide +kernel
theorem dX12_end_9 : decode cX12_end 9 = .ok (.if_icmp .le 5, 3) := by decide +kernel
theorem dX12_end_14 : decode cX12_end 14 = .ok (.aload_n 0, 1) := by decide +kernel
theorem dX12_end_15 : decode cX12_end 15 = .ok (.iload_n 1, 1) := by decide +kernel
theorem dX12_end_16 : decode cX12_end 16 = .ok (.putfield 237, 3) := by decide +kernel
theorem dX12_end_19 : decode cX12_end 19 = .ok (.iload_n 1, 1) := by decide +kernel
theorem dX12_end_20 : decode cX12_end 20 = .ok (.ireturn, 1) := by decide +kernel
theorem dX12_fault_0 : decode cX12_fault 0 = .ok (.iload_n 1, 1) := by decide +kernel
theorem dX12_fault_1 : decode cX12_fault 1 = .ok (.ifCond .ne 10, 3) := by decide +kernel
theorem dX12_fault_11 : decode cX12_fault 11 = .ok (.iload_n 1, 1) := by decide +kernel
theorem dX12_fault_12 : decode cX12_fault 12 = .ok (.iconst 1, 1) := by decide +kernel
theorem dX12_fault_13 : decode cX12_fault 13 = .ok (.if_icmp .ne 10, 3) := by decide +kernel
theorem dX12_fault_23 : decode cX12_fault 23 = .ok (.iconst (-1), 1) := by decide +kernel
theorem dX12_fault_24 : decode cX12_fault 24 = .ok (.ireturn, 1) := by decide +kernel
theorem dX12_fault_16 : decode cX12_fault 16 = .ok (.aload_n 0, 1) := by decide +kernel
theorem dX12_fault_17 : decode cX12_fault 17 = .ok (.getfield 16, 3) := by decide +kernel
theorem dX12_fault_20 : decode cX12_fault 20 = .ok (.goto 4, 3) := by decide +kernel
theorem dX12_fault_4 : decode cX12_fault 4 = .ok (.aload_n 0, 1) := by decide +kernel
theorem dX12_fault_5 : decode cX12_fault 5 = .ok (.getfield 140, 3) := by decide +kernel
theorem dX12_fault_8 : decode cX12_fault 8 = .ok (.goto 16, 3) := by decide +kernel
theorem dX12_steps_0 : decode cX12_steps 0 = .ok (.aload_n 0, 1) := by decide +kernel
theorem dX12_steps_1 : decode cX12_steps 1 = .ok (.getfield 24, 3) := by decide +kernel
theorem dX12_steps_4 : decode cX12_steps 4 = .ok (.aload_n 0, 1) := by decide +kernel
theorem dX12_steps_5 : decode cX12_steps 5 = .ok (.getfield 240, 3) := by decide +kernel
theorem dX12_steps_8 : decode cX12_steps 8 = .ok (.iaload, 1) := by decide +kernel
theorem dX12_steps_9 : decode cX12_steps 9 = .ok (.ireturn, 1) := by decide +kernel
theorem dX12_feed_18 : decode cX12_feed 18 = .ok (.iload 6, 2) := by decide +kernel
theorem dX12_feed_20 : decode cX12_feed 20 = .ok (.bipush 20, 2) := by decide +kernel
theorem dX12_feed_22 : decode cX12_feed 22 = .ok (.if_icmp .ge 83, 3) := by decide +kernel
theorem dX12_feed_105 : decode cX12_feed 105 = .ok (.aload_n 0, 1) := by decide +kernel
theorem dX12_feed_106 : decode cX12_feed 106 = .ok (.dup, 1) := by decide +kernel
theorem dX12_feed_107 : decode cX12_feed 107 = .ok (.getfield 237, 3) := by decide +kernel
theorem dX12_feed_110 : decode cX12_feed 110 = .ok (.bipush 20, 2) := by decide +kernel
theorem dX12_feed_112 : decode cX12_feed 112 = .ok (.iadd, 1) := by decide +kernel
theorem dX12_feed_113 : decode cX12_feed 113 = .ok (.putfield 237, 3) := by decide +kernel
theorem dX12_feed_116 : decode cX12_feed 116 = .ok (.aload_n 0, 1) := by decide +kernel
theorem dX12_feed_117 : decode cX12_feed 117 = .ok (.getfield 237, 3) := by decide +kernel
theorem dX12_feed_120 : decode cX12_feed 120 = .ok (.ireturn, 1) := by decide +kernel
theorem dX12_feed_25 : decode cX12_feed 25 = .ok (.iload 6, 2) := by decide +kernel
theorem dX12_feed_27 : decode cX12_feed 27 = .ok (.iconst 4, 1) := by decide +kernel
theorem dX12_feed_28 : decode cX12_feed 28 = .ok (.if_icmp .ge 7, 3) := by decide +kernel
theorem dX12_feed_35 : decode cX12_feed 35 = .ok (.iload 6, 2) := by decide +kernel
theorem dX12_feed_37 : decode cX12_feed 37 = .ok (.bipush 8, 2) := by decide +kernel
theorem dX12_feed_39 : decode cX12_feed 39 = .ok (.if_icmp .ge 7, 3) := by decide +kernel
theorem dX12_feed_46 : decode cX12_feed 46 = .ok (.iload 6, 2) := by decide +kernel
theorem dX12_feed_48 : decode cX12_feed 48 = .ok (.bipush 12, 2) := by decide +kernel
theorem dX12_feed_50 : decode cX12_feed 50 = .ok (.if_icmp .ge 7, 3) := by decide +kernel
theorem dX12_feed_57 : decode cX12_feed 57 = .ok (.iload 6, 2) := by decide +kernel
theorem dX12_feed_59 : decode cX12_feed 59 = .ok (.bipush 16, 2) := by decide +kernel
theorem dX12_feed_61 : decode cX12_feed 61 = .ok (.if_icmp .ge 8, 3) := by decide +kernel
theorem dX12_feed_69 : decode cX12_feed 69 = .ok (.iload 5, 2) := by decide +kernel
theorem dX12_feed_71 : decode cX12_feed 71 = .ok (.istore 7, 2) := by decide +kernel
theorem dX12_feed_73 : decode cX12_feed 73 = .ok (.aload_n 0, 1) := by decide +kernel
theorem dX12_feed_74 : decode cX12_feed 74 = .ok (.getfield 7, 3) := by decide +kernel
theorem dX12_feed_77 : decode cX12_feed 77 = .ok (.aload_n 0, 1) := by decide +kernel
theorem dX12_feed_78 : decode cX12_feed 78 = .ok (.getfield 237, 3) := by decide +kernel
theorem dX12_feed_81 : decode cX12_feed 81 = .ok (.iload 6, 2) := by decide +kernel
theorem dX12_feed_83 : decode cX12_feed 83 = .ok (.iadd, 1) := by decide +kernel
theorem dX12_feed_84 : decode cX12_feed 84 = .ok (.iload 7, 2) := by decide +kernel
theorem dX12_feed_86 : decode cX12_feed 86 = .ok (.bipush 24, 2) := by decide +kernel
theorem dX12_feed_88 : decode cX12_feed 88 = .ok (.bipush 8, 2) := by decide +kernel
theorem dX12_feed_90 : decode cX12_feed 90 = .ok (.iload 6, 2) := by decide +kernel
theorem dX12_feed_92 : decode cX12_feed 92 = .ok (.iconst 3, 1) := by decide +kernel
theorem dX12_feed_93 : decode cX12_feed 93 = .ok (.iand, 1) := by decide +kernel
theorem dX12_feed_94 : decode cX12_feed 94 = .ok (.imul, 1) := by decide +kernel
theorem dX12_feed_95 : decode cX12_feed 95 = .ok (.isub, 1) := by decide +kernel
theorem dX12_feed_96 : decode cX12_feed 96 = .ok (.ishr, 1) := by decide +kernel
theorem dX12_feed_97 : decode cX12_feed 97 = .ok (.i2b, 1) := by decide +kernel
theorem dX12_feed_98 : decode cX12_feed 98 = .ok (.bastore, 1) := by decide +kernel
theorem dX12_feed_99 : decode cX12_feed 99 = .ok (.iinc 6 1, 3) := by decide +kernel
theorem dX12_feed_102 : decode cX12_feed 102 = .ok (.goto (-84), 3) := by decide +kernel
theorem dX12_feed_64 : decode cX12_feed 64 = .ok (.iload 4, 2) := by decide +kernel
theorem dX12_feed_66 : decode cX12_feed 66 = .ok (.goto 5, 3) := by decide +kernel
theorem dX12_feed_53 : decode cX12_feed 53 = .ok (.iload_n 3, 1) := by decide +kernel
theorem dX12_feed_54 : decode cX12_feed 54 = .ok (.goto 17, 3) := by decide +kernel
theorem dX12_feed_42 : decode cX12_feed 42 = .ok (.iload_n 2, 1) := by decide +kernel
theorem dX12_feed_43 : decode cX12_feed 43 = .ok (.goto 28, 3) := by decide +kernel
theorem dX12_feed_31 : decode cX12_feed 31 = .ok (.iload_n 1, 1) := by decide +kernel
theorem dX12_feed_32 : decode cX12_feed 32 = .ok (.goto 39, 3) := by decide +kernel
theorem dX12_feed_0 : decode cX12_feed 0 = .ok (.aload_n 0, 1) := by decide +kernel
theorem dX12_feed_1 : decode cX12_feed 1 = .ok (.getfield 237, 3) := by decide +kernel
theorem dX12_feed_4 : decode cX12_feed 4 = .ok (.bipush 20, 2) := by decide +kernel
theorem dX12_feed_6 : decode cX12_feed 6 = .ok (.iadd, 1) := by decide +kernel
theorem dX12_feed_7 : decode cX12_feed 7 = .ok (.sipush 1000, 3) := by decide +kernel
theorem dX12_feed_10 : decode cX12_feed 10 = .ok (.if_icmp .le 5, 3) := by decide +kernel
theorem dX12_feed_15 : decode cX12_feed 15 = .ok (.iconst 0, 1) := by decide +kernel
theorem dX12_feed_16 : decode cX12_feed 16 = .ok (.istore 6, 2) := by decide +kernel
theorem dX12_feed_13 : decode cX12_feed 13 = .ok (.iconst (-1), 1) := by decide +kernel
theorem dX12_feed_14 : decode cX12_feed 14 = .ok (.ireturn, 1) := by decide +kernel
theorem rg_59 : 2 ∈ [2] := by decide
theorem rg_60 : Int32.ofInt 20 = 20 := by decide
theorem rg_61 : (20 : Int32).toInt = 20 := by decide
theorem rg_62 : 2 ∈ [0, 2] := by decide
theorem rg_63 : Int32.ofInt 16 = 16 := by decide
theorem rg_64 : (16 : Int32).toInt = 16 := by decide
theorem rg_65 : Int32.ofInt 24 = 24 := by decide
theorem rg_66 : 0 ∈ [0, 2] := by decide
theorem rg_67 : Int32.ofInt 1000 = 1000 := by decide
theorem rg_68 : (1000 : Int32).toInt = 1000 := by decide
def ow_n_isIn : List Cond := []
def vs_n_isIn : List Cond := .code yX12_isIn cX12_isIn 3 (some .boolean) :: (ow_n_isIn)
theorem vg_n_isIn : vs_n_isIn.all goodWord = true := by decide +kernel
theorem dd_n_isIn : yX12_isIn.cls ≠ "java/lang/invoke/MethodHandle" ∧ yX12_isIn.cls ≠ "java/lang/invoke/VarHandle" ∧ (parseMethodDescriptor yX12_isIn.desc).map (fun d => d.parameters.length) = some 3 := by decide +kernel
def rm_n_isIn : Room := { frames := 0, cells := 0, slots := 0, locals := 0 }
set_option maxHeartbeats 4000000 in
set_option maxRecDepth 100000 in
theorem n_isIn (l : Launch) (dC : Nat → ClassId) (dI : Nat → Nat → Nat) (x : Int32) (a : Int32) (b : Int32)  (sz : Nat) : Met l yX12_isIn vs_n_isIn rm_n_isIn (va_Pc [.int x, .int a, .int b] (wSt dC dI [] [] sz)) (va_Qi (fun (r : Int32) (_ : Unit) => (r.toInt = 1 ∧ a.toInt ≤ x.toInt ∧ x.toInt ≤ b.toInt) ∨ (r.toInt = 0 ∧ (x.toInt < a.toInt ∨ b.toInt < x.toInt))) (fun (_ : Unit) => wEn dC dI (va_A [] sz) [] []) (va_A ([]) sz)) 0 0 (va_A ([]) sz) := by
  refine Met.ofW (cc := cX12_isIn) (maxL := 3) (ret := (some .boolean)) (by decide) rfl ?_
  intro p e s m args below meth c s₁ B hml hv
  obtain ⟨rfl, hsz, hP, hK, hD0, hE⟩ := hv
  have hx := B.exec
  have hb := B.bytes
  have hr := B.returns
  have hts := atoms_spec (ws := vs_n_isIn) B.pre
  have hown : s.vm.findClass RX12 = some m.cls := findClass_of_methodNamed B.named
  have hlocks := B.notSynchronized
  subst hsz
  have hD := hD0.self (sz := s.heap.size)
  generalize hAe : va_A ([]) s.heap.size = A at hD ⊢
  have hA : ∀ q : Nat, s.heap.size ≤ q → A q := fun q h => by rw [← hAe]; exact Or.inr h
  have hl := lv_entry ([.int x, .int a, .int b]) (n := 3) (Nat.le_of_ble_eq_true rfl)
  rw [lg_entry_eq]
  generalize (lg_sl ([.int x, .int a, .int b]) ++ List.replicate (3 - (lg_sl ([.int x, .int a, .int b])).length) Slot.unset).toArray = ls at hl ⊢
  have hl : lv_has ls 3 [(0, .int x), (1, .int a), (2, .int b)] := hl
  have ho := fun w (h : w ∈ ow_n_isIn) => hts w (List.mem_cons_of_mem _ h)
  refine zQ (fun Q hQ => ?_)
  refine zH (A := A) (ws := []) (fun H hP hS => ?_) hP
  refine lv_iload_n hx hb dX12_isIn_0 rfl (lv_at hl 0 rfl) ?_
  refine lv_iload_n hx hb dX12_isIn_1 rfl (lv_at hl 1 rfl) ?_
  refine lv_icmp_lt (tgt := 14) hx hb dX12_isIn_2 rfl (fun c1 => ?_) (fun c1 => ?_)
  · have tc1 := (show x.toInt < a.toInt from ti_lt rfl rfl c1)
    refine lv_iconst (v := 0) hx hb dX12_isIn_14 rg_0 ?_
    rw [hQ]
    exact W.zret (v := 0) hx hb hr rfl (fun t ht hW => ⟨⟨0, (), rfl, (by have k9 : (0 : Int32).toInt = 0 := (by decide); omega), wEn_of empP (hK.sub [] rfl) empD ht hW⟩, hS.F ht⟩) hS.2.2 dX12_isIn_15
  · have tc1 := (show a.toInt ≤ x.toInt from ti_nlt rfl rfl c1)
    refine lv_iload_n hx hb dX12_isIn_5 rfl (lv_at hl 0 rfl) ?_
    refine lv_iload_n hx hb dX12_isIn_6 rfl (lv_at hl 2 rfl) ?_
    refine lv_icmp_gt (tgt := 14) hx hb dX12_isIn_7 rfl (fun c2 => ?_) (fun c2 => ?_)
    · have tc2 := (show b.toInt < x.toInt from ti_lt rfl rfl c2)
      refine lv_iconst (v := 0) hx hb dX12_isIn_14 rg_0 ?_
      rw [hQ]
      exact W.zret (v := 0) hx hb hr rfl (fun t ht hW => ⟨⟨0, (), rfl, (by have k9 : (0 : Int32).toInt = 0 := (by decide); omega), wEn_of empP (hK.sub [] rfl) empD ht hW⟩, hS.F ht⟩) hS.2.2 dX12_isIn_15
    · have tc2 := (show x.toInt ≤ b.toInt from ti_nlt rfl rfl c2)
      refine lv_iconst (v := 1) hx hb dX12_isIn_10 rg_6 ?_
      refine lv_goto (tgt := 15) hx hb dX12_isIn_11 rfl ?_
      rw [hQ]
      exact W.zret (v := 1) hx hb hr rfl (fun t ht hW => ⟨⟨1, (), rfl, (by have k9 : (1 : Int32).toInt = 1 := (by decide); omega), wEn_of empP (hK.sub [] rfl) empD ht hW⟩, hS.F ht⟩) hS.2.2 dX12_isIn_15
def ow_n_end : List Cond := [.fieldLink RX12 237 "NearEnoughModel" "taped" "I"]
def vs_n_end : List Cond := .code yX12_end cX12_end 2 (some .int) :: (ow_n_end ++ (wsX120))
theorem vg_n_end : vs_n_end.all goodWord = true := by decide +kernel
theorem dd_n_end : yX12_end.cls = RX12 ∧ yX12_end.cls ≠ "java/lang/invoke/MethodHandle" ∧ yX12_end.cls ≠ "java/lang/invoke/VarHandle" ∧ (parseMethodDescriptor yX12_end.desc).map (fun d => d.parameters.length) = some 1 := by decide +kernel
def rm_n_end : Room := { frames := 0, cells := 0, slots := 0, locals := 0 }
set_option maxHeartbeats 4000000 in
set_option maxRecDepth 100000 in
theorem n_end (l : Launch) (dC : Nat → ClassId) (dI : Nat → Nat → Nat) (h : Nat) (ad : Nat → Nat) (cl : Nat → ClassId) (sz : Nat) (σ : MS) (x : Int32) (hI : Inv σ) : Met l yX12_end vs_n_end rm_n_end (va_Pc [.ref h, .int x] (wSt dC dI (mW h ad cl σ) (mT cl) sz)) (va_Qi (fun (r : Int32) (τ : MS) => Inv τ ∧ eqx [2] τ σ) (fun (τ : MS) => wEn dC dI (va_A (mW h ad cl σ) sz) (mW h ad cl τ) []) (va_A (mW h ad cl σ) sz)) 0 0 (va_A (mW h ad cl σ) sz) := by
  refine Met.ofW (cc := cX12_end) (maxL := 2) (ret := (some .int)) (by decide) rfl ?_
  intro p e s m args below meth c s₁ B hml hv
  obtain ⟨rfl, hsz, hP, hK, hD0, hE⟩ := hv
  have hx := B.exec
  have hb := B.bytes
  have hr := B.returns
  have hts := atoms_spec (ws := vs_n_end) B.pre
  have hown : s.vm.findClass RX12 = some m.cls := findClass_of_methodNamed B.named
  have hlocks := B.notSynchronized
  subst hsz
  have hD := hD0.self (sz := s.heap.size)
  generalize hAe : va_A (mW h ad cl σ) s.heap.size = A at hD ⊢
  have hA : ∀ q : Nat, s.heap.size ≤ q → A q := fun q h => by rw [← hAe]; exact Or.inr h
  have hl := lv_entry ([.ref h, .int x]) (n := 2) (Nat.le_of_ble_eq_true rfl)
  rw [lg_entry_eq]
  generalize (lg_sl ([.ref h, .int x]) ++ List.replicate (2 - (lg_sl ([.ref h, .int x])).length) Slot.unset).toArray = ls at hl ⊢
  have hl : lv_has ls 2 [(0, .ref h), (1, .int x)] := hl
  have ho := fun w (h : w ∈ ow_n_end) => hts w (List.mem_cons_of_mem _ (List.mem_append_left _ h))
  have hin12 : ∀ w ∈ u_ws RX12 TX12 59, w ∈ vs_n_end := fun w h => (List.mem_cons_of_mem _ (List.mem_append_right _ h))
  refine zQ (fun Q hQ => ?_)
  refine zH (A := A) (ws := mW h ad cl σ) (fun H hP hS => ?_) hP
  refine lv_iload_n hx hb dX12_end_0 rfl (lv_at hl 1 rfl) ?_
  refine lv_if_lt (tgt := 12) hx hb dX12_end_1 rfl (fun c1 => ?_) (fun c1 => ?_)
  · have tc1 := (show x.toInt < 0 from ti_lt rfl rg_11 c1)
    refine lv_iconst (v := (-1)) hx hb dX12_end_12 rg_53 ?_
    rw [hQ]
    exact W.iret (v := (-1)) hx hb hr (fun t ht hW => ⟨⟨(-1), σ, rfl, ⟨hI, eqx.rf⟩, wEn_of hP (hK.sub [] rfl) hD ht hW⟩, hS.F ht⟩) hS.2.2 dX12_end_13
  · have tc1 := (show 0 ≤ x.toInt from ti_nlt rfl rg_11 c1)
    refine lv_iload_n hx hb dX12_end_4 rfl (lv_at hl 1 rfl) ?_
    refine lv_aload_n hx hb dX12_end_5 rfl (lv_at hl 0 rfl) ?_
    refine va_get (D := (dC, dI)) (ci := 12) (v := .int (σ.1 2)) (C := RX12) (T := TX12) (N := 59) hx hb hts hin12 hown hK hP 0 rfl rfl 2 (Nat.le_of_ble_eq_true rfl) (ho (.fieldLink RX12 237 "NearEnoughModel" "taped" "I") (List.mem_of_getElem? (i := 0) rfl)) (fun _ h9 => h9) rfl dX12_end_6 ?_
    have bσ_2 : 0 ≤ (σ.1 2).toInt ∧ (σ.1 2).toInt ≤ 1000 := hI.1 2
    refine lv_icmp_le (tgt := 14) hx hb dX12_end_9 rfl (fun c2 => ?_) (fun c2 => ?_)
    · have tc2 := (show x.toInt ≤ (σ.1 2).toInt from ti_le rfl rfl c2)
      refine lv_aload_n hx hb dX12_end_14 rfl (lv_at hl 0 rfl) ?_
      refine lv_iload_n hx hb dX12_end_15 rfl (lv_at hl 1 rfl) ?_
      refine va_put (D := (dC, dI)) (ci := 12) (v := .int x) (ty := tyX12 2) (C := RX12) (T := TX12) (N := 59) hx hb hts hin12 tyX12 tyX12_ok nmX12 hown hK hP hD hS 0 rfl rfl 2 (Nat.le_of_ble_eq_true rfl) (ho (.fieldLink RX12 237 "NearEnoughModel" "taped" "I") (List.mem_of_getElem? (i := 0) rfl)) (fun _ h9 => h9) rfl (tyX12_ok 2 (Nat.le_of_ble_eq_true rfl)) rfl rfl (Nat.le_of_ble_eq_true rfl) dX12_end_16 (fun H locs hP hD hS => ?_)
      have hP : va_P (dC, dI) vwCl (mW h ad cl (sI σ 2 x)) H := hP
      have hD : va_D A (mW h ad cl (sI σ 2 x)) := hD
      refine lv_iload_n hx hb dX12_end_19 rfl (lv_at hl 1 rfl) ?_
      rw [hQ]
      have o1 : (0 : Int) ≤ x.toInt := by omega
      have o2 : x.toInt ≤ 1000 := by omega
      exact W.iret (v := x) hx hb hr (fun t ht hW => ⟨⟨x, (sI σ 2 x), rfl, ⟨(Inv.sI hI (show (0 : Int) ≤ x.toInt ∧ x.toInt ≤ 1000 from ⟨o1, o2⟩)), (eqx.sI eqx.rf rg_59)⟩, wEn_of hP (hK.sub [] rfl) hD ht hW⟩, hS.F ht⟩) hS.2.2 dX12_end_20
    · have tc2 := (show (σ.1 2).toInt < x.toInt from ti_nle rfl rfl c2)
      refine lv_iconst (v := (-1)) hx hb dX12_end_12 rg_53 ?_
      rw [hQ]
      exact W.iret (v := (-1)) hx hb hr (fun t ht hW => ⟨⟨(-1), σ, rfl, ⟨hI, eqx.rf⟩, wEn_of hP (hK.sub [] rfl) hD ht hW⟩, hS.F ht⟩) hS.2.2 dX12_end_13
def ow_n_fault : List Cond := [.fieldLink RX12 16 "NearEnoughModel" "faultPlace" "I", .fieldLink RX12 140 "NearEnoughModel" "faultKind" "I"]
def vs_n_fault : List Cond := .code yX12_fault cX12_fault 2 (some .int) :: (ow_n_fault ++ (wsX120))
theorem vg_n_fault : vs_n_fault.all goodWord = true := by decide +kernel
theorem dd_n_fault : yX12_fault.cls = RX12 ∧ yX12_fault.cls ≠ "java/lang/invoke/MethodHandle" ∧ yX12_fault.cls ≠ "java/lang/invoke/VarHandle" ∧ (parseMethodDescriptor yX12_fault.desc).map (fun d => d.parameters.length) = some 1 := by decide +kernel
def rm_n_fault : Room := { frames := 0, cells := 0, slots := 0, locals := 0 }
set_option maxHeartbeats 4000000 in
set_option maxRecDepth 100000 in
theorem n_fault (l : Launch) (dC : Nat → ClassId) (dI : Nat → Nat → Nat) (h : Nat) (ad : Nat → Nat) (cl : Nat → ClassId) (sz : Nat) (σ : MS) (x : Int32) (hI : Inv σ) : Met l yX12_fault vs_n_fault rm_n_fault (va_Pc [.ref h, .int x] (wSt dC dI (mW h ad cl σ) (mT cl) sz)) (va_Qi (fun (r : Int32) (τ : MS) => σ = τ) (fun (τ : MS) => wEn dC dI (va_A (mW h ad cl σ) sz) (mW h ad cl τ) []) (va_A (mW h ad cl σ) sz)) 0 0 (va_A (mW h ad cl σ) sz) := by
  refine Met.ofW (cc := cX12_fault) (maxL := 2) (ret := (some .int)) (by decide) rfl ?_
  intro p e s m args below meth c s₁ B hml hv
  obtain ⟨rfl, hsz, hP, hK, hD0, hE⟩ := hv
  have hx := B.exec
  have hb := B.bytes
  have hr := B.returns
  have hts := atoms_spec (ws := vs_n_fault) B.pre
  have hown : s.vm.findClass RX12 = some m.cls := findClass_of_methodNamed B.named
  have hlocks := B.notSynchronized
  subst hsz
  have hD := hD0.self (sz := s.heap.size)
  generalize hAe : va_A (mW h ad cl σ) s.heap.size = A at hD ⊢
  have hA : ∀ q : Nat, s.heap.size ≤ q → A q := fun q h => by rw [← hAe]; exact Or.inr h
  have hl := lv_entry ([.ref h, .int x]) (n := 2) (Nat.le_of_ble_eq_true rfl)
  rw [lg_entry_eq]
  generalize (lg_sl ([.ref h, .int x]) ++ List.replicate (2 - (lg_sl ([.ref h, .int x])).length) Slot.unset).toArray = ls at hl ⊢
  have hl : lv_has ls 2 [(0, .ref h), (1, .int x)] := hl
  have ho := fun w (h : w ∈ ow_n_fault) => hts w (List.mem_cons_of_mem _ (List.mem_append_left _ h))
  have hin12 : ∀ w ∈ u_ws RX12 TX12 59, w ∈ vs_n_fault := fun w h => (List.mem_cons_of_mem _ (List.mem_append_right _ h))
  refine zQ (fun Q hQ => ?_)
  refine zH (A := A) (ws := mW h ad cl σ) (fun H hP hS => ?_) hP
  refine lv_iload_n hx hb dX12_fault_0 rfl (lv_at hl 1 rfl) ?_
  refine lv_if_ne (tgt := 11) hx hb dX12_fault_1 rfl (fun c1 => ?_) (fun c1 => ?_)
  · have tc1 := (show x.toInt ≠ 0 from ti_ne rfl rg_11 c1)
    refine lv_iload_n hx hb dX12_fault_11 rfl (lv_at hl 1 rfl) ?_
    refine lv_iconst (v := 1) hx hb dX12_fault_12 rg_6 ?_
    refine lv_icmp_ne (tgt := 23) hx hb dX12_fault_13 rfl (fun c2 => ?_) (fun c2 => ?_)
    · have tc2 := (show x.toInt ≠ 1 from ti_ne rfl rg_18 c2)
      refine lv_iconst (v := (-1)) hx hb dX12_fault_23 rg_53 ?_
      rw [hQ]
      exact W.iret (v := (-1)) hx hb hr (fun t ht hW => ⟨⟨(-1), σ, rfl, rfl, wEn_of hP (hK.sub [] rfl) hD ht hW⟩, hS.F ht⟩) hS.2.2 dX12_fault_24
    · have tc2 := (show x.toInt = 1 from ti_eq rfl rg_18 c2)
      refine lv_aload_n hx hb dX12_fault_16 rfl (lv_at hl 0 rfl) ?_
      refine va_get (D := (dC, dI)) (ci := 12) (v := .int (σ.1 5)) (C := RX12) (T := TX12) (N := 59) hx hb hts hin12 hown hK hP 0 rfl rfl 5 (Nat.le_of_ble_eq_true rfl) (ho (.fieldLink RX12 16 "NearEnoughModel" "faultPlace" "I") (List.mem_of_getElem? (i := 0) rfl)) (fun _ h9 => h9) rfl dX12_fault_17 ?_
      refine lv_goto (tgt := 24) hx hb dX12_fault_20 rfl ?_
      rw [hQ]
      exact W.iret (v := (σ.1 5)) hx hb hr (fun t ht hW => ⟨⟨(σ.1 5), σ, rfl, rfl, wEn_of hP (hK.sub [] rfl) hD ht hW⟩, hS.F ht⟩) hS.2.2 dX12_fault_24
  · have tc1 := (show x.toInt = 0 from ti_eq rfl rg_11 c1)
    refine lv_aload_n hx hb dX12_fault_4 rfl (lv_at hl 0 rfl) ?_
    refine va_get (D := (dC, dI)) (ci := 12) (v := .int (σ.1 4)) (C := RX12) (T := TX12) (N := 59) hx hb hts hin12 hown hK hP 0 rfl rfl 4 (Nat.le_of_ble_eq_true rfl) (ho (.fieldLink RX12 140 "NearEnoughModel" "faultKind" "I") (List.mem_of_getElem? (i := 1) rfl)) (fun _ h9 => h9) rfl dX12_fault_5 ?_
    have bσ_4 : 0 ≤ (σ.1 4).toInt ∧ (σ.1 4).toInt ≤ 7 := hI.1 4
    refine lv_goto (tgt := 24) hx hb dX12_fault_8 rfl ?_
    rw [hQ]
    exact W.iret (v := (σ.1 4)) hx hb hr (fun t ht hW => ⟨⟨(σ.1 4), σ, rfl, rfl, wEn_of hP (hK.sub [] rfl) hD ht hW⟩, hS.F ht⟩) hS.2.2 dX12_fault_24
def ow_n_steps : List Cond := [.fieldLink RX12 24 "NearEnoughModel" "stepMany" "[I", .fieldLink RX12 240 "NearEnoughModel" "bank" "I"]
def vs_n_steps : List Cond := .code yX12_steps cX12_steps 1 (some .int) :: (ow_n_steps ++ (wsX120))
theorem vg_n_steps : vs_n_steps.all goodWord = true := by decide +kernel
theorem dd_n_steps : yX12_steps.cls = RX12 ∧ yX12_steps.cls ≠ "java/lang/invoke/MethodHandle" ∧ yX12_steps.cls ≠ "java/lang/invoke/VarHandle" ∧ (parseMethodDescriptor yX12_steps.desc).map (fun d => d.parameters.length) = some 0 := by decide +kernel
def rm_n_steps : Room := { frames := 0, cells := 0, slots := 0, locals := 0 }
set_option maxHeartbeats 4000000 in
set_option maxRecDepth 100000 in
theorem n_steps (l : Launch) (dC : Nat → ClassId) (dI : Nat → Nat → Nat) (h : Nat) (ad : Nat → Nat) (cl : Nat → ClassId) (sz : Nat) (σ : MS)  (hI : Inv σ) : Met l yX12_steps vs_n_steps rm_n_steps (va_Pc [.ref h] (wSt dC dI (mW h ad cl σ) (mT cl) sz)) (va_Qi (fun (r : Int32) (τ : MS) => σ = τ ∧ 0 ≤ r.toInt ∧ r.toInt ≤ 12 ∧ r.toInt = (σ.2.1 12 (σ.1 29).toNatClampNeg).toInt) (fun (τ : MS) => wEn dC dI (va_A (mW h ad cl σ) sz) (mW h ad cl τ) []) (va_A (mW h ad cl σ) sz)) 0 0 (va_A (mW h ad cl σ) sz) := by
  refine Met.ofW (cc := cX12_steps) (maxL := 1) (ret := (some .int)) (by decide) rfl ?_
  intro p e s m args below meth c s₁ B hml hv
  obtain ⟨rfl, hsz, hP, hK, hD0, hE⟩ := hv
  have hx := B.exec
  have hb := B.bytes
  have hr := B.returns
  have hts := atoms_spec (ws := vs_n_steps) B.pre
  have hown : s.vm.findClass RX12 = some m.cls := findClass_of_methodNamed B.named
  have hlocks := B.notSynchronized
  subst hsz
  have hD := hD0.self (sz := s.heap.size)
  generalize hAe : va_A (mW h ad cl σ) s.heap.size = A at hD ⊢
  have hA : ∀ q : Nat, s.heap.size ≤ q → A q := fun q h => by rw [← hAe]; exact Or.inr h
  have hl := lv_entry ([.ref h]) (n := 1) (Nat.le_of_ble_eq_true rfl)
  rw [lg_entry_eq]
  generalize (lg_sl ([.ref h]) ++ List.replicate (1 - (lg_sl ([.ref h])).length) Slot.unset).toArray = ls at hl ⊢
  have hl : lv_has ls 1 [(0, .ref h)] := hl
  have ho := fun w (h : w ∈ ow_n_steps) => hts w (List.mem_cons_of_mem _ (List.mem_append_left _ h))
  have hin12 : ∀ w ∈ u_ws RX12 TX12 59, w ∈ vs_n_steps := fun w h => (List.mem_cons_of_mem _ (List.mem_append_right _ h))
  refine zQ (fun Q hQ => ?_)
  refine zH (A := A) (ws := mW h ad cl σ) (fun H hP hS => ?_) hP
  have bσ_29 : 0 ≤ (σ.1 29).toInt ∧ (σ.1 29).toInt ≤ 1 := hI.1 29
  refine lv_aload_n hx hb dX12_steps_0 rfl (lv_at hl 0 rfl) ?_
  refine va_get (D := (dC, dI)) (ci := 12) (v := .ref (ad 12)) (C := RX12) (T := TX12) (N := 59) hx hb hts hin12 hown hK hP 0 rfl rfl 12 (Nat.le_of_ble_eq_true rfl) (ho (.fieldLink RX12 24 "NearEnoughModel" "stepMany" "[I") (List.mem_of_getElem? (i := 0) rfl)) (fun _ h9 => h9) rfl dX12_steps_1 ?_
  refine lv_aload_n hx hb dX12_steps_4 rfl (lv_at hl 0 rfl) ?_
  refine va_get (D := (dC, dI)) (ci := 12) (v := .int (σ.1 29)) (C := RX12) (T := TX12) (N := 59) hx hb hts hin12 hown hK hP 0 rfl rfl 29 (Nat.le_of_ble_eq_true rfl) (ho (.fieldLink RX12 240 "NearEnoughModel" "bank" "I") (List.mem_of_getElem? (i := 1) rfl)) (fun _ h9 => h9) rfl dX12_steps_5 ?_
  have bσ_29 : 0 ≤ (σ.1 29).toInt ∧ (σ.1 29).toInt ≤ 1 := hI.1 29
  have o1 : 0 ≤ (σ.1 29).toInt := by omega
  have o2 : (σ.1 29).toInt < ((2 : Nat) : Int) := by omega
  refine va_iald hx hb hK hP 4 3 rfl rfl (ti_inx o1 o2) dX12_steps_8 ?_
  refine lv_topi (fun z1 ez1 => ?_)
  have gz1 : z1.toInt = ((σ.2.1 12) (Int32.toNatClampNeg (σ.1 29))).toInt := congrArg Int32.toInt (ez1.trans (congrFun rfl (Int32.toNatClampNeg (σ.1 29))))
  have bz1 : 0 ≤ z1.toInt ∧ z1.toInt ≤ 12 := by rw [ez1]; exact (hI.2 12) _ (cl_lt (n := 2) o1 o2)
  rw [hQ]
  exact W.iret (v := z1) hx hb hr (fun t ht hW => ⟨⟨z1, σ, rfl, ⟨rfl, (by omega), (by omega), congrArg Int32.toInt ez1⟩, wEn_of hP (hK.sub [] rfl) hD ht hW⟩, hS.F ht⟩) hS.2.2 dX12_steps_9
def ow_n_feed : List Cond := [.fieldLink RX12 237 "NearEnoughModel" "taped" "I", .fieldLink RX12 7 "NearEnoughModel" "tape" "[B"]
def vs_n_feed : List Cond := .code yX12_feed cX12_feed 8 (some .int) :: (ow_n_feed ++ (wsX120))
theorem vg_n_feed : vs_n_feed.all goodWord = true := by decide +kernel
theorem dd_n_feed : yX12_feed.cls = RX12 ∧ yX12_feed.cls ≠ "java/lang/invoke/MethodHandle" ∧ yX12_feed.cls ≠ "java/lang/invoke/VarHandle" ∧ (parseMethodDescriptor yX12_feed.desc).map (fun d => d.parameters.length) = some 5 := by decide +kernel
def rm_n_feed : Room := { frames := 0, cells := 0, slots := 0, locals := 0 }
set_option maxHeartbeats 4000000 in
set_option maxRecDepth 100000 in
theorem n_feed (l : Launch) (dC : Nat → ClassId) (dI : Nat → Nat → Nat) (h : Nat) (ad : Nat → Nat) (cl : Nat → ClassId) (sz : Nat) (σ : MS) (p1 : Int32) (p2 : Int32) (p3 : Int32) (p4 : Int32) (p5 : Int32) (hI : Inv σ) : Met l yX12_feed vs_n_feed rm_n_feed (va_Pc [.ref h, .int p1, .int p2, .int p3, .int p4, .int p5] (wSt dC dI (mW h ad cl σ) (mT cl) sz)) (va_Qi (fun (r : Int32) (τ : MS) => Inv τ ∧ eqx [0, 2] τ σ) (fun (τ : MS) => wEn dC dI (va_A (mW h ad cl σ) sz) (mW h ad cl τ) []) (va_A (mW h ad cl σ) sz)) 0 0 (va_A (mW h ad cl σ) sz) := by
  refine Met.ofW (cc := cX12_feed) (maxL := 8) (ret := (some .int)) (by decide) rfl ?_
  intro p e s m args below meth c s₁ B hml hv
  obtain ⟨rfl, hsz, hP, hK, hD0, hE⟩ := hv
  have hx := B.exec
  have hb := B.bytes
  have hr := B.returns
  have hts := atoms_spec (ws := vs_n_feed) B.pre
  have hown : s.vm.findClass RX12 = some m.cls := findClass_of_methodNamed B.named
  have hlocks := B.notSynchronized
  subst hsz
  have hD := hD0.self (sz := s.heap.size)
  generalize hAe : va_A (mW h ad cl σ) s.heap.size = A at hD ⊢
  have hA : ∀ q : Nat, s.heap.size ≤ q → A q := fun q h => by rw [← hAe]; exact Or.inr h
  have hl := lv_entry ([.ref h, .int p1, .int p2, .int p3, .int p4, .int p5]) (n := 8) (Nat.le_of_ble_eq_true rfl)
  rw [lg_entry_eq]
  generalize (lg_sl ([.ref h, .int p1, .int p2, .int p3, .int p4, .int p5]) ++ List.replicate (8 - (lg_sl ([.ref h, .int p1, .int p2, .int p3, .int p4, .int p5])).length) Slot.unset).toArray = ls at hl ⊢
  have hl : lv_has ls 8 [(0, .ref h), (1, .int p1), (2, .int p2), (3, .int p3), (4, .int p4), (5, .int p5)] := hl
  have ho := fun w (h : w ∈ ow_n_feed) => hts w (List.mem_cons_of_mem _ (List.mem_append_left _ h))
  have hin12 : ∀ w ∈ u_ws RX12 TX12 59, w ∈ vs_n_feed := fun w h => (List.mem_cons_of_mem _ (List.mem_append_right _ h))
  refine zQ (fun Q hQ => ?_)
  have pt_18 : ∀ (n18 : Nat) (τ : MS) (kv : Int32) (H : Heap) (locs : List Loc) (ls : Array Slot), (20 - kv.toInt).toNat < n18 → (Inv τ) → (eqx [0, 2] τ σ) → (0 ≤ kv.toInt) → ((τ.1 2).toInt ≤ 980) → va_P (dC, dI) vwCl (mW h ad cl τ) H → va_D A (mW h ad cl τ) → va_S A s.heap H locs → lv_has ls 8 [(0, .ref h), (1, .int p1), (2, .int p2), (3, .int p3), (4, .int p4), (5, .int p5), (6, .int kv)] → W p l e (headSpec vs_n_feed rm_n_feed).room s m #[Value.ref h, Value.int p1, Value.int p2, Value.int p3, Value.int p4, Value.int p5] below meth c H locs 0 0 Q (F0 m 18 ls []) := by
    intro n18
    induction n18 with
    | zero => intro τ kv H locs ls hn18 hIτ hxτ hk0 ht hP hD hS hl; exact absurd hn18 (Nat.not_lt_zero _)
    | succ n18 ih18 =>
      intro τ kv H locs ls hn18 hIτ hxτ hk0 ht hP hD hS hl
      have bτ_2 : 0 ≤ (τ.1 2).toInt ∧ (τ.1 2).toInt ≤ 1000 := hIτ.1 2
      refine lv_iload hx hb dX12_feed_18 (lv_at hl 6 rfl) ?_
      refine lv_bipush (v := 20) hx hb dX12_feed_20 rg_60 ?_
      refine lv_icmp_ge (tgt := 105) hx hb dX12_feed_22 rfl (fun c1 => ?_) (fun c1 => ?_)
      · have tc1 := (show 20 ≤ kv.toInt from ti_le rg_61 rfl c1)
        refine lv_aload_n hx hb dX12_feed_105 rfl (lv_at hl 0 rfl) ?_
        refine lv_dup hx hb dX12_feed_106 rfl ?_
        refine va_get (D := (dC, dI)) (ci := 12) (v := .int (τ.1 2)) (C := RX12) (T := TX12) (N := 59) hx hb hts hin12 hown hK hP 0 rfl rfl 2 (Nat.le_of_ble_eq_true rfl) (ho (.fieldLink RX12 237 "NearEnoughModel" "taped" "I") (List.mem_of_getElem? (i := 0) rfl)) (fun _ h9 => h9) rfl dX12_feed_107 ?_
        have bτ_2 : 0 ≤ (τ.1 2).toInt ∧ (τ.1 2).toInt ≤ 1000 := hIτ.1 2
        refine lv_bipush (v := 20) hx hb dX12_feed_110 rg_60 ?_
        refine lv_iadd hx hb dX12_feed_112 ?_
        refine lv_topi (fun z2 ez2 => ?_)
        have o1 : -2147483648 ≤ (τ.1 2).toInt + 20 := by omega
        have o2 : (τ.1 2).toInt + 20 ≤ 2147483647 := by omega
        have tz2 : z2.toInt = (τ.1 2).toInt + 20 := ti_add ez2 rfl rg_61 o1 o2
        refine va_put (D := (dC, dI)) (ci := 12) (v := .int z2) (ty := tyX12 2) (C := RX12) (T := TX12) (N := 59) hx hb hts hin12 tyX12 tyX12_ok nmX12 hown hK hP hD hS 0 rfl rfl 2 (Nat.le_of_ble_eq_true rfl) (ho (.fieldLink RX12 237 "NearEnoughModel" "taped" "I") (List.mem_of_getElem? (i := 0) rfl)) (fun _ h9 => h9) rfl (tyX12_ok 2 (Nat.le_of_ble_eq_true rfl)) rfl rfl (Nat.le_of_ble_eq_true rfl) dX12_feed_113 (fun H locs hP hD hS => ?_)
        have hP : va_P (dC, dI) vwCl (mW h ad cl (sI τ 2 z2)) H := hP
        have hD : va_D A (mW h ad cl (sI τ 2 z2)) := hD
        refine lv_aload_n hx hb dX12_feed_116 rfl (lv_at hl 0 rfl) ?_
        refine va_get (D := (dC, dI)) (ci := 12) (v := .int z2) (C := RX12) (T := TX12) (N := 59) hx hb hts hin12 hown hK hP 0 rfl rfl 2 (Nat.le_of_ble_eq_true rfl) (ho (.fieldLink RX12 237 "NearEnoughModel" "taped" "I") (List.mem_of_getElem? (i := 0) rfl)) (fun _ h9 => h9) rfl dX12_feed_117 ?_
        rw [hQ]
        have o3 : (0 : Int) ≤ z2.toInt := by omega
        have o4 : z2.toInt ≤ 1000 := by omega
        exact W.iret (v := z2) hx hb hr (fun t ht hW => ⟨⟨z2, (sI τ 2 z2), rfl, ⟨(Inv.sI hIτ (show (0 : Int) ≤ z2.toInt ∧ z2.toInt ≤ 1000 from ⟨o3, o4⟩)), (eqx.sI hxτ rg_62)⟩, wEn_of hP (hK.sub [] rfl) hD ht hW⟩, hS.F ht⟩) hS.2.2 dX12_feed_120
      · have tc1 := (show kv.toInt < 20 from ti_nle rg_61 rfl c1)
        refine lv_iload hx hb dX12_feed_25 (lv_at hl 6 rfl) ?_
        refine lv_iconst (v := 4) hx hb dX12_feed_27 rg_31 ?_
        refine lv_icmp_ge (tgt := 35) hx hb dX12_feed_28 rfl (fun c3 => ?_) (fun c3 => ?_)
        · have tc3 := (show 4 ≤ kv.toInt from ti_le rg_32 rfl c3)
          refine lv_iload hx hb dX12_feed_35 (lv_at hl 6 rfl) ?_
          refine lv_bipush (v := 8) hx hb dX12_feed_37 rg_23 ?_
          refine lv_icmp_ge (tgt := 46) hx hb dX12_feed_39 rfl (fun c4 => ?_) (fun c4 => ?_)
          · have tc4 := (show 8 ≤ kv.toInt from ti_le rg_24 rfl c4)
            refine lv_iload hx hb dX12_feed_46 (lv_at hl 6 rfl) ?_
            refine lv_bipush (v := 12) hx hb dX12_feed_48 rg_57 ?_
            refine lv_icmp_ge (tgt := 57) hx hb dX12_feed_50 rfl (fun c5 => ?_) (fun c5 => ?_)
            · have tc5 := (show 12 ≤ kv.toInt from ti_le rg_58 rfl c5)
              refine lv_iload hx hb dX12_feed_57 (lv_at hl 6 rfl) ?_
              refine lv_bipush (v := 16) hx hb dX12_feed_59 rg_63 ?_
              refine lv_icmp_ge (tgt := 69) hx hb dX12_feed_61 rfl (fun c6 => ?_) (fun c6 => ?_)
              · have tc6 := (show 16 ≤ kv.toInt from ti_le rg_64 rfl c6)
                refine lv_iload hx hb dX12_feed_69 (lv_at hl 5 rfl) ?_
                refine lv_istore (lv' := [(7, .int p5), (0, .ref h), (1, .int p1), (2, .int p2), (3, .int p3), (4, .int p4), (5, .int p5), (6, .int kv)]) hx hb dX12_feed_71 hl (Nat.le_of_ble_eq_true rfl) rfl (fun ls hl => ?_)
                refine lv_aload_n hx hb dX12_feed_73 rfl (lv_at hl 1 rfl) ?_
                refine va_get (D := (dC, dI)) (ci := 12) (v := .ref (ad 0)) (C := RX12) (T := TX12) (N := 59) hx hb hts hin12 hown hK hP 0 rfl rfl 0 (Nat.le_of_ble_eq_true rfl) (ho (.fieldLink RX12 7 "NearEnoughModel" "tape" "[B") (List.mem_of_getElem? (i := 1) rfl)) (fun _ h9 => h9) rfl dX12_feed_74 ?_
                refine lv_aload_n hx hb dX12_feed_77 rfl (lv_at hl 1 rfl) ?_
                refine va_get (D := (dC, dI)) (ci := 12) (v := .int (τ.1 2)) (C := RX12) (T := TX12) (N := 59) hx hb hts hin12 hown hK hP 0 rfl rfl 2 (Nat.le_of_ble_eq_true rfl) (ho (.fieldLink RX12 237 "NearEnoughModel" "taped" "I") (List.mem_of_getElem? (i := 0) rfl)) (fun _ h9 => h9) rfl dX12_feed_78 ?_
                have bτ_2 : 0 ≤ (τ.1 2).toInt ∧ (τ.1 2).toInt ≤ 1000 := hIτ.1 2
                refine lv_iload hx hb dX12_feed_81 (lv_at hl 7 rfl) ?_
                refine lv_iadd hx hb dX12_feed_83 ?_
                refine lv_topi (fun z7 ez7 => ?_)
                have o5 : -2147483648 ≤ (τ.1 2).toInt + kv.toInt := by omega
                have o6 : (τ.1 2).toInt + kv.toInt ≤ 2147483647 := by omega
                have tz7 : z7.toInt = (τ.1 2).toInt + kv.toInt := ti_add ez7 rfl rfl o5 o6
                refine lv_iload hx hb dX12_feed_84 (lv_at hl 0 rfl) ?_
                refine lv_bipush (v := 24) hx hb dX12_feed_86 rg_65 ?_
                refine lv_bipush (v := 8) hx hb dX12_feed_88 rg_23 ?_
                refine lv_iload hx hb dX12_feed_90 (lv_at hl 7 rfl) ?_
                refine lv_iconst (v := 3) hx hb dX12_feed_92 rg_16 ?_
                refine lv_iand hx hb dX12_feed_93 ?_
                refine lv_topi (fun z8 ez8 => ?_)
                refine lv_imul hx hb dX12_feed_94 ?_
                refine lv_topi (fun z9 ez9 => ?_)
                refine lv_isub hx hb dX12_feed_95 ?_
                refine lv_topi (fun z10 ez10 => ?_)
                refine lv_ishr hx hb dX12_feed_96 ?_
                refine lv_topi (fun z11 ez11 => ?_)
                refine lv_i2b hx hb dX12_feed_97 rfl ?_
                refine lv_topi (fun z12 ez12 => ?_)
                have o7 : 0 ≤ z7.toInt := by omega
                have o8 : z7.toInt < ((1020 : Nat) : Int) := by omega
                refine va_bast hx hb hK hP hD hS 1 0 rfl rfl (ti_inx o7 o8) dX12_feed_98 (fun H locs hP hD hS => ?_)
                rw [wS0] at hP hD
                obtain ⟨τ13, eτ13⟩ : ∃ x9 : MS, x9 = sA τ 0 (upd (τ.2.1 0) (Int32.toNatClampNeg z7) (vp_nar .byte z12)) := ⟨_, rfl⟩
                have hP : va_P (dC, dI) vwCl (mW h ad cl τ13) H := by rw [eτ13]; exact hP
                have hD : va_D A (mW h ad cl τ13) := by rw [eτ13]; exact hD
                have hIτ13 : Inv τ13 := by rw [eτ13]; exact (Inv_sA1 hIτ (fun j _ => Inv.any _))
                have Xτ13 : eqx [0, 2] τ13 σ := (eqx.eq eτ13 (eqx.sA hxτ rg_66))
                have qq14 : (τ13.1 2).toInt = ((τ.1 2) : Int32).toInt := congrArg Int32.toInt ((show τ13.1 2 = (τ.1 2) from (congrArg (fun x9 : MS => x9.1 2) eτ13).trans rfl))
                obtain ⟨z15, ez15⟩ : ∃ y : Int32, y = kv + 1 := ⟨_, rfl⟩
                have o9 : -2147483648 ≤ kv.toInt + 1 := by omega
                have o10 : kv.toInt + 1 ≤ 2147483647 := by omega
                have tz15 := ti_add ez15 rfl rg_18 o9 o10
                refine lv_iinc (v := z15) (lv' := [(6, .int z15), (7, .int p5), (0, .ref h), (1, .int p1), (2, .int p2), (3, .int p3), (4, .int p4), (5, .int p5)]) hx hb dX12_feed_99 hl (k := 7) rfl (iincp ez15 rg_6) (Nat.le_of_ble_eq_true rfl) rfl (fun ls hl => ?_)
                refine lv_goto (tgt := 18) hx hb dX12_feed_102 rfl ?_
                have o11 : (20 - z15.toInt).toNat < n18 := by omega
                have o12 : 0 ≤ z15.toInt := by omega
                have o13 : (τ13.1 2).toInt ≤ 980 := by omega
                exact ih18 τ13 z15 _ _ _ (show (20 - z15.toInt).toNat < n18 from o11) hIτ13 Xτ13 (show 0 ≤ z15.toInt from o12) (show (τ13.1 2).toInt ≤ 980 from o13) hP hD hS (lv_sub hl [2, 3, 4, 5, 6, 7, 0] rfl)
              · have tc6 := (show kv.toInt < 16 from ti_nle rg_64 rfl c6)
                refine lv_iload hx hb dX12_feed_64 (lv_at hl 4 rfl) ?_
                refine lv_goto (tgt := 71) hx hb dX12_feed_66 rfl ?_
                refine lv_istore (lv' := [(7, .int p4), (0, .ref h), (1, .int p1), (2, .int p2), (3, .int p3), (4, .int p4), (5, .int p5), (6, .int kv)]) hx hb dX12_feed_71 hl (Nat.le_of_ble_eq_true rfl) rfl (fun ls hl => ?_)
                refine lv_aload_n hx hb dX12_feed_73 rfl (lv_at hl 1 rfl) ?_
                refine va_get (D := (dC, dI)) (ci := 12) (v := .ref (ad 0)) (C := RX12) (T := TX12) (N := 59) hx hb hts hin12 hown hK hP 0 rfl rfl 0 (Nat.le_of_ble_eq_true rfl) (ho (.fieldLink RX12 7 "NearEnoughModel" "tape" "[B") (List.mem_of_getElem? (i := 1) rfl)) (fun _ h9 => h9) rfl dX12_feed_74 ?_
                refine lv_aload_n hx hb dX12_feed_77 rfl (lv_at hl 1 rfl) ?_
                refine va_get (D := (dC, dI)) (ci := 12) (v := .int (τ.1 2)) (C := RX12) (T := TX12) (N := 59) hx hb hts hin12 hown hK hP 0 rfl rfl 2 (Nat.le_of_ble_eq_true rfl) (ho (.fieldLink RX12 237 "NearEnoughModel" "taped" "I") (List.mem_of_getElem? (i := 0) rfl)) (fun _ h9 => h9) rfl dX12_feed_78 ?_
                have bτ_2 : 0 ≤ (τ.1 2).toInt ∧ (τ.1 2).toInt ≤ 1000 := hIτ.1 2
                refine lv_iload hx hb dX12_feed_81 (lv_at hl 7 rfl) ?_
                refine lv_iadd hx hb dX12_feed_83 ?_
                refine lv_topi (fun z16 ez16 => ?_)
                have o14 : -2147483648 ≤ (τ.1 2).toInt + kv.toInt := by omega
                have o15 : (τ.1 2).toInt + kv.toInt ≤ 2147483647 := by omega
                have tz16 : z16.toInt = (τ.1 2).toInt + kv.toInt := ti_add ez16 rfl rfl o14 o15
                refine lv_iload hx hb dX12_feed_84 (lv_at hl 0 rfl) ?_
                refine lv_bipush (v := 24) hx hb dX12_feed_86 rg_65 ?_
                refine lv_bipush (v := 8) hx hb dX12_feed_88 rg_23 ?_
                refine lv_iload hx hb dX12_feed_90 (lv_at hl 7 rfl) ?_
                refine lv_iconst (v := 3) hx hb dX12_feed_92 rg_16 ?_
                refine lv_iand hx hb dX12_feed_93 ?_
                refine lv_topi (fun z17 ez17 => ?_)
                refine lv_imul hx hb dX12_feed_94 ?_
                refine lv_topi (fun z18 ez18 => ?_)
                refine lv_isub hx hb dX12_feed_95 ?_
                refine lv_topi (fun z19 ez19 => ?_)
                refine lv_ishr hx hb dX12_feed_96 ?_
                refine lv_topi (fun z20 ez20 => ?_)
                refine lv_i2b hx hb dX12_feed_97 rfl ?_
                refine lv_topi (fun z21 ez21 => ?_)
                have o16 : 0 ≤ z16.toInt := by omega
                have o17 : z16.toInt < ((1020 : Nat) : Int) := by omega
                refine va_bast hx hb hK hP hD hS 1 0 rfl rfl (ti_inx o16 o17) dX12_feed_98 (fun H locs hP hD hS => ?_)
                rw [wS0] at hP hD
                obtain ⟨τ22, eτ22⟩ : ∃ x9 : MS, x9 = sA τ 0 (upd (τ.2.1 0) (Int32.toNatClampNeg z16) (vp_nar .byte z21)) := ⟨_, rfl⟩
                have hP : va_P (dC, dI) vwCl (mW h ad cl τ22) H := by rw [eτ22]; exact hP
                have hD : va_D A (mW h ad cl τ22) := by rw [eτ22]; exact hD
                have hIτ22 : Inv τ22 := by rw [eτ22]; exact (Inv_sA1 hIτ (fun j _ => Inv.any _))
                have Xτ22 : eqx [0, 2] τ22 σ := (eqx.eq eτ22 (eqx.sA hxτ rg_66))
                have qq23 : (τ22.1 2).toInt = ((τ.1 2) : Int32).toInt := congrArg Int32.toInt ((show τ22.1 2 = (τ.1 2) from (congrArg (fun x9 : MS => x9.1 2) eτ22).trans rfl))
                obtain ⟨z24, ez24⟩ : ∃ y : Int32, y = kv + 1 := ⟨_, rfl⟩
                have o18 : -2147483648 ≤ kv.toInt + 1 := by omega
                have o19 : kv.toInt + 1 ≤ 2147483647 := by omega
                have tz24 := ti_add ez24 rfl rg_18 o18 o19
                refine lv_iinc (v := z24) (lv' := [(6, .int z24), (7, .int p4), (0, .ref h), (1, .int p1), (2, .int p2), (3, .int p3), (4, .int p4), (5, .int p5)]) hx hb dX12_feed_99 hl (k := 7) rfl (iincp ez24 rg_6) (Nat.le_of_ble_eq_true rfl) rfl (fun ls hl => ?_)
                refine lv_goto (tgt := 18) hx hb dX12_feed_102 rfl ?_
                have o20 : (20 - z24.toInt).toNat < n18 := by omega
                have o21 : 0 ≤ z24.toInt := by omega
                have o22 : (τ22.1 2).toInt ≤ 980 := by omega
                exact ih18 τ22 z24 _ _ _ (show (20 - z24.toInt).toNat < n18 from o20) hIτ22 Xτ22 (show 0 ≤ z24.toInt from o21) (show (τ22.1 2).toInt ≤ 980 from o22) hP hD hS (lv_sub hl [2, 3, 4, 5, 6, 7, 0] rfl)
            · have tc5 := (show kv.toInt < 12 from ti_nle rg_58 rfl c5)
              refine lv_iload_n hx hb dX12_feed_53 rfl (lv_at hl 3 rfl) ?_
              refine lv_goto (tgt := 71) hx hb dX12_feed_54 rfl ?_
              refine lv_istore (lv' := [(7, .int p3), (0, .ref h), (1, .int p1), (2, .int p2), (3, .int p3), (4, .int p4), (5, .int p5), (6, .int kv)]) hx hb dX12_feed_71 hl (Nat.le_of_ble_eq_true rfl) rfl (fun ls hl => ?_)
              refine lv_aload_n hx hb dX12_feed_73 rfl (lv_at hl 1 rfl) ?_
              refine va_get (D := (dC, dI)) (ci := 12) (v := .ref (ad 0)) (C := RX12) (T := TX12) (N := 59) hx hb hts hin12 hown hK hP 0 rfl rfl 0 (Nat.le_of_ble_eq_true rfl) (ho (.fieldLink RX12 7 "NearEnoughModel" "tape" "[B") (List.mem_of_getElem? (i := 1) rfl)) (fun _ h9 => h9) rfl dX12_feed_74 ?_
              refine lv_aload_n hx hb dX12_feed_77 rfl (lv_at hl 1 rfl) ?_
              refine va_get (D := (dC, dI)) (ci := 12) (v := .int (τ.1 2)) (C := RX12) (T := TX12) (N := 59) hx hb hts hin12 hown hK hP 0 rfl rfl 2 (Nat.le_of_ble_eq_true rfl) (ho (.fieldLink RX12 237 "NearEnoughModel" "taped" "I") (List.mem_of_getElem? (i := 0) rfl)) (fun _ h9 => h9) rfl dX12_feed_78 ?_
              have bτ_2 : 0 ≤ (τ.1 2).toInt ∧ (τ.1 2).toInt ≤ 1000 := hIτ.1 2
              refine lv_iload hx hb dX12_feed_81 (lv_at hl 7 rfl) ?_
              refine lv_iadd hx hb dX12_feed_83 ?_
              refine lv_topi (fun z25 ez25 => ?_)
              have o23 : -2147483648 ≤ (τ.1 2).toInt + kv.toInt := by omega
              have o24 : (τ.1 2).toInt + kv.toInt ≤ 2147483647 := by omega
              have tz25 : z25.toInt = (τ.1 2).toInt + kv.toInt := ti_add ez25 rfl rfl o23 o24
              refine lv_iload hx hb dX12_feed_84 (lv_at hl 0 rfl) ?_
              refine lv_bipush (v := 24) hx hb dX12_feed_86 rg_65 ?_
              refine lv_bipush (v := 8) hx hb dX12_feed_88 rg_23 ?_
              refine lv_iload hx hb dX12_feed_90 (lv_at hl 7 rfl) ?_
              refine lv_iconst (v := 3) hx hb dX12_feed_92 rg_16 ?_
              refine lv_iand hx hb dX12_feed_93 ?_
              refine lv_topi (fun z26 ez26 => ?_)
              refine lv_imul hx hb dX12_feed_94 ?_
              refine lv_topi (fun z27 ez27 => ?_)
              refine lv_isub hx hb dX12_feed_95 ?_
              refine lv_topi (fun z28 ez28 => ?_)
              refine lv_ishr hx hb dX12_feed_96 ?_
              refine lv_topi (fun z29 ez29 => ?_)
              refine lv_i2b hx hb dX12_feed_97 rfl ?_
              refine lv_topi (fun z30 ez30 => ?_)
              have o25 : 0 ≤ z25.toInt := by omega
              have o26 : z25.toInt < ((1020 : Nat) : Int) := by omega
              refine va_bast hx hb hK hP hD hS 1 0 rfl rfl (ti_inx o25 o26) dX12_feed_98 (fun H locs hP hD hS => ?_)
              rw [wS0] at hP hD
              obtain ⟨τ31, eτ31⟩ : ∃ x9 : MS, x9 = sA τ 0 (upd (τ.2.1 0) (Int32.toNatClampNeg z25) (vp_nar .byte z30)) := ⟨_, rfl⟩
              have hP : va_P (dC, dI) vwCl (mW h ad cl τ31) H := by rw [eτ31]; exact hP
              have hD : va_D A (mW h ad cl τ31) := by rw [eτ31]; exact hD
              have hIτ31 : Inv τ31 := by rw [eτ31]; exact (Inv_sA1 hIτ (fun j _ => Inv.any _))
              have Xτ31 : eqx [0, 2] τ31 σ := (eqx.eq eτ31 (eqx.sA hxτ rg_66))
              have qq32 : (τ31.1 2).toInt = ((τ.1 2) : Int32).toInt := congrArg Int32.toInt ((show τ31.1 2 = (τ.1 2) from (congrArg (fun x9 : MS => x9.1 2) eτ31).trans rfl))
              obtain ⟨z33, ez33⟩ : ∃ y : Int32, y = kv + 1 := ⟨_, rfl⟩
              have o27 : -2147483648 ≤ kv.toInt + 1 := by omega
              have o28 : kv.toInt + 1 ≤ 2147483647 := by omega
              have tz33 := ti_add ez33 rfl rg_18 o27 o28
              refine lv_iinc (v := z33) (lv' := [(6, .int z33), (7, .int p3), (0, .ref h), (1, .int p1), (2, .int p2), (3, .int p3), (4, .int p4), (5, .int p5)]) hx hb dX12_feed_99 hl (k := 7) rfl (iincp ez33 rg_6) (Nat.le_of_ble_eq_true rfl) rfl (fun ls hl => ?_)
              refine lv_goto (tgt := 18) hx hb dX12_feed_102 rfl ?_
              have o29 : (20 - z33.toInt).toNat < n18 := by omega
              have o30 : 0 ≤ z33.toInt := by omega
              have o31 : (τ31.1 2).toInt ≤ 980 := by omega
              exact ih18 τ31 z33 _ _ _ (show (20 - z33.toInt).toNat < n18 from o29) hIτ31 Xτ31 (show 0 ≤ z33.toInt from o30) (show (τ31.1 2).toInt ≤ 980 from o31) hP hD hS (lv_sub hl [2, 3, 4, 5, 6, 7, 0] rfl)
          · have tc4 := (show kv.toInt < 8 from ti_nle rg_24 rfl c4)
            refine lv_iload_n hx hb dX12_feed_42 rfl (lv_at hl 2 rfl) ?_
            refine lv_goto (tgt := 71) hx hb dX12_feed_43 rfl ?_
            refine lv_istore (lv' := [(7, .int p2), (0, .ref h), (1, .int p1), (2, .int p2), (3, .int p3), (4, .int p4), (5, .int p5), (6, .int kv)]) hx hb dX12_feed_71 hl (Nat.le_of_ble_eq_true rfl) rfl (fun ls hl => ?_)
            refine lv_aload_n hx hb dX12_feed_73 rfl (lv_at hl 1 rfl) ?_
            refine va_get (D := (dC, dI)) (ci := 12) (v := .ref (ad 0)) (C := RX12) (T := TX12) (N := 59) hx hb hts hin12 hown hK hP 0 rfl rfl 0 (Nat.le_of_ble_eq_true rfl) (ho (.fieldLink RX12 7 "NearEnoughModel" "tape" "[B") (List.mem_of_getElem? (i := 1) rfl)) (fun _ h9 => h9) rfl dX12_feed_74 ?_
            refine lv_aload_n hx hb dX12_feed_77 rfl (lv_at hl 1 rfl) ?_
            refine va_get (D := (dC, dI)) (ci := 12) (v := .int (τ.1 2)) (C := RX12) (T := TX12) (N := 59) hx hb hts hin12 hown hK hP 0 rfl rfl 2 (Nat.le_of_ble_eq_true rfl) (ho (.fieldLink RX12 237 "NearEnoughModel" "taped" "I") (List.mem_of_getElem? (i := 0) rfl)) (fun _ h9 => h9) rfl dX12_feed_78 ?_
            have bτ_2 : 0 ≤ (τ.1 2).toInt ∧ (τ.1 2).toInt ≤ 1000 := hIτ.1 2
            refine lv_iload hx hb dX12_feed_81 (lv_at hl 7 rfl) ?_
            refine lv_iadd hx hb dX12_feed_83 ?_
            refine lv_topi (fun z34 ez34 => ?_)
            have o32 : -2147483648 ≤ (τ.1 2).toInt + kv.toInt := by omega
            have o33 : (τ.1 2).toInt + kv.toInt ≤ 2147483647 := by omega
            have tz34 : z34.toInt = (τ.1 2).toInt + kv.toInt := ti_add ez34 rfl rfl o32 o33
            refine lv_iload hx hb dX12_feed_84 (lv_at hl 0 rfl) ?_
            refine lv_bipush (v := 24) hx hb dX12_feed_86 rg_65 ?_
            refine lv_bipush (v := 8) hx hb dX12_feed_88 rg_23 ?_
            refine lv_iload hx hb dX12_feed_90 (lv_at hl 7 rfl) ?_
            refine lv_iconst (v := 3) hx hb dX12_feed_92 rg_16 ?_
            refine lv_iand hx hb dX12_feed_93 ?_
            refine lv_topi (fun z35 ez35 => ?_)
            refine lv_imul hx hb dX12_feed_94 ?_
            refine lv_topi (fun z36 ez36 => ?_)
            refine lv_isub hx hb dX12_feed_95 ?_
            refine lv_topi (fun z37 ez37 => ?_)
            refine lv_ishr hx hb dX12_feed_96 ?_
            refine lv_topi (fun z38 ez38 => ?_)
            refine lv_i2b hx hb dX12_feed_97 rfl ?_
            refine lv_topi (fun z39 ez39 => ?_)
            have o34 : 0 ≤ z34.toInt := by omega
            have o35 : z34.toInt < ((1020 : Nat) : Int) := by omega
            refine va_bast hx hb hK hP hD hS 1 0 rfl rfl (ti_inx o34 o35) dX12_feed_98 (fun H locs hP hD hS => ?_)
            rw [wS0] at hP hD
            obtain ⟨τ40, eτ40⟩ : ∃ x9 : MS, x9 = sA τ 0 (upd (τ.2.1 0) (Int32.toNatClampNeg z34) (vp_nar .byte z39)) := ⟨_, rfl⟩
            have hP : va_P (dC, dI) vwCl (mW h ad cl τ40) H := by rw [eτ40]; exact hP
            have hD : va_D A (mW h ad cl τ40) := by rw [eτ40]; exact hD
            have hIτ40 : Inv τ40 := by rw [eτ40]; exact (Inv_sA1 hIτ (fun j _ => Inv.any _))
            have Xτ40 : eqx [0, 2] τ40 σ := (eqx.eq eτ40 (eqx.sA hxτ rg_66))
            have qq41 : (τ40.1 2).toInt = ((τ.1 2) : Int32).toInt := congrArg Int32.toInt ((show τ40.1 2 = (τ.1 2) from (congrArg (fun x9 : MS => x9.1 2) eτ40).trans rfl))
            obtain ⟨z42, ez42⟩ : ∃ y : Int32, y = kv + 1 := ⟨_, rfl⟩
            have o36 : -2147483648 ≤ kv.toInt + 1 := by omega
            have o37 : kv.toInt + 1 ≤ 2147483647 := by omega
            have tz42 := ti_add ez42 rfl rg_18 o36 o37
            refine lv_iinc (v := z42) (lv' := [(6, .int z42), (7, .int p2), (0, .ref h), (1, .int p1), (2, .int p2), (3, .int p3), (4, .int p4), (5, .int p5)]) hx hb dX12_feed_99 hl (k := 7) rfl (iincp ez42 rg_6) (Nat.le_of_ble_eq_true rfl) rfl (fun ls hl => ?_)
            refine lv_goto (tgt := 18) hx hb dX12_feed_102 rfl ?_
            have o38 : (20 - z42.toInt).toNat < n18 := by omega
            have o39 : 0 ≤ z42.toInt := by omega
            have o40 : (τ40.1 2).toInt ≤ 980 := by omega
            exact ih18 τ40 z42 _ _ _ (show (20 - z42.toInt).toNat < n18 from o38) hIτ40 Xτ40 (show 0 ≤ z42.toInt from o39) (show (τ40.1 2).toInt ≤ 980 from o40) hP hD hS (lv_sub hl [2, 3, 4, 5, 6, 7, 0] rfl)
        · have tc3 := (show kv.toInt < 4 from ti_nle rg_32 rfl c3)
          refine lv_iload_n hx hb dX12_feed_31 rfl (lv_at hl 1 rfl) ?_
          refine lv_goto (tgt := 71) hx hb dX12_feed_32 rfl ?_
          refine lv_istore (lv' := [(7, .int p1), (0, .ref h), (1, .int p1), (2, .int p2), (3, .int p3), (4, .int p4), (5, .int p5), (6, .int kv)]) hx hb dX12_feed_71 hl (Nat.le_of_ble_eq_true rfl) rfl (fun ls hl => ?_)
          refine lv_aload_n hx hb dX12_feed_73 rfl (lv_at hl 1 rfl) ?_
          refine va_get (D := (dC, dI)) (ci := 12) (v := .ref (ad 0)) (C := RX12) (T := TX12) (N := 59) hx hb hts hin12 hown hK hP 0 rfl rfl 0 (Nat.le_of_ble_eq_true rfl) (ho (.fieldLink RX12 7 "NearEnoughModel" "tape" "[B") (List.mem_of_getElem? (i := 1) rfl)) (fun _ h9 => h9) rfl dX12_feed_74 ?_
          refine lv_aload_n hx hb dX12_feed_77 rfl (lv_at hl 1 rfl) ?_
          refine va_get (D := (dC, dI)) (ci := 12) (v := .int (τ.1 2)) (C := RX12) (T := TX12) (N := 59) hx hb hts hin12 hown hK hP 0 rfl rfl 2 (Nat.le_of_ble_eq_true rfl) (ho (.fieldLink RX12 237 "NearEnoughModel" "taped" "I") (List.mem_of_getElem? (i := 0) rfl)) (fun _ h9 => h9) rfl dX12_feed_78 ?_
          have bτ_2 : 0 ≤ (τ.1 2).toInt ∧ (τ.1 2).toInt ≤ 1000 := hIτ.1 2
          refine lv_iload hx hb dX12_feed_81 (lv_at hl 7 rfl) ?_
          refine lv_iadd hx hb dX12_feed_83 ?_
          refine lv_topi (fun z43 ez43 => ?_)
          have o41 : -2147483648 ≤ (τ.1 2).toInt + kv.toInt := by omega
          have o42 : (τ.1 2).toInt + kv.toInt ≤ 2147483647 := by omega
          have tz43 : z43.toInt = (τ.1 2).toInt + kv.toInt := ti_add ez43 rfl rfl o41 o42
          refine lv_iload hx hb dX12_feed_84 (lv_at hl 0 rfl) ?_
          refine lv_bipush (v := 24) hx hb dX12_feed_86 rg_65 ?_
          refine lv_bipush (v := 8) hx hb dX12_feed_88 rg_23 ?_
          refine lv_iload hx hb dX12_feed_90 (lv_at hl 7 rfl) ?_
          refine lv_iconst (v := 3) hx hb dX12_feed_92 rg_16 ?_
          refine lv_iand hx hb dX12_feed_93 ?_
          refine lv_topi (fun z44 ez44 => ?_)
          refine lv_imul hx hb dX12_feed_94 ?_
          refine lv_topi (fun z45 ez45 => ?_)
          refine lv_isub hx hb dX12_feed_95 ?_
          refine lv_topi (fun z46 ez46 => ?_)
          refine lv_ishr hx hb dX12_feed_96 ?_
          refine lv_topi (fun z47 ez47 => ?_)
          refine lv_i2b hx hb dX12_feed_97 rfl ?_
          refine lv_topi (fun z48 ez48 => ?_)
          have o43 : 0 ≤ z43.toInt := by omega
          have o44 : z43.toInt < ((1020 : Nat) : Int) := by omega
          refine va_bast hx hb hK hP hD hS 1 0 rfl rfl (ti_inx o43 o44) dX12_feed_98 (fun H locs hP hD hS => ?_)
          rw [wS0] at hP hD
          obtain ⟨τ49, eτ49⟩ : ∃ x9 : MS, x9 = sA τ 0 (upd (τ.2.1 0) (Int32.toNatClampNeg z43) (vp_nar .byte z48)) := ⟨_, rfl⟩
          have hP : va_P (dC, dI) vwCl (mW h ad cl τ49) H := by rw [eτ49]; exact hP
          have hD : va_D A (mW h ad cl τ49) := by rw [eτ49]; exact hD
          have hIτ49 : Inv τ49 := by rw [eτ49]; exact (Inv_sA1 hIτ (fun j _ => Inv.any _))
          have Xτ49 : eqx [0, 2] τ49 σ := (eqx.eq eτ49 (eqx.sA hxτ rg_66))
          have qq50 : (τ49.1 2).toInt = ((τ.1 2) : Int32).toInt := congrArg Int32.toInt ((show τ49.1 2 = (τ.1 2) from (congrArg (fun x9 : MS => x9.1 2) eτ49).trans rfl))
          obtain ⟨z51, ez51⟩ : ∃ y : Int32, y = kv + 1 := ⟨_, rfl⟩
          have o45 : -2147483648 ≤ kv.toInt + 1 := by omega
          have o46 : kv.toInt + 1 ≤ 2147483647 := by omega
          have tz51 := ti_add ez51 rfl rg_18 o45 o46
          refine lv_iinc (v := z51) (lv' := [(6, .int z51), (7, .int p1), (0, .ref h), (1, .int p1), (2, .int p2), (3, .int p3), (4, .int p4), (5, .int p5)]) hx hb dX12_feed_99 hl (k := 7) rfl (iincp ez51 rg_6) (Nat.le_of_ble_eq_true rfl) rfl (fun ls hl => ?_)
          refine lv_goto (tgt := 18) hx hb dX12_feed_102 rfl ?_
          have o47 : (20 - z51.toInt).toNat < n18 := by omega
          have o48 : 0 ≤ z51.toInt := by omega
          have o49 : (τ49.1 2).toInt ≤ 980 := by omega
          exact ih18 τ49 z51 _ _ _ (show (20 - z51.toInt).toNat < n18 from o47) hIτ49 Xτ49 (show 0 ≤ z51.toInt from o48) (show (τ49.1 2).toInt ≤ 980 from o49) hP hD hS (lv_sub hl [2, 3, 4, 5, 6, 7, 0] rfl)
  refine zH (A := A) (ws := mW h ad cl σ) (fun H hP hS => ?_) hP
  have bσ_2 : 0 ≤ (σ.1 2).toInt ∧ (σ.1 2).toInt ≤ 1000 := hI.1 2
  refine lv_aload_n hx hb dX12_feed_0 rfl (lv_at hl 0 rfl) ?_
  refine va_get (D := (dC, dI)) (ci := 12) (v := .int (σ.1 2)) (C := RX12) (T := TX12) (N := 59) hx hb hts hin12 hown hK hP 0 rfl rfl 2 (Nat.le_of_ble_eq_true rfl) (ho (.fieldLink RX12 237 "NearEnoughModel" "taped" "I") (List.mem_of_getElem? (i := 0) rfl)) (fun _ h9 => h9) rfl dX12_feed_1 ?_
  have bσ_2 : 0 ≤ (σ.1 2).toInt ∧ (σ.1 2).toInt ≤ 1000 := hI.1 2
  refine lv_bipush (v := 20) hx hb dX12_feed_4 rg_60 ?_
  refine lv_iadd hx hb dX12_feed_6 ?_
  refine lv_topi (fun z52 ez52 => ?_)
  have o50 : -2147483648 ≤ (σ.1 2).toInt + 20 := by omega
  have o51 : (σ.1 2).toInt + 20 ≤ 2147483647 := by omega
  have tz52 : z52.toInt = (σ.1 2).toInt + 20 := ti_add ez52 rfl rg_61 o50 o51
  refine lv_sipush (v := 1000) hx hb dX12_feed_7 rg_67 ?_
  refine lv_icmp_le (tgt := 15) hx hb dX12_feed_10 rfl (fun c53 => ?_) (fun c53 => ?_)
  · have tc53 := (show z52.toInt ≤ 1000 from ti_le rfl rg_68 c53)
    refine lv_iconst (v := 0) hx hb dX12_feed_15 rg_0 ?_
    refine lv_istore (lv' := [(6, .int 0), (0, .ref h), (1, .int p1), (2, .int p2), (3, .int p3), (4, .int p4), (5, .int p5)]) hx hb dX12_feed_16 hl (Nat.le_of_ble_eq_true rfl) rfl (fun ls hl => ?_)
    have o52 : (σ.1 2).toInt ≤ 980 := by omega
    exact pt_18 _ σ 0 _ _ _ (Nat.lt_succ_self _) hI eqx.rf rg_56 (show (σ.1 2).toInt ≤ 980 from o52) hP hD hS (lv_sub hl [1, 2, 3, 4, 5, 6, 0] rfl)
  · have tc53 := (show 1000 < z52.toInt from ti_nle rfl rg_68 c53)
    refine lv_iconst (v := (-1)) hx hb dX12_feed_13 rg_53 ?_
    rw [hQ]
    exact W.iret (v := (-1)) hx hb hr (fun t ht hW => ⟨⟨(-1), σ, rfl, ⟨hI, eqx.rf⟩, wEn_of hP (hK.sub [] rfl) hD ht hW⟩, hS.F ht⟩) hS.2.2 dX12_feed_14
