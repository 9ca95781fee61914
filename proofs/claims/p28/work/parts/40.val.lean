theorem dX12_floorOver_0 : decode cX12_floorOver 0 = .ok (.lload_n 0, 1) := by decide +kernel
theorem dX12_floorOver_1 : decode cX12_floorOver 1 = .ok (.lload_n 2, 1) := by decide +kernel
theorem dX12_floorOver_2 : decode cX12_floorOver 2 = .ok (.ldiv, 1) := by decide +kernel
theorem dX12_floorOver_3 : decode cX12_floorOver 3 = .ok (.lstore 4, 2) := by decide +kernel
theorem dX12_floorOver_5 : decode cX12_floorOver 5 = .ok (.lload_n 0, 1) := by decide +kernel
theorem dX12_floorOver_6 : decode cX12_floorOver 6 = .ok (.lload_n 2, 1) := by decide +kernel
theorem dX12_floorOver_7 : decode cX12_floorOver 7 = .ok (.lrem, 1) := by decide +kernel
theorem dX12_floorOver_8 : decode cX12_floorOver 8 = .ok (.lconst 0, 1) := by decide +kernel
theorem dX12_floorOver_9 : decode cX12_floorOver 9 = .ok (.lcmp, 1) := by decide +kernel
theorem dX12_floorOver_10 : decode cX12_floorOver 10 = .ok (.ifCond .eq 35, 3) := by decide +kernel
theorem dX12_floorOver_45 : decode cX12_floorOver 45 = .ok (.lload 4, 2) := by decide +kernel
theorem dX12_floorOver_47 : decode cX12_floorOver 47 = .ok (.lreturn, 1) := by decide +kernel
theorem dX12_floorOver_13 : decode cX12_floorOver 13 = .ok (.lload_n 0, 1) := by decide +kernel
theorem dX12_floorOver_14 : decode cX12_floorOver 14 = .ok (.lconst 0, 1) := by decide +kernel
theorem dX12_floorOver_15 : decode cX12_floorOver 15 = .ok (.lcmp, 1) := by decide +kernel
theorem dX12_floorOver_16 : decode cX12_floorOver 16 = .ok (.ifCond .ge 7, 3) := by decide +kernel
theorem dX12_floorOver_23 : decode cX12_floorOver 23 = .ok (.iconst 0, 1) := by decide +kernel
theorem dX12_floorOver_24 : decode cX12_floorOver 24 = .ok (.lload_n 2, 1) := by decide +kernel
theorem dX12_floorOver_25 : decode cX12_floorOver 25 = .ok (.lconst 0, 1) := by decide +kernel
theorem dX12_floorOver_26 : decode cX12_floorOver 26 = .ok (.lcmp, 1) := by decide +kernel
theorem dX12_floorOver_27 : decode cX12_floorOver 27 = .ok (.ifCond .ge 7, 3) := by decide +kernel
theorem dX12_floorOver_34 : decode cX12_floorOver 34 = .ok (.iconst 0, 1) := by decide +kernel
theorem dX12_floorOver_35 : decode cX12_floorOver 35 = .ok (.if_icmp .eq 10, 3) := by decide +kernel
theorem dX12_floorOver_30 : decode cX12_floorOver 30 = .ok (.iconst 1, 1) := by decide +kernel
theorem dX12_floorOver_31 : decode cX12_floorOver 31 = .ok (.goto 4, 3) := by decide +kernel
theorem dX12_floorOver_38 : decode cX12_floorOver 38 = .ok (.lload 4, 2) := by decide +kernel
theorem dX12_floorOver_40 : decode cX12_floorOver 40 = .ok (.lconst 1, 1) := by decide +kernel
theorem dX12_floorOver_41 : decode cX12_floorOver 41 = .ok (.lsub, 1) := by decide +kernel
theorem dX12_floorOver_42 : decode cX12_floorOver 42 = .ok (.goto 5, 3) := by decide +kernel
theorem dX12_floorOver_19 : decode cX12_floorOver 19 = .ok (.iconst 1, 1) := by decide +kernel
theorem dX12_floorOver_20 : decode cX12_floorOver 20 = .ok (.goto 4, 3) := by decide +kernel
theorem dX12_coarse_0 : decode cX12_coarse 0 = .ok (.iload_n 0, 1) := by decide +kernel
theorem dX12_coarse_1 : decode cX12_coarse 1 = .ok (.i2l, 1) := by decide +kernel
theorem dX12_coarse_2 : decode cX12_coarse 2 = .ok (.iload_n 1, 1) := by decide +kernel
theorem dX12_coarse_3 : decode cX12_coarse 3 = .ok (.i2l, 1) := by decide +kernel
theorem dX12_coarse_4 : decode cX12_coarse 4 = .ok (.invokestatic 337, 3) := by decide +kernel
theorem dX12_coarse_7 : decode cX12_coarse 7 = .ok (.l2i, 1) := by decide +kernel
theorem dX12_coarse_8 : decode cX12_coarse 8 = .ok (.iload_n 1, 1) := by decide +kernel
theorem dX12_coarse_9 : decode cX12_coarse 9 = .ok (.imul, 1) := by decide +kernel
theorem dX12_coarse_10 : decode cX12_coarse 10 = .ok (.ireturn, 1) := by decide +kernel
theorem dX12_isOn_0 : decode cX12_isOn 0 = .ok (.iload_n 1, 1) := by decide +kernel
theorem dX12_isOn_1 : decode cX12_isOn 1 = .ok (.ifCond .lt 17, 3) := by decide +kernel
theorem dX12_isOn_18 : decode cX12_isOn 18 = .ok (.iconst 0, 1) := by decide +kernel
theorem dX12_isOn_19 : decode cX12_isOn 19 = .ok (.ireturn, 1) := by decide +kernel
theorem dX12_isOn_4 : decode cX12_isOn 4 = .ok (.aload_n 0, 1) := by decide +kernel
theorem dX12_isOn_5 : decode cX12_isOn 5 = .ok (.getfield 85, 3) := by decide +kernel
theorem dX12_isOn_8 : decode cX12_isOn 8 = .ok (.iload_n 1, 1) := by decide +kernel
theorem dX12_isOn_9 : decode cX12_isOn 9 = .ok (.iaload, 1) := by decide +kernel
theorem dX12_isOn_10 : decode cX12_isOn 10 = .ok (.iload_n 2, 1) := by decide +kernel
theorem dX12_isOn_11 : decode cX12_isOn 11 = .ok (.if_icmp .ne 7, 3) := by decide +kernel
theorem dX12_isOn_14 : decode cX12_isOn 14 = .ok (.iconst 1, 1) := by decide +kernel
theorem dX12_isOn_15 : decode cX12_isOn 15 = .ok (.goto 4, 3) := by decide +kernel
theorem dX12_numberAt_0 : decode cX12_numberAt 0 = .ok (.aload_n 1, 1) := by decide +kernel
theorem dX12_numberAt_1 : decode cX12_numberAt 1 = .ok (.iload_n 2, 1) := by decide +kernel
theorem dX12_numberAt_2 : decode cX12_numberAt 2 = .ok (.bipush 6, 2) := by decide +kernel
theorem dX12_numberAt_4 : decode cX12_numberAt 4 = .ok (.iload_n 3, 1) := by decide +kernel
theorem dX12_numberAt_5 : decode cX12_numberAt 5 = .ok (.imul, 1) := by decide +kernel
theorem dX12_numberAt_6 : decode cX12_numberAt 6 = .ok (.iadd, 1) := by decide +kernel
theorem dX12_numberAt_7 : decode cX12_numberAt 7 = .ok (.iload 4, 2) := by decide +kernel
theorem dX12_numberAt_9 : decode cX12_numberAt 9 = .ok (.iadd, 1) := by decide +kernel
theorem dX12_numberAt_10 : decode cX12_numberAt 10 = .ok (.iaload, 1) := by decide +kernel
theorem dX12_numberAt_11 : decode cX12_numberAt 11 = .ok (.ireturn, 1) := by decide +kernel
theorem dX12_baseOf_0 : decode cX12_baseOf 0 = .ok (.aload_n 0, 1) := by decide +kernel
theorem dX12_baseOf_1 : decode cX12_baseOf 1 = .ok (.iload_n 3, 1) := by decide +kernel
theorem dX12_baseOf_2 : decode cX12_baseOf 2 = .ok (.bipush 6, 2) := by decide +kernel
theorem dX12_baseOf_4 : decode cX12_baseOf 4 = .ok (.invokevirtual 340, 3) := by decide +kernel
theorem dX12_baseOf_7 : decode cX12_baseOf 7 = .ok (.ifCond .eq 22, 3) := by decide +kernel
theorem dX12_baseOf_29 : decode cX12_baseOf 29 = .ok (.iload_n 2, 1) := by decide +kernel
theorem dX12_baseOf_30 : decode cX12_baseOf 30 = .ok (.ireturn, 1) := by decide +kernel
theorem dX12_baseOf_10 : decode cX12_baseOf 10 = .ok (.aload_n 1, 1) := by decide +kernel
theorem dX12_baseOf_11 : decode cX12_baseOf 11 = .ok (.aload_n 0, 1) := by decide +kernel
theorem dX12_baseOf_12 : decode cX12_baseOf 12 = .ok (.getfield 76, 3) := by decide +kernel
theorem dX12_baseOf_15 : decode cX12_baseOf 15 = .ok (.if_acmp .ne 14, 3) := by decide +kernel
theorem dX12_baseOf_18 : decode cX12_baseOf 18 = .ok (.iload_n 2, 1) := by decide +kernel
theorem dX12_baseOf_19 : decode cX12_baseOf 19 = .ok (.ifCond .le 10, 3) := by decide +kernel
theorem dX12_baseOf_22 : decode cX12_baseOf 22 = .ok (.iload_n 2, 1) := by decide +kernel
theorem dX12_baseOf_23 : decode cX12_baseOf 23 = .ok (.bipush 12, 2) := by decide +kernel
theorem dX12_baseOf_25 : decode cX12_baseOf 25 = .ok (.isub, 1) := by decide +kernel
theorem dX12_baseOf_26 : decode cX12_baseOf 26 = .ok (.goto 4, 3) := by decide +kernel

def ow_n_floorOver : List Cond := []
def vs_n_floorOver : List Cond := .code yX12_floorOver cX12_floorOver 6 (some .long) :: (ow_n_floorOver)
theorem vg_n_floorOver : vs_n_floorOver.all goodWord = true := by decide +kernel
theorem dd_n_floorOver : yX12_floorOver.cls ≠ "java/lang/invoke/MethodHandle" ∧ yX12_floorOver.cls ≠ "java/lang/invoke/VarHandle" ∧ (parseMethodDescriptor yX12_floorOver.desc).map (fun d => d.parameters.length) = some 2 := by decide +kernel
def rm_n_floorOver : Room := { frames := 0, cells := 0, slots := 0, locals := 0 }
set_option maxHeartbeats 4000000 in
set_option maxRecDepth 100000 in
theorem n_floorOver (l : Launch) (dC : Nat → ClassId) (dI : Nat → Nat → Nat) (x : Int64) (y : Int64) (hy : ¬ y = 0) (sz : Nat) : Met l yX12_floorOver vs_n_floorOver rm_n_floorOver (va_Pc [.long x, .long y] (wSt dC dI [] [] sz)) (va_Ql (fun (r : Int64) (_ : Unit) => r = FO x y) (fun (_ : Unit) => wEn dC dI (va_A [] sz) [] []) (va_A ([]) sz)) 0 0 (va_A ([]) sz) := by
  refine Met.ofW (cc := cX12_floorOver) (maxL := 6) (ret := (some .long)) (by decide) rfl ?_
  intro p e s m args below meth c s₁ B hml hv
  obtain ⟨rfl, hsz, hP, hK, hD0, hE⟩ := hv
  have hx := B.exec
  have hb := B.bytes
  have hr := B.returns
  have hts := atoms_spec (ws := vs_n_floorOver) B.pre
  have hown : s.vm.findClass RX12 = some m.cls := findClass_of_methodNamed B.named
  have hlocks := B.notSynchronized
  subst hsz
  have hD := hD0.self (sz := s.heap.size)
  generalize hAe : va_A ([]) s.heap.size = A at hD ⊢
  have hA : ∀ q : Nat, s.heap.size ≤ q → A q := fun q h => by rw [← hAe]; exact Or.inr h
  have hl := lv_entry ([.long x, .long y]) (n := 6) (Nat.le_of_ble_eq_true rfl)
  rw [lg_entry_eq]
  generalize (lg_sl ([.long x, .long y]) ++ List.replicate (6 - (lg_sl ([.long x, .long y])).length) Slot.unset).toArray = ls at hl ⊢
  have hl : lv_has ls 6 [(0, .long x), (2, .long y)] := hl
  have ho := fun w (h : w ∈ ow_n_floorOver) => hts w (List.mem_cons_of_mem _ h)
  refine zQ (fun Q hQ => ?_)
  refine zH (A := A) (ws := []) (fun H hP hS => ?_) hP
  refine lv_lload_n hx hb dX12_floorOver_0 rfl (lv_at hl 0 rfl) ?_
  refine lv_lload_n hx hb dX12_floorOver_1 rfl (lv_at hl 1 rfl) ?_
  refine lv_ldiv hx hb dX12_floorOver_2 hy ?_
  refine lv_topl (fun y1_ ey1_ => ?_)
  refine lv_lstore (lv' := [(4, .long y1_), (0, .long x), (2, .long y)]) hx hb dX12_floorOver_3 hl (Nat.le_of_ble_eq_true rfl) rfl (fun ls hl => ?_)
  refine lv_lload_n hx hb dX12_floorOver_5 rfl (lv_at hl 1 rfl) ?_
  refine lv_lload_n hx hb dX12_floorOver_6 rfl (lv_at hl 2 rfl) ?_
  refine lv_lrem hx hb dX12_floorOver_7 hy ?_
  refine lv_topl (fun y2_ ey2_ => ?_)
  refine lv_lconst (v := 0) hx hb dX12_floorOver_8 (by decide) ?_
  refine W.lcmp hx hb dX12_floorOver_9 ?_
  refine lv_topi (fun z3_ ez3_ => ?_)
  refine lv_if_eq (tgt := 45) hx hb dX12_floorOver_10 rfl (fun c4_ => ?_) (fun c4_ => ?_)
  · have tc4_ := (show z3_.toInt = 0 from ti_eq rfl rg_11 c4_)
    have lc4_ : y2_ = 0 := (lg_cmp_eq y2_ 0).mp (by rw [← ez3_]; exact c4_)
    refine lv_lload hx hb dX12_floorOver_45 (lv_at hl 0 rfl) ?_
    rw [hQ]
    exact W.lret (v := y1_) hx hb hr (fun t ht hW => ⟨⟨y1_, (), rfl, (by unfold FO; rw [← ey2_]; rw [if_pos lc4_]; exact ey1_), wEn_of empP (hK.sub [] rfl) empD ht hW⟩, hS.F ht⟩) hS.2.2 dX12_floorOver_47
  · have tc4_ := (show z3_.toInt ≠ 0 from ti_ne rfl rg_11 c4_)
    have lc4_ : ¬ y2_ = 0 := fun h => c4_ (by rw [ez3_]; exact (lg_cmp_eq y2_ 0).mpr h)
    refine lv_lload_n hx hb dX12_floorOver_13 rfl (lv_at hl 1 rfl) ?_
    refine lv_lconst (v := 0) hx hb dX12_floorOver_14 (by decide) ?_
    refine W.lcmp hx hb dX12_floorOver_15 ?_
    refine lv_topi (fun z5_ ez5_ => ?_)
    refine lv_if_ge (tgt := 23) hx hb dX12_floorOver_16 rfl (fun c6_ => ?_) (fun c6_ => ?_)
    · have tc6_ := (show 0 ≤ z5_.toInt from ti_le rg_11 rfl c6_)
      have lc6_ : (0 : Int64) ≤ x := (lg_cmp_ge x 0).mp (by rw [← ez5_]; exact c6_)
      refine lv_iconst (v := 0) hx hb dX12_floorOver_23 rg_0 ?_
      refine lv_lload_n hx hb dX12_floorOver_24 rfl (lv_at hl 2 rfl) ?_
      refine lv_lconst (v := 0) hx hb dX12_floorOver_25 (by decide) ?_
      refine W.lcmp hx hb dX12_floorOver_26 ?_
      refine lv_topi (fun z7_ ez7_ => ?_)
      refine lv_if_ge (tgt := 34) hx hb dX12_floorOver_27 rfl (fun c8_ => ?_) (fun c8_ => ?_)
      · have tc8_ := (show 0 ≤ z7_.toInt from ti_le rg_11 rfl c8_)
        have lc8_ : (0 : Int64) ≤ y := (lg_cmp_ge y 0).mp (by rw [← ez7_]; exact c8_)
        refine lv_iconst (v := 0) hx hb dX12_floorOver_34 rg_0 ?_
        refine lv_icmp_eq (tgt := 45) hx hb dX12_floorOver_35 rfl (fun _ => ?_) (fun cc => absurd (by decide) cc)
        refine lv_lload hx hb dX12_floorOver_45 (lv_at hl 0 rfl) ?_
        rw [hQ]
        exact W.lret (v := y1_) hx hb hr (fun t ht hW => ⟨⟨y1_, (), rfl, (by unfold FO; rw [← ey2_]; rw [if_neg lc4_, if_pos lc6_, if_pos lc8_]; exact ey1_), wEn_of empP (hK.sub [] rfl) empD ht hW⟩, hS.F ht⟩) hS.2.2 dX12_floorOver_47
      · have tc8_ := (show z7_.toInt < 0 from ti_nle rg_11 rfl c8_)
        have lc8_ : ¬ (0 : Int64) ≤ y := fun h => c8_ (by rw [ez7_]; exact (lg_cmp_ge y 0).mpr h)
        refine lv_iconst (v := 1) hx hb dX12_floorOver_30 rg_6 ?_
        refine lv_goto (tgt := 35) hx hb dX12_floorOver_31 rfl ?_
        refine lv_icmp_eq (tgt := 45) hx hb dX12_floorOver_35 rfl (fun cc => absurd cc (by decide)) (fun _ => ?_)
        refine lv_lload hx hb dX12_floorOver_38 (lv_at hl 0 rfl) ?_
        refine lv_lconst (v := 1) hx hb dX12_floorOver_40 (by decide) ?_
        refine lv_lsub hx hb dX12_floorOver_41 ?_
        refine lv_topl (fun y9_ ey9_ => ?_)
        refine lv_goto (tgt := 47) hx hb dX12_floorOver_42 rfl ?_
        rw [hQ]
        exact W.lret (v := y9_) hx hb hr (fun t ht hW => ⟨⟨y9_, (), rfl, (by unfold FO; rw [← ey2_]; rw [if_neg lc4_, if_pos lc6_, if_neg lc8_]; rw [ey9_, ey1_]), wEn_of empP (hK.sub [] rfl) empD ht hW⟩, hS.F ht⟩) hS.2.2 dX12_floorOver_47
    · have tc6_ := (show z5_.toInt < 0 from ti_nle rg_11 rfl c6_)
      have lc6_ : ¬ (0 : Int64) ≤ x := fun h => c6_ (by rw [ez5_]; exact (lg_cmp_ge x 0).mpr h)
      refine lv_iconst (v := 1) hx hb dX12_floorOver_19 rg_6 ?_
      refine lv_goto (tgt := 24) hx hb dX12_floorOver_20 rfl ?_
      refine lv_lload_n hx hb dX12_floorOver_24 rfl (lv_at hl 2 rfl) ?_
      refine lv_lconst (v := 0) hx hb dX12_floorOver_25 (by decide) ?_
      refine W.lcmp hx hb dX12_floorOver_26 ?_
      refine lv_topi (fun z10_ ez10_ => ?_)
      refine lv_if_ge (tgt := 34) hx hb dX12_floorOver_27 rfl (fun c11_ => ?_) (fun c11_ => ?_)
      · have tc11_ := (show 0 ≤ z10_.toInt from ti_le rg_11 rfl c11_)
        have lc11_ : (0 : Int64) ≤ y := (lg_cmp_ge y 0).mp (by rw [← ez10_]; exact c11_)
        refine lv_iconst (v := 0) hx hb dX12_floorOver_34 rg_0 ?_
        refine lv_icmp_eq (tgt := 45) hx hb dX12_floorOver_35 rfl (fun cc => absurd cc (by decide)) (fun _ => ?_)
        refine lv_lload hx hb dX12_floorOver_38 (lv_at hl 0 rfl) ?_
        refine lv_lconst (v := 1) hx hb dX12_floorOver_40 (by decide) ?_
        refine lv_lsub hx hb dX12_floorOver_41 ?_
        refine lv_topl (fun y12_ ey12_ => ?_)
        refine lv_goto (tgt := 47) hx hb dX12_floorOver_42 rfl ?_
        rw [hQ]
        exact W.lret (v := y12_) hx hb hr (fun t ht hW => ⟨⟨y12_, (), rfl, (by unfold FO; rw [← ey2_]; rw [if_neg lc4_, if_neg lc6_, if_pos lc11_]; rw [ey12_, ey1_]), wEn_of empP (hK.sub [] rfl) empD ht hW⟩, hS.F ht⟩) hS.2.2 dX12_floorOver_47
      · have tc11_ := (show z10_.toInt < 0 from ti_nle rg_11 rfl c11_)
        have lc11_ : ¬ (0 : Int64) ≤ y := fun h => c11_ (by rw [ez10_]; exact (lg_cmp_ge y 0).mpr h)
        refine lv_iconst (v := 1) hx hb dX12_floorOver_30 rg_6 ?_
        refine lv_goto (tgt := 35) hx hb dX12_floorOver_31 rfl ?_
        refine lv_icmp_eq (tgt := 45) hx hb dX12_floorOver_35 rfl (fun _ => ?_) (fun cc => absurd (by decide) cc)
        refine lv_lload hx hb dX12_floorOver_45 (lv_at hl 0 rfl) ?_
        rw [hQ]
        exact W.lret (v := y1_) hx hb hr (fun t ht hW => ⟨⟨y1_, (), rfl, (by unfold FO; rw [← ey2_]; rw [if_neg lc4_, if_neg lc6_, if_neg lc11_]; exact ey1_), wEn_of empP (hK.sub [] rfl) empD ht hW⟩, hS.F ht⟩) hS.2.2 dX12_floorOver_47
def ow_n_coarse : List Cond := []
def vs_n_coarse : List Cond := .code yX12_coarse cX12_coarse 2 (some .int) :: (ow_n_coarse ++ (([.methodLink RX12 337 yX12_floorOver, .static yX12_floorOver, .initialized yX12_floorOver.cls] : List Cond) ++ (vs_n_floorOver)))
theorem vg_n_coarse : vs_n_coarse.all goodWord = true := by decide +kernel
theorem dd_n_coarse : yX12_coarse.cls ≠ "java/lang/invoke/MethodHandle" ∧ yX12_coarse.cls ≠ "java/lang/invoke/VarHandle" ∧ (parseMethodDescriptor yX12_coarse.desc).map (fun d => d.parameters.length) = some 2 := by decide +kernel
def rm_n_coarse : Room := { frames := 1, cells := 0, slots := 0, locals := 25 }
theorem gd_n_coarse_337_n_floorOver : GoodIn vs_n_coarse (va_wsS RX12 337 yX12_floorOver vs_n_floorOver) := goodIn_app (goodIn_sub (fun w h => (List.mem_cons_of_mem _ (List.mem_append_right _ (List.mem_append_left _ h)))) (by decide +kernel)) (goodIn_sub (fun w h => (List.mem_cons_of_mem _ (List.mem_append_right _ (List.mem_append_right _ h)))) vg_n_floorOver)
set_option maxHeartbeats 4000000 in
set_option maxRecDepth 100000 in
theorem n_coarse (l : Launch) (dC : Nat → ClassId) (dI : Nat → Nat → Nat) (x : Int32) (y : Int32) (hy : y.toInt ≠ 0) (sz : Nat) : Met l yX12_coarse vs_n_coarse rm_n_coarse (va_Pc [.int x, .int y] (wSt dC dI [] [] sz)) (va_Qi (fun (r : Int32) (_ : Unit) => r = CO x y) (fun (_ : Unit) => wEn dC dI (va_A [] sz) [] []) (va_A ([]) sz)) 0 0 (va_A ([]) sz) := by
  refine Met.ofW (cc := cX12_coarse) (maxL := 2) (ret := (some .int)) (by decide) rfl ?_
  intro p e s m args below meth c s₁ B hml hv
  obtain ⟨rfl, hsz, hP, hK, hD0, hE⟩ := hv
  have hx := B.exec
  have hb := B.bytes
  have hr := B.returns
  have hts := atoms_spec (ws := vs_n_coarse) B.pre
  have hown : s.vm.findClass RX12 = some m.cls := findClass_of_methodNamed B.named
  have hlocks := B.notSynchronized
  subst hsz
  have hD := hD0.self (sz := s.heap.size)
  generalize hAe : va_A ([]) s.heap.size = A at hD ⊢
  have hA : ∀ q : Nat, s.heap.size ≤ q → A q := fun q h => by rw [← hAe]; exact Or.inr h
  have hl := lv_entry ([.int x, .int y]) (n := 2) (Nat.le_of_ble_eq_true rfl)
  rw [lg_entry_eq]
  generalize (lg_sl ([.int x, .int y]) ++ List.replicate (2 - (lg_sl ([.int x, .int y])).length) Slot.unset).toArray = ls at hl ⊢
  have hl : lv_has ls 2 [(0, .int x), (1, .int y)] := hl
  have ho := fun w (h : w ∈ ow_n_coarse) => hts w (List.mem_cons_of_mem _ (List.mem_append_left _ h))
  refine zQ (fun Q hQ => ?_)
  refine zH (A := A) (ws := []) (fun H hP hS => ?_) hP
  refine lv_iload_n hx hb dX12_coarse_0 rfl (lv_at hl 0 rfl) ?_
  refine lv_i2l hx hb dX12_coarse_1 rfl ?_
  refine lv_topl (fun y1_ ey1_ => ?_)
  refine lv_iload_n hx hb dX12_coarse_2 rfl (lv_at hl 1 rfl) ?_
  refine lv_i2l hx hb dX12_coarse_3 rfl ?_
  refine lv_topl (fun y2_ ey2_ => ?_)
  refine zs_l (va_runS (As := [.long y1_, .long y2_]) (rest := []) ⟨hx, hb, hml, hown, hts⟩ (n_floorOver l dC dI y1_ y2_ (i2l_ne ey2_ hy) H.size) (va_cwS 2 hts gd_n_coarse_337_n_floorOver rfl rfl rfl dd_n_floorOver ⟨Nat.le_of_ble_eq_true rfl, Nat.le_of_ble_eq_true rfl⟩) (preS (A := A) empP (hK.sub (tys' := []) [] rfl) empD hE) rfl rfl hl.1 rfl (lv_room (Nat.le_of_ble_eq_true rfl)) dX12_coarse_4 ⟨Nat.le_of_ble_eq_true rfl, Nat.le_of_ble_eq_true rfl⟩) hP hD hS hA (fun y3_ H locs hq hP hD hS => ?_)
  have f4_ := hq
  refine W.widen (k := 0) (n := 0) (Nat.le_of_ble_eq_true rfl) (Nat.le_of_ble_eq_true rfl) ?_
  refine lv_l2i hx hb dX12_coarse_7 rfl ?_
  refine lv_topi (fun z5_ ez5_ => ?_)
  refine lv_iload_n hx hb dX12_coarse_8 rfl (lv_at hl 1 rfl) ?_
  refine lv_imul hx hb dX12_coarse_9 ?_
  refine lv_topi (fun z6_ ez6_ => ?_)
  rw [hQ]
  exact W.iret (v := z6_) hx hb hr (fun t ht hW => ⟨⟨z6_, (), rfl, (by simp only [CO, ey1_, ey2_, f4_, ez5_, ez6_]), wEn_of empP (hK.sub [] rfl) empD ht hW⟩, hS.F ht⟩) hS.2.2 dX12_coarse_10
def ow_n_isOn : List Cond := [.fieldLink RX12 85 "NearEnoughModel" "cKind" "[I"]
def vs_n_isOn : List Cond := .code yX12_isOn cX12_isOn 3 (some .boolean) :: (ow_n_isOn ++ (wsX120))
theorem vg_n_isOn : vs_n_isOn.all goodWord = true := by decide +kernel
theorem dd_n_isOn : yX12_isOn.cls = RX12 ∧ yX12_isOn.cls ≠ "java/lang/invoke/MethodHandle" ∧ yX12_isOn.cls ≠ "java/lang/invoke/VarHandle" ∧ (parseMethodDescriptor yX12_isOn.desc).map (fun d => d.parameters.length) = some 2 := by decide +kernel
def rm_n_isOn : Room := { frames := 0, cells := 0, slots := 0, locals := 0 }
set_option maxHeartbeats 4000000 in
set_option maxRecDepth 100000 in
theorem n_isOn (l : Launch) (dC : Nat → ClassId) (dI : Nat → Nat → Nat) (h : Nat) (ad : Nat → Nat) (cl : Nat → ClassId) (sz : Nat) (σ : MS) (x : Int32) (y : Int32) (hI : Inv σ) (hc : -1 ≤ x.toInt ∧ x.toInt ≤ 11) : Met l yX12_isOn vs_n_isOn rm_n_isOn (va_Pc [.ref h, .int x, .int y] (wSt dC dI (mW h ad cl σ) (mT cl) sz)) (va_Qi (fun (r : Int32) (τ : MS) => σ = τ ∧ ((r.toInt = 1 ∧ 0 ≤ x.toInt ∧ (σ.2.1 34 x.toNatClampNeg).toInt = y.toInt) ∨ (r.toInt = 0 ∧ ¬ (0 ≤ x.toInt ∧ (σ.2.1 34 x.toNatClampNeg).toInt = y.toInt)))) (fun (τ : MS) => wEn dC dI (va_A (mW h ad cl σ) sz) (mW h ad cl τ) []) (va_A (mW h ad cl σ) sz)) 0 0 (va_A (mW h ad cl σ) sz) := by
  refine Met.ofW (cc := cX12_isOn) (maxL := 3) (ret := (some .boolean)) (by decide) rfl ?_
  intro p e s m args below meth c s₁ B hml hv
  obtain ⟨rfl, hsz, hP, hK, hD0, hE⟩ := hv
  have hx := B.exec
  have hb := B.bytes
  have hr := B.returns
  have hts := atoms_spec (ws := vs_n_isOn) B.pre
  have hown : s.vm.findClass RX12 = some m.cls := findClass_of_methodNamed B.named
  have hlocks := B.notSynchronized
  subst hsz
  have hD := hD0.self (sz := s.heap.size)
  generalize hAe : va_A (mW h ad cl σ) s.heap.size = A at hD ⊢
  have hA : ∀ q : Nat, s.heap.size ≤ q → A q := fun q h => by rw [← hAe]; exact Or.inr h
  have hl := lv_entry ([.ref h, .int x, .int y]) (n := 3) (Nat.le_of_ble_eq_true rfl)
  rw [lg_entry_eq]
  generalize (lg_sl ([.ref h, .int x, .int y]) ++ List.replicate (3 - (lg_sl ([.ref h, .int x, .int y])).length) Slot.unset).toArray = ls at hl ⊢
  have hl : lv_has ls 3 [(0, .ref h), (1, .int x), (2, .int y)] := hl
  have ho := fun w (h : w ∈ ow_n_isOn) => hts w (List.mem_cons_of_mem _ (List.mem_append_left _ h))
  have hin12 : ∀ w ∈ u_ws RX12 TX12 59, w ∈ vs_n_isOn := fun w h => (List.mem_cons_of_mem _ (List.mem_append_right _ h))
  refine zQ (fun Q hQ => ?_)
  refine zH (A := A) (ws := mW h ad cl σ) (fun H hP hS => ?_) hP
  refine lv_iload_n hx hb dX12_isOn_0 rfl (lv_at hl 1 rfl) ?_
  refine lv_if_lt (tgt := 18) hx hb dX12_isOn_1 rfl (fun c1_ => ?_) (fun c1_ => ?_)
  · have tc1_ := (show x.toInt < 0 from ti_lt rfl rg_11 c1_)
    refine lv_iconst (v := 0) hx hb dX12_isOn_18 rg_0 ?_
    rw [hQ]
    exact W.zret (v := 0) hx hb hr rfl (fun t ht hW => ⟨⟨0, σ, rfl, ⟨rfl, (by have k9 : (0 : Int32).toInt = 0 := (by decide); omega)⟩, wEn_of hP (hK.sub [] rfl) hD ht hW⟩, hS.F ht⟩) hS.2.2 dX12_isOn_19
  · have tc1_ := (show 0 ≤ x.toInt from ti_nlt rfl rg_11 c1_)
    refine lv_aload_n hx hb dX12_isOn_4 rfl (lv_at hl 0 rfl) ?_
    refine va_get (D := (dC, dI)) (ci := 12) (v := .ref (ad 34)) (C := RX12) (T := TX12) (N := 59) hx hb hts hin12 hown hK hP 0 rfl rfl 34 (Nat.le_of_ble_eq_true rfl) (ho (.fieldLink RX12 85 "NearEnoughModel" "cKind" "[I") (List.mem_of_getElem? (i := 0) rfl)) (fun _ h9 => h9) rfl dX12_isOn_5 ?_
    refine lv_iload_n hx hb dX12_isOn_8 rfl (lv_at hl 1 rfl) ?_
    have o1 : 0 ≤ x.toInt := by omega
    have o2 : x.toInt < ((12 : Nat) : Int) := by omega
    refine va_iald hx hb hK hP 24 23 rfl rfl (ti_inx o1 o2) dX12_isOn_9 ?_
    refine lv_topi (fun z2_ ez2_ => ?_)
    have gz2_ : z2_.toInt = ((σ.2.1 34) (Int32.toNatClampNeg x)).toInt := congrArg Int32.toInt (ez2_.trans (congrFun rfl (Int32.toNatClampNeg x)))
    have bz2_ : 0 ≤ z2_.toInt ∧ z2_.toInt ≤ 6 := by rw [ez2_]; exact (hI.2 34) _ (cl_lt (n := 12) o1 o2)
    refine lv_iload_n hx hb dX12_isOn_10 rfl (lv_at hl 2 rfl) ?_
    refine lv_icmp_ne (tgt := 18) hx hb dX12_isOn_11 rfl (fun c3_ => ?_) (fun c3_ => ?_)
    · have tc3_ := (show z2_.toInt ≠ y.toInt from ti_ne rfl rfl c3_)
      refine lv_iconst (v := 0) hx hb dX12_isOn_18 rg_0 ?_
      rw [hQ]
      exact W.zret (v := 0) hx hb hr rfl (fun t ht hW => ⟨⟨0, σ, rfl, ⟨rfl, (by have k9 : (0 : Int32).toInt = 0 := (by decide); omega)⟩, wEn_of hP (hK.sub [] rfl) hD ht hW⟩, hS.F ht⟩) hS.2.2 dX12_isOn_19
    · have tc3_ := (show z2_.toInt = y.toInt from ti_eq rfl rfl c3_)
      refine lv_iconst (v := 1) hx hb dX12_isOn_14 rg_6 ?_
      refine lv_goto (tgt := 19) hx hb dX12_isOn_15 rfl ?_
      rw [hQ]
      exact W.zret (v := 1) hx hb hr rfl (fun t ht hW => ⟨⟨1, σ, rfl, ⟨rfl, (by have k9 : (1 : Int32).toInt = 1 := (by decide); omega)⟩, wEn_of hP (hK.sub [] rfl) hD ht hW⟩, hS.F ht⟩) hS.2.2 dX12_isOn_19
def ow_n_numberAt_n : List Cond := []
def vs_n_numberAt_n : List Cond := .code yX12_numberAt cX12_numberAt 5 (some .int) :: (ow_n_numberAt_n)
theorem vg_n_numberAt_n : vs_n_numberAt_n.all goodWord = true := by decide +kernel
theorem dd_n_numberAt_n : yX12_numberAt.cls = RX12 ∧ yX12_numberAt.cls ≠ "java/lang/invoke/MethodHandle" ∧ yX12_numberAt.cls ≠ "java/lang/invoke/VarHandle" ∧ (parseMethodDescriptor yX12_numberAt.desc).map (fun d => d.parameters.length) = some 4 := by decide +kernel
def rm_n_numberAt_n : Room := { frames := 0, cells := 0, slots := 0, locals := 0 }
set_option maxHeartbeats 4000000 in
set_option maxRecDepth 100000 in
theorem n_numberAt_n (l : Launch) (dC : Nat → ClassId) (dI : Nat → Nat → Nat) (h : Nat) (ad : Nat → Nat) (cl : Nat → ClassId) (sz : Nat) (σ : MS) (b : Int32) (rw9 : Int32) (k : Int32) (hI : Inv σ) (hb9 : 0 ≤ b.toInt ∧ b.toInt ≤ 468) (hr9 : 0 ≤ rw9.toInt ∧ rw9.toInt ≤ 1) (hk9 : 0 ≤ k.toInt ∧ k.toInt ≤ 5) : Met l yX12_numberAt vs_n_numberAt_n rm_n_numberAt_n (va_Pc [.ref h, .ref (ad 31), .int b, .int rw9, .int k] (wSt dC dI (mW h ad cl σ) (mT cl) sz)) (va_Qi (fun (r : Int32) (τ : MS) => σ = τ ∧ r = σ.2.1 31 (b.toNatClampNeg + 6 * rw9.toNatClampNeg + k.toNatClampNeg)) (fun (τ : MS) => wEn dC dI (va_A (mW h ad cl σ) sz) (mW h ad cl τ) []) (va_A (mW h ad cl σ) sz)) 0 0 (va_A (mW h ad cl σ) sz) := by
  refine Met.ofW (cc := cX12_numberAt) (maxL := 5) (ret := (some .int)) (by decide) rfl ?_
  intro p e s m args below meth c s₁ B hml hv
  obtain ⟨rfl, hsz, hP, hK, hD0, hE⟩ := hv
  have hx := B.exec
  have hb := B.bytes
  have hr := B.returns
  have hts := atoms_spec (ws := vs_n_numberAt_n) B.pre
  have hown : s.vm.findClass RX12 = some m.cls := findClass_of_methodNamed B.named
  have hlocks := B.notSynchronized
  subst hsz
  have hD := hD0.self (sz := s.heap.size)
  generalize hAe : va_A (mW h ad cl σ) s.heap.size = A at hD ⊢
  have hA : ∀ q : Nat, s.heap.size ≤ q → A q := fun q h => by rw [← hAe]; exact Or.inr h
  have hl := lv_entry ([.ref h, .ref (ad 31), .int b, .int rw9, .int k]) (n := 5) (Nat.le_of_ble_eq_true rfl)
  rw [lg_entry_eq]
  generalize (lg_sl ([.ref h, .ref (ad 31), .int b, .int rw9, .int k]) ++ List.replicate (5 - (lg_sl ([.ref h, .ref (ad 31), .int b, .int rw9, .int k])).length) Slot.unset).toArray = ls at hl ⊢
  have hl : lv_has ls 5 [(0, .ref h), (1, .ref (ad 31)), (2, .int b), (3, .int rw9), (4, .int k)] := hl
  have ho := fun w (h : w ∈ ow_n_numberAt_n) => hts w (List.mem_cons_of_mem _ h)
  refine zQ (fun Q hQ => ?_)
  refine zH (A := A) (ws := mW h ad cl σ) (fun H hP hS => ?_) hP
  refine lv_aload_n hx hb dX12_numberAt_0 rfl (lv_at hl 1 rfl) ?_
  refine lv_iload_n hx hb dX12_numberAt_1 rfl (lv_at hl 2 rfl) ?_
  refine lv_bipush (v := 6) hx hb dX12_numberAt_2 rg_55 ?_
  refine lv_iload_n hx hb dX12_numberAt_4 rfl (lv_at hl 3 rfl) ?_
  refine lv_imul hx hb dX12_numberAt_5 ?_
  refine lv_topi (fun z1_ ez1_ => ?_)
  have o1 : -2147483648 ≤ 6 * rw9.toInt := by omega
  have o2 : 6 * rw9.toInt ≤ 2147483647 := by omega
  have tz1_ : z1_.toInt = 6 * rw9.toInt := ti_mul ez1_ rg_70 rfl o1 o2
  refine lv_iadd hx hb dX12_numberAt_6 ?_
  refine lv_topi (fun z2_ ez2_ => ?_)
  have o3 : -2147483648 ≤ b.toInt + z1_.toInt := by omega
  have o4 : b.toInt + z1_.toInt ≤ 2147483647 := by omega
  have tz2_ : z2_.toInt = b.toInt + z1_.toInt := ti_add ez2_ rfl rfl o3 o4
  refine lv_iload hx hb dX12_numberAt_7 (lv_at hl 4 rfl) ?_
  refine lv_iadd hx hb dX12_numberAt_9 ?_
  refine lv_topi (fun z3_ ez3_ => ?_)
  have o5 : -2147483648 ≤ z2_.toInt + k.toInt := by omega
  have o6 : z2_.toInt + k.toInt ≤ 2147483647 := by omega
  have tz3_ : z3_.toInt = z2_.toInt + k.toInt := ti_add ez3_ rfl rfl o5 o6
  have o7 : 0 ≤ z3_.toInt := by omega
  have o8 : z3_.toInt < ((480 : Nat) : Int) := by omega
  refine va_iald hx hb hK hP 21 20 rfl rfl (ti_inx o7 o8) dX12_numberAt_10 ?_
  refine lv_topi (fun z4_ ez4_ => ?_)
  have gz4_ : z4_.toInt = ((σ.2.1 31) (Int32.toNatClampNeg z3_)).toInt := congrArg Int32.toInt (ez4_.trans (congrFun rfl (Int32.toNatClampNeg z3_)))
  rw [hQ]
  have o9 : 0 ≤ b.toInt := by omega
  have o10 : 0 ≤ rw9.toInt := by omega
  have o11 : 0 ≤ k.toInt := by omega
  have o12 : z3_.toInt = b.toInt + 6 * rw9.toInt + k.toInt := by omega
  exact W.iret (v := z4_) hx hb hr (fun t ht hW => ⟨⟨z4_, σ, rfl, ⟨rfl, (ez4_.trans (congrArg (σ.2.1 31) (num_x o9 o10 o11 o12)))⟩, wEn_of hP (hK.sub [] rfl) hD ht hW⟩, hS.F ht⟩) hS.2.2 dX12_numberAt_11
def ow_n_numberAt_c : List Cond := []
def vs_n_numberAt_c : List Cond := .code yX12_numberAt cX12_numberAt 5 (some .int) :: (ow_n_numberAt_c)
theorem vg_n_numberAt_c : vs_n_numberAt_c.all goodWord = true := by decide +kernel
theorem dd_n_numberAt_c : yX12_numberAt.cls = RX12 ∧ yX12_numberAt.cls ≠ "java/lang/invoke/MethodHandle" ∧ yX12_numberAt.cls ≠ "java/lang/invoke/VarHandle" ∧ (parseMethodDescriptor yX12_numberAt.desc).map (fun d => d.parameters.length) = some 4 := by decide +kernel
def rm_n_numberAt_c : Room := { frames := 0, cells := 0, slots := 0, locals := 0 }
set_option maxHeartbeats 4000000 in
set_option maxRecDepth 100000 in
theorem n_numberAt_c (l : Launch) (dC : Nat → ClassId) (dI : Nat → Nat → Nat) (h : Nat) (ad : Nat → Nat) (cl : Nat → ClassId) (sz : Nat) (σ : MS) (b : Int32) (rw9 : Int32) (k : Int32) (hI : Inv σ) (hb9 : 0 ≤ b.toInt ∧ b.toInt ≤ 0) (hr9 : 0 ≤ rw9.toInt ∧ rw9.toInt ≤ 1) (hk9 : 0 ≤ k.toInt ∧ k.toInt ≤ 5) : Met l yX12_numberAt vs_n_numberAt_c rm_n_numberAt_c (va_Pc [.ref h, .ref (ad 32), .int b, .int rw9, .int k] (wSt dC dI (mW h ad cl σ) (mT cl) sz)) (va_Qi (fun (r : Int32) (τ : MS) => σ = τ ∧ r = σ.2.1 32 (b.toNatClampNeg + 6 * rw9.toNatClampNeg + k.toNatClampNeg)) (fun (τ : MS) => wEn dC dI (va_A (mW h ad cl σ) sz) (mW h ad cl τ) []) (va_A (mW h ad cl σ) sz)) 0 0 (va_A (mW h ad cl σ) sz) := by
  refine Met.ofW (cc := cX12_numberAt) (maxL := 5) (ret := (some .int)) (by decide) rfl ?_
  intro p e s m args below meth c s₁ B hml hv
  obtain ⟨rfl, hsz, hP, hK, hD0, hE⟩ := hv
  have hx := B.exec
  have hb := B.bytes
  have hr := B.returns
  have hts := atoms_spec (ws := vs_n_numberAt_c) B.pre
  have hown : s.vm.findClass RX12 = some m.cls := findClass_of_methodNamed B.named
  have hlocks := B.notSynchronized
  subst hsz
  have hD := hD0.self (sz := s.heap.size)
  generalize hAe : va_A (mW h ad cl σ) s.heap.size = A at hD ⊢
  have hA : ∀ q : Nat, s.heap.size ≤ q → A q := fun q h => by rw [← hAe]; exact Or.inr h
  have hl := lv_entry ([.ref h, .ref (ad 32), .int b, .int rw9, .int k]) (n := 5) (Nat.le_of_ble_eq_true rfl)
  rw [lg_entry_eq]
  generalize (lg_sl ([.ref h, .ref (ad 32), .int b, .int rw9, .int k]) ++ List.replicate (5 - (lg_sl ([.ref h, .ref (ad 32), .int b, .int rw9, .int k])).length) Slot.unset).toArray = ls at hl ⊢
  have hl : lv_has ls 5 [(0, .ref h), (1, .ref (ad 32)), (2, .int b), (3, .int rw9), (4, .int k)] := hl
  have ho := fun w (h : w ∈ ow_n_numberAt_c) => hts w (List.mem_cons_of_mem _ h)
  refine zQ (fun Q hQ => ?_)
  refine zH (A := A) (ws := mW h ad cl σ) (fun H hP hS => ?_) hP
  refine lv_aload_n hx hb dX12_numberAt_0 rfl (lv_at hl 1 rfl) ?_
  refine lv_iload_n hx hb dX12_numberAt_1 rfl (lv_at hl 2 rfl) ?_
  refine lv_bipush (v := 6) hx hb dX12_numberAt_2 rg_55 ?_
  refine lv_iload_n hx hb dX12_numberAt_4 rfl (lv_at hl 3 rfl) ?_
  refine lv_imul hx hb dX12_numberAt_5 ?_
  refine lv_topi (fun z1_ ez1_ => ?_)
  have o1 : -2147483648 ≤ 6 * rw9.toInt := by omega
  have o2 : 6 * rw9.toInt ≤ 2147483647 := by omega
  have tz1_ : z1_.toInt = 6 * rw9.toInt := ti_mul ez1_ rg_70 rfl o1 o2
  refine lv_iadd hx hb dX12_numberAt_6 ?_
  refine lv_topi (fun z2_ ez2_ => ?_)
  have o3 : -2147483648 ≤ b.toInt + z1_.toInt := by omega
  have o4 : b.toInt + z1_.toInt ≤ 2147483647 := by omega
  have tz2_ : z2_.toInt = b.toInt + z1_.toInt := ti_add ez2_ rfl rfl o3 o4
  refine lv_iload hx hb dX12_numberAt_7 (lv_at hl 4 rfl) ?_
  refine lv_iadd hx hb dX12_numberAt_9 ?_
  refine lv_topi (fun z3_ ez3_ => ?_)
  have o5 : -2147483648 ≤ z2_.toInt + k.toInt := by omega
  have o6 : z2_.toInt + k.toInt ≤ 2147483647 := by omega
  have tz3_ : z3_.toInt = z2_.toInt + k.toInt := ti_add ez3_ rfl rfl o5 o6
  have o7 : 0 ≤ z3_.toInt := by omega
  have o8 : z3_.toInt < ((12 : Nat) : Int) := by omega
  refine va_iald hx hb hK hP 22 21 rfl rfl (ti_inx o7 o8) dX12_numberAt_10 ?_
  refine lv_topi (fun z4_ ez4_ => ?_)
  have gz4_ : z4_.toInt = ((σ.2.1 32) (Int32.toNatClampNeg z3_)).toInt := congrArg Int32.toInt (ez4_.trans (congrFun rfl (Int32.toNatClampNeg z3_)))
  rw [hQ]
  have o9 : 0 ≤ b.toInt := by omega
  have o10 : 0 ≤ rw9.toInt := by omega
  have o11 : 0 ≤ k.toInt := by omega
  have o12 : z3_.toInt = b.toInt + 6 * rw9.toInt + k.toInt := by omega
  exact W.iret (v := z4_) hx hb hr (fun t ht hW => ⟨⟨z4_, σ, rfl, ⟨rfl, (ez4_.trans (congrArg (σ.2.1 32) (num_x o9 o10 o11 o12)))⟩, wEn_of hP (hK.sub [] rfl) hD ht hW⟩, hS.F ht⟩) hS.2.2 dX12_numberAt_11
def ow_n_baseOf_n : List Cond := [.fieldLink RX12 76 "NearEnoughModel" "numbers" "[I"]
def vs_n_baseOf_n : List Cond := .code yX12_baseOf cX12_baseOf 4 (some .int) :: (ow_n_baseOf_n ++ (([.methodLink RX12 340 yX12_isOn, .instanceMethod yX12_isOn, .selects RX12 yX12_isOn yX12_isOn, .initialized RX12] : List Cond) ++ (vs_n_isOn ++ (wsX120))))
theorem vg_n_baseOf_n : vs_n_baseOf_n.all goodWord = true := by decide +kernel
theorem dd_n_baseOf_n : yX12_baseOf.cls = RX12 ∧ yX12_baseOf.cls ≠ "java/lang/invoke/MethodHandle" ∧ yX12_baseOf.cls ≠ "java/lang/invoke/VarHandle" ∧ (parseMethodDescriptor yX12_baseOf.desc).map (fun d => d.parameters.length) = some 3 := by decide +kernel
def rm_n_baseOf_n : Room := { frames := 1, cells := 0, slots := 0, locals := 22 }
theorem gd_n_baseOf_n_340_n_isOn : GoodIn vs_n_baseOf_n (wsV RX12 340 RX12 yX12_isOn vs_n_isOn) := goodIn_app (goodIn_sub (fun w h => (List.mem_cons_of_mem _ (List.mem_append_right _ (List.mem_append_left _ h)))) (by decide +kernel)) (goodIn_sub (fun w h => (List.mem_cons_of_mem _ (List.mem_append_right _ (List.mem_append_right _ (List.mem_append_left _ h))))) vg_n_isOn)
set_option maxHeartbeats 4000000 in
set_option maxRecDepth 100000 in
theorem n_baseOf_n (l : Launch) (dC : Nat → ClassId) (dI : Nat → Nat → Nat) (h : Nat) (ad : Nat → Nat) (cl : Nat → ClassId) (sz : Nat) (σ : MS) (b : Int32) (ch9 : Int32) (hI : Inv σ) (hb9 : 0 ≤ b.toInt ∧ b.toInt ≤ 468) (hm9 : b.toInt = 0 ∨ 12 ≤ b.toInt) (hc : -1 ≤ ch9.toInt ∧ ch9.toInt ≤ 11) : Met l yX12_baseOf vs_n_baseOf_n rm_n_baseOf_n (va_Pc [.ref h, .ref (ad 31), .int b, .int ch9] (wSt dC dI (mW h ad cl σ) (mT cl) sz)) (va_Qi (fun (r : Int32) (τ : MS) => σ = τ ∧ r = bsF (cor σ) true b ch9 ∧ 0 ≤ r.toInt ∧ r.toInt ≤ 468) (fun (τ : MS) => wEn dC dI (va_A (mW h ad cl σ) sz) (mW h ad cl τ) []) (va_A (mW h ad cl σ) sz)) 0 0 (va_A (mW h ad cl σ) sz) := by
  refine Met.ofW (cc := cX12_baseOf) (maxL := 4) (ret := (some .int)) (by decide) rfl ?_
  intro p e s m args below meth c s₁ B hml hv
  obtain ⟨rfl, hsz, hP, hK, hD0, hE⟩ := hv
  have hx := B.exec
  have hb := B.bytes
  have hr := B.returns
  have hts := atoms_spec (ws := vs_n_baseOf_n) B.pre
  have hown : s.vm.findClass RX12 = some m.cls := findClass_of_methodNamed B.named
  have hlocks := B.notSynchronized
  subst hsz
  have hD := hD0.self (sz := s.heap.size)
  generalize hAe : va_A (mW h ad cl σ) s.heap.size = A at hD ⊢
  have hA : ∀ q : Nat, s.heap.size ≤ q → A q := fun q h => by rw [← hAe]; exact Or.inr h
  have hl := lv_entry ([.ref h, .ref (ad 31), .int b, .int ch9]) (n := 4) (Nat.le_of_ble_eq_true rfl)
  rw [lg_entry_eq]
  generalize (lg_sl ([.ref h, .ref (ad 31), .int b, .int ch9]) ++ List.replicate (4 - (lg_sl ([.ref h, .ref (ad 31), .int b, .int ch9])).length) Slot.unset).toArray = ls at hl ⊢
  have hl : lv_has ls 4 [(0, .ref h), (1, .ref (ad 31)), (2, .int b), (3, .int ch9)] := hl
  have ho := fun w (h : w ∈ ow_n_baseOf_n) => hts w (List.mem_cons_of_mem _ (List.mem_append_left _ h))
  have hin12 : ∀ w ∈ u_ws RX12 TX12 59, w ∈ vs_n_baseOf_n := fun w h => (List.mem_cons_of_mem _ (List.mem_append_right _ (List.mem_append_right _ (List.mem_append_right _ h))))
  refine zQ (fun Q hQ => ?_)
  refine zH (A := A) (ws := mW h ad cl σ) (fun H hP hS => ?_) hP
  refine lv_aload_n hx hb dX12_baseOf_0 rfl (lv_at hl 0 rfl) ?_
  refine lv_iload_n hx hb dX12_baseOf_1 rfl (lv_at hl 3 rfl) ?_
  refine lv_bipush (v := 6) hx hb dX12_baseOf_2 rg_55 ?_
  have kk1_ : (6 : Int32).toInt = 6 := rg_70
  have o1 : -1 ≤ ch9.toInt := by omega
  have o2 : ch9.toInt ≤ 11 := by omega
  refine zy_i (va_runV (As := [.int ch9, .int 6]) (rest := []) ⟨hx, hb, hml, hown, hts⟩ (n_isOn l dC dI h ad cl H.size σ ch9 6 hI ⟨o1, o2⟩) (cwV 2 hts gd_n_baseOf_n_340_n_isOn rfl rfl rfl dd_n_isOn ⟨Nat.le_of_ble_eq_true rfl, Nat.le_of_ble_eq_true rfl⟩) (preV hP hK hD hE (ci := 12) (q0 := 0) rfl rfl) rfl rfl hl.1 rfl (lv_room (Nat.le_of_ble_eq_true rfl)) dX12_baseOf_4 ⟨Nat.le_of_ble_eq_true rfl, Nat.le_of_ble_eq_true rfl⟩) hD hS hA (fun z3_ τ2_ H locs hq hP hD hS => ?_)
  obtain ⟨rfl, f4_⟩ := hq
  refine W.widen (k := 0) (n := 0) (Nat.le_of_ble_eq_true rfl) (Nat.le_of_ble_eq_true rfl) ?_
  refine lv_if_eq (tgt := 29) hx hb dX12_baseOf_7 rfl (fun c5_ => ?_) (fun c5_ => ?_)
  · have tc5_ := (show z3_.toInt = 0 from ti_eq rfl rg_11 c5_)
    refine lv_iload_n hx hb dX12_baseOf_29 rfl (lv_at hl 2 rfl) ?_
    rw [hQ]
    have o3 : ¬ ((0 ≤ ch9.toInt ∧ (σ.2.1 34 (Int32.toNatClampNeg ch9)).toInt = 6) ∧ 0 < b.toInt) := by omega
    have o4 : 0 ≤ b.toInt := by omega
    have o5 : b.toInt ≤ 468 := by omega
    exact W.iret (v := b) hx hb hr (fun t ht hW => ⟨⟨b, σ, rfl, ⟨rfl, bs_n (T := cor σ) (fun h9 => absurd (show (0 ≤ ch9.toInt ∧ (σ.2.1 34 (Int32.toNatClampNeg ch9)).toInt = 6) ∧ 0 < b.toInt from ⟨h9.1, h9.2.2⟩) o3), o4, o5⟩, wEn_of hP (hK.sub [] rfl) hD ht hW⟩, hS.F ht⟩) hS.2.2 dX12_baseOf_30
  · have tc5_ := (show z3_.toInt ≠ 0 from ti_ne rfl rg_11 c5_)
    refine lv_aload_n hx hb dX12_baseOf_10 rfl (lv_at hl 1 rfl) ?_
    refine lv_aload_n hx hb dX12_baseOf_11 rfl (lv_at hl 0 rfl) ?_
    refine va_get (D := (dC, dI)) (ci := 12) (v := .ref (ad 31)) (C := RX12) (T := TX12) (N := 59) hx hb hts hin12 hown hK hP 0 rfl rfl 31 (Nat.le_of_ble_eq_true rfl) (ho (.fieldLink RX12 76 "NearEnoughModel" "numbers" "[I") (List.mem_of_getElem? (i := 0) rfl)) (fun _ h9 => h9) rfl dX12_baseOf_12 ?_
    refine lv_acmp_ne (rx := some (ad 31)) (ry := some (ad 31)) (tgt := 29) hx hb dX12_baseOf_15 rfl (fun cc => absurd rfl cc) (fun _ => ?_)
    refine lv_iload_n hx hb dX12_baseOf_18 rfl (lv_at hl 2 rfl) ?_
    refine lv_if_le (tgt := 29) hx hb dX12_baseOf_19 rfl (fun c6_ => ?_) (fun c6_ => ?_)
    · have tc6_ := (show b.toInt ≤ 0 from ti_le rfl rg_11 c6_)
      refine lv_iload_n hx hb dX12_baseOf_29 rfl (lv_at hl 2 rfl) ?_
      rw [hQ]
      have o6 : ¬ ((0 ≤ ch9.toInt ∧ (σ.2.1 34 (Int32.toNatClampNeg ch9)).toInt = 6) ∧ 0 < b.toInt) := by omega
      have o7 : 0 ≤ b.toInt := by omega
      have o8 : b.toInt ≤ 468 := by omega
      exact W.iret (v := b) hx hb hr (fun t ht hW => ⟨⟨b, σ, rfl, ⟨rfl, bs_n (T := cor σ) (fun h9 => absurd (show (0 ≤ ch9.toInt ∧ (σ.2.1 34 (Int32.toNatClampNeg ch9)).toInt = 6) ∧ 0 < b.toInt from ⟨h9.1, h9.2.2⟩) o6), o7, o8⟩, wEn_of hP (hK.sub [] rfl) hD ht hW⟩, hS.F ht⟩) hS.2.2 dX12_baseOf_30
    · have tc6_ := (show 0 < b.toInt from ti_nle rfl rg_11 c6_)
      refine lv_iload_n hx hb dX12_baseOf_22 rfl (lv_at hl 2 rfl) ?_
      refine lv_bipush (v := 12) hx hb dX12_baseOf_23 rg_57 ?_
      refine lv_isub hx hb dX12_baseOf_25 ?_
      refine lv_topi (fun z7_ ez7_ => ?_)
      have o9 : -2147483648 ≤ b.toInt - 12 := by omega
      have o10 : b.toInt - 12 ≤ 2147483647 := by omega
      have tz7_ : z7_.toInt = b.toInt - 12 := ti_sub ez7_ rfl rg_58 o9 o10
      refine lv_goto (tgt := 30) hx hb dX12_baseOf_26 rfl ?_
      rw [hQ]
      have o11 : 0 < b.toInt := by omega
      have o12 : 0 ≤ z7_.toInt := by omega
      have o13 : z7_.toInt ≤ 468 := by omega
      have o14 : 0 ≤ ch9.toInt ∧ (σ.2.1 34 (Int32.toNatClampNeg ch9)).toInt = 6 := by omega
      exact W.iret (v := z7_) hx hb hr (fun t ht hW => ⟨⟨z7_, σ, rfl, ⟨rfl, bs_y (T := cor σ) (show 0 ≤ ch9.toInt ∧ (σ.2.1 34 (Int32.toNatClampNeg ch9)).toInt = 6 from o14) o11 ez7_, o12, o13⟩, wEn_of hP (hK.sub [] rfl) hD ht hW⟩, hS.F ht⟩) hS.2.2 dX12_baseOf_30
def ow_n_baseOf_c : List Cond := [.fieldLink RX12 76 "NearEnoughModel" "numbers" "[I"]
def vs_n_baseOf_c : List Cond := .code yX12_baseOf cX12_baseOf 4 (some .int) :: (ow_n_baseOf_c ++ (([.methodLink RX12 340 yX12_isOn, .instanceMethod yX12_isOn, .selects RX12 yX12_isOn yX12_isOn, .initialized RX12] : List Cond) ++ (vs_n_isOn ++ (wsX120))))
theorem vg_n_baseOf_c : vs_n_baseOf_c.all goodWord = true := by decide +kernel
theorem dd_n_baseOf_c : yX12_baseOf.cls = RX12 ∧ yX12_baseOf.cls ≠ "java/lang/invoke/MethodHandle" ∧ yX12_baseOf.cls ≠ "java/lang/invoke/VarHandle" ∧ (parseMethodDescriptor yX12_baseOf.desc).map (fun d => d.parameters.length) = some 3 := by decide +kernel
def rm_n_baseOf_c : Room := { frames := 1, cells := 0, slots := 0, locals := 22 }
theorem gd_n_baseOf_c_340_n_isOn : GoodIn vs_n_baseOf_c (wsV RX12 340 RX12 yX12_isOn vs_n_isOn) := goodIn_app (goodIn_sub (fun w h => (List.mem_cons_of_mem _ (List.mem_append_right _ (List.mem_append_left _ h)))) (by decide +kernel)) (goodIn_sub (fun w h => (List.mem_cons_of_mem _ (List.mem_append_right _ (List.mem_append_right _ (List.mem_append_left _ h))))) vg_n_isOn)
set_option maxHeartbeats 4000000 in
set_option maxRecDepth 100000 in
theorem n_baseOf_c (l : Launch) (dC : Nat → ClassId) (dI : Nat → Nat → Nat) (h : Nat) (ad : Nat → Nat) (cl : Nat → ClassId) (sz : Nat) (σ : MS) (b : Int32) (ch9 : Int32) (hI : Inv σ) (hb9 : 0 ≤ b.toInt ∧ b.toInt ≤ 0) (hm9 : b.toInt = 0 ∨ 12 ≤ b.toInt) (hc : -1 ≤ ch9.toInt ∧ ch9.toInt ≤ 11) : Met l yX12_baseOf vs_n_baseOf_c rm_n_baseOf_c (va_Pc [.ref h, .ref (ad 32), .int b, .int ch9] (wSt dC dI (mW h ad cl σ) (mT cl) sz)) (va_Qi (fun (r : Int32) (τ : MS) => σ = τ ∧ r = bsF (cor σ) false b ch9 ∧ 0 ≤ r.toInt ∧ r.toInt ≤ 0) (fun (τ : MS) => wEn dC dI (va_A (mW h ad cl σ) sz) (mW h ad cl τ) []) (va_A (mW h ad cl σ) sz)) 0 0 (va_A (mW h ad cl σ) sz) := by
  refine Met.ofW (cc := cX12_baseOf) (maxL := 4) (ret := (some .int)) (by decide) rfl ?_
  intro p e s m args below meth c s₁ B hml hv
  obtain ⟨rfl, hsz, hP, hK, hD0, hE⟩ := hv
  have hx := B.exec
  have hb := B.bytes
  have hr := B.returns
  have hts := atoms_spec (ws := vs_n_baseOf_c) B.pre
  have hown : s.vm.findClass RX12 = some m.cls := findClass_of_methodNamed B.named
  have hlocks := B.notSynchronized
  subst hsz
  have hD := hD0.self (sz := s.heap.size)
  generalize hAe : va_A (mW h ad cl σ) s.heap.size = A at hD ⊢
  have hA : ∀ q : Nat, s.heap.size ≤ q → A q := fun q h => by rw [← hAe]; exact Or.inr h
  have hl := lv_entry ([.ref h, .ref (ad 32), .int b, .int ch9]) (n := 4) (Nat.le_of_ble_eq_true rfl)
  rw [lg_entry_eq]
  generalize (lg_sl ([.ref h, .ref (ad 32), .int b, .int ch9]) ++ List.replicate (4 - (lg_sl ([.ref h, .ref (ad 32), .int b, .int ch9])).length) Slot.unset).toArray = ls at hl ⊢
  have hl : lv_has ls 4 [(0, .ref h), (1, .ref (ad 32)), (2, .int b), (3, .int ch9)] := hl
  have ho := fun w (h : w ∈ ow_n_baseOf_c) => hts w (List.mem_cons_of_mem _ (List.mem_append_left _ h))
  have hin12 : ∀ w ∈ u_ws RX12 TX12 59, w ∈ vs_n_baseOf_c := fun w h => (List.mem_cons_of_mem _ (List.mem_append_right _ (List.mem_append_right _ (List.mem_append_right _ h))))
  refine zQ (fun Q hQ => ?_)
  refine zH (A := A) (ws := mW h ad cl σ) (fun H hP hS => ?_) hP
  refine lv_aload_n hx hb dX12_baseOf_0 rfl (lv_at hl 0 rfl) ?_
  refine lv_iload_n hx hb dX12_baseOf_1 rfl (lv_at hl 3 rfl) ?_
  refine lv_bipush (v := 6) hx hb dX12_baseOf_2 rg_55 ?_
  have kk1_ : (6 : Int32).toInt = 6 := rg_70
  have o1 : -1 ≤ ch9.toInt := by omega
  have o2 : ch9.toInt ≤ 11 := by omega
  refine zy_i (va_runV (As := [.int ch9, .int 6]) (rest := []) ⟨hx, hb, hml, hown, hts⟩ (n_isOn l dC dI h ad cl H.size σ ch9 6 hI ⟨o1, o2⟩) (cwV 2 hts gd_n_baseOf_c_340_n_isOn rfl rfl rfl dd_n_isOn ⟨Nat.le_of_ble_eq_true rfl, Nat.le_of_ble_eq_true rfl⟩) (preV hP hK hD hE (ci := 12) (q0 := 0) rfl rfl) rfl rfl hl.1 rfl (lv_room (Nat.le_of_ble_eq_true rfl)) dX12_baseOf_4 ⟨Nat.le_of_ble_eq_true rfl, Nat.le_of_ble_eq_true rfl⟩) hD hS hA (fun z3_ τ2_ H locs hq hP hD hS => ?_)
  obtain ⟨rfl, f4_⟩ := hq
  refine W.widen (k := 0) (n := 0) (Nat.le_of_ble_eq_true rfl) (Nat.le_of_ble_eq_true rfl) ?_
  refine lv_if_eq (tgt := 29) hx hb dX12_baseOf_7 rfl (fun c5_ => ?_) (fun c5_ => ?_)
  · have tc5_ := (show z3_.toInt = 0 from ti_eq rfl rg_11 c5_)
    refine lv_iload_n hx hb dX12_baseOf_29 rfl (lv_at hl 2 rfl) ?_
    rw [hQ]
    have o3 : 0 ≤ b.toInt := by omega
    have o4 : b.toInt ≤ 0 := by omega
    exact W.iret (v := b) hx hb hr (fun t ht hW => ⟨⟨b, σ, rfl, ⟨rfl, bs_n (T := cor σ) (fun h9 => absurd h9.2.1 (by decide)), o3, o4⟩, wEn_of hP (hK.sub [] rfl) hD ht hW⟩, hS.F ht⟩) hS.2.2 dX12_baseOf_30
  · have tc5_ := (show z3_.toInt ≠ 0 from ti_ne rfl rg_11 c5_)
    refine lv_aload_n hx hb dX12_baseOf_10 rfl (lv_at hl 1 rfl) ?_
    refine lv_aload_n hx hb dX12_baseOf_11 rfl (lv_at hl 0 rfl) ?_
    refine va_get (D := (dC, dI)) (ci := 12) (v := .ref (ad 31)) (C := RX12) (T := TX12) (N := 59) hx hb hts hin12 hown hK hP 0 rfl rfl 31 (Nat.le_of_ble_eq_true rfl) (ho (.fieldLink RX12 76 "NearEnoughModel" "numbers" "[I") (List.mem_of_getElem? (i := 0) rfl)) (fun _ h9 => h9) rfl dX12_baseOf_12 ?_
    have nn6_ : ¬ some (ad 32) = some (ad 31) := fun cc => absurd (hD.1 22 21 _ _ rfl rfl (Option.some.inj cc)) (by decide)
    refine lv_acmp_ne (rx := some (ad 32)) (ry := some (ad 31)) (tgt := 29) hx hb dX12_baseOf_15 rfl (fun _ => ?_) (fun cc => absurd cc nn6_)
    refine lv_iload_n hx hb dX12_baseOf_29 rfl (lv_at hl 2 rfl) ?_
    rw [hQ]
    have o5 : 0 ≤ b.toInt := by omega
    have o6 : b.toInt ≤ 0 := by omega
    exact W.iret (v := b) hx hb hr (fun t ht hW => ⟨⟨b, σ, rfl, ⟨rfl, bs_n (T := cor σ) (fun h9 => absurd h9.2.1 (by decide)), o5, o6⟩, wEn_of hP (hK.sub [] rfl) hD ht hW⟩, hS.F ht⟩) hS.2.2 dX12_baseOf_30
def ow_n_lesserV : List Cond := []
def vs_n_lesserV : List Cond := .code yX12_lesser cX12_lesser 4 (some .long) :: (ow_n_lesserV)
theorem vg_n_lesserV : vs_n_lesserV.all goodWord = true := by decide +kernel
theorem dd_n_lesserV : yX12_lesser.cls ≠ "java/lang/invoke/MethodHandle" ∧ yX12_lesser.cls ≠ "java/lang/invoke/VarHandle" ∧ (parseMethodDescriptor yX12_lesser.desc).map (fun d => d.parameters.length) = some 2 := by decide +kernel
def rm_n_lesserV : Room := { frames := 0, cells := 0, slots := 0, locals := 0 }
set_option maxHeartbeats 4000000 in
set_option maxRecDepth 100000 in
theorem n_lesserV (l : Launch) (dC : Nat → ClassId) (dI : Nat → Nat → Nat) (x : Int64) (y : Int64)  (sz : Nat) : Met l yX12_lesser vs_n_lesserV rm_n_lesserV (va_Pc [.long x, .long y] (wSt dC dI [] [] sz)) (va_Ql (fun (r : Int64) (_ : Unit) => r = ls2 x y) (fun (_ : Unit) => wEn dC dI (va_A [] sz) [] []) (va_A ([]) sz)) 0 0 (va_A ([]) sz) := by
  refine Met.ofW (cc := cX12_lesser) (maxL := 4) (ret := (some .long)) (by decide) rfl ?_
  intro p e s m args below meth c s₁ B hml hv
  obtain ⟨rfl, hsz, hP, hK, hD0, hE⟩ := hv
  have hx := B.exec
  have hb := B.bytes
  have hr := B.returns
  have hts := atoms_spec (ws := vs_n_lesserV) B.pre
  have hown : s.vm.findClass RX12 = some m.cls := findClass_of_methodNamed B.named
  have hlocks := B.notSynchronized
  subst hsz
  have hD := hD0.self (sz := s.heap.size)
  generalize hAe : va_A ([]) s.heap.size = A at hD ⊢
  have hA : ∀ q : Nat, s.heap.size ≤ q → A q := fun q h => by rw [← hAe]; exact Or.inr h
  have hl := lv_entry ([.long x, .long y]) (n := 4) (Nat.le_of_ble_eq_true rfl)
  rw [lg_entry_eq]
  generalize (lg_sl ([.long x, .long y]) ++ List.replicate (4 - (lg_sl ([.long x, .long y])).length) Slot.unset).toArray = ls at hl ⊢
  have hl : lv_has ls 4 [(0, .long x), (2, .long y)] := hl
  have ho := fun w (h : w ∈ ow_n_lesserV) => hts w (List.mem_cons_of_mem _ h)
  refine zQ (fun Q hQ => ?_)
  refine zH (A := A) (ws := []) (fun H hP hS => ?_) hP
  refine lv_lload_n hx hb dX12_lesser_0 rfl (lv_at hl 0 rfl) ?_
  refine lv_lload_n hx hb dX12_lesser_1 rfl (lv_at hl 1 rfl) ?_
  refine W.lcmp hx hb dX12_lesser_2 ?_
  refine lv_topi (fun z1_ ez1_ => ?_)
  refine lv_if_ge (tgt := 10) hx hb dX12_lesser_3 rfl (fun c2_ => ?_) (fun c2_ => ?_)
  · have tc2_ := (show 0 ≤ z1_.toInt from ti_le rg_11 rfl c2_)
    have lc2_ : y ≤ x := (lg_cmp_ge x y).mp (by rw [← ez1_]; exact c2_)
    refine lv_lload_n hx hb dX12_lesser_10 rfl (lv_at hl 1 rfl) ?_
    rw [hQ]
    exact W.lret (v := y) hx hb hr (fun t ht hW => ⟨⟨y, (), rfl, (by unfold ls2; rw [if_neg (Int64.not_lt.mpr lc2_)]), wEn_of empP (hK.sub [] rfl) empD ht hW⟩, hS.F ht⟩) hS.2.2 dX12_lesser_11
  · have tc2_ := (show z1_.toInt < 0 from ti_nle rg_11 rfl c2_)
    have lc2_ : ¬ y ≤ x := fun h => c2_ (by rw [ez1_]; exact (lg_cmp_ge x y).mpr h)
    refine lv_lload_n hx hb dX12_lesser_6 rfl (lv_at hl 0 rfl) ?_
    refine lv_goto (tgt := 11) hx hb dX12_lesser_7 rfl ?_
    rw [hQ]
    exact W.lret (v := x) hx hb hr (fun t ht hW => ⟨⟨x, (), rfl, (by unfold ls2; rw [if_pos (Int64.not_le.mp lc2_)]), wEn_of empP (hK.sub [] rfl) empD ht hW⟩, hS.F ht⟩) hS.2.2 dX12_lesser_11
def ow_n_greaterV : List Cond := []
def vs_n_greaterV : List Cond := .code yX12_greater cX12_greater 4 (some .long) :: (ow_n_greaterV)
theorem vg_n_greaterV : vs_n_greaterV.all goodWord = true := by decide +kernel
theorem dd_n_greaterV : yX12_greater.cls ≠ "java/lang/invoke/MethodHandle" ∧ yX12_greater.cls ≠ "java/lang/invoke/VarHandle" ∧ (parseMethodDescriptor yX12_greater.desc).map (fun d => d.parameters.length) = some 2 := by decide +kernel
def rm_n_greaterV : Room := { frames := 0, cells := 0, slots := 0, locals := 0 }
set_option maxHeartbeats 4000000 in
set_option maxRecDepth 100000 in
theorem n_greaterV (l : Launch) (dC : Nat → ClassId) (dI : Nat → Nat → Nat) (x : Int64) (y : Int64)  (sz : Nat) : Met l yX12_greater vs_n_greaterV rm_n_greaterV (va_Pc [.long x, .long y] (wSt dC dI [] [] sz)) (va_Ql (fun (r : Int64) (_ : Unit) => r = gt2 x y) (fun (_ : Unit) => wEn dC dI (va_A [] sz) [] []) (va_A ([]) sz)) 0 0 (va_A ([]) sz) := by
  refine Met.ofW (cc := cX12_greater) (maxL := 4) (ret := (some .long)) (by decide) rfl ?_
  intro p e s m args below meth c s₁ B hml hv
  obtain ⟨rfl, hsz, hP, hK, hD0, hE⟩ := hv
  have hx := B.exec
  have hb := B.bytes
  have hr := B.returns
  have hts := atoms_spec (ws := vs_n_greaterV) B.pre
  have hown : s.vm.findClass RX12 = some m.cls := findClass_of_methodNamed B.named
  have hlocks := B.notSynchronized
  subst hsz
  have hD := hD0.self (sz := s.heap.size)
  generalize hAe : va_A ([]) s.heap.size = A at hD ⊢
  have hA : ∀ q : Nat, s.heap.size ≤ q → A q := fun q h => by rw [← hAe]; exact Or.inr h
  have hl := lv_entry ([.long x, .long y]) (n := 4) (Nat.le_of_ble_eq_true rfl)
  rw [lg_entry_eq]
  generalize (lg_sl ([.long x, .long y]) ++ List.replicate (4 - (lg_sl ([.long x, .long y])).length) Slot.unset).toArray = ls at hl ⊢
  have hl : lv_has ls 4 [(0, .long x), (2, .long y)] := hl
  have ho := fun w (h : w ∈ ow_n_greaterV) => hts w (List.mem_cons_of_mem _ h)
  refine zQ (fun Q hQ => ?_)
  refine zH (A := A) (ws := []) (fun H hP hS => ?_) hP
  refine lv_lload_n hx hb dX12_greater_0 rfl (lv_at hl 0 rfl) ?_
  refine lv_lload_n hx hb dX12_greater_1 rfl (lv_at hl 1 rfl) ?_
  refine W.lcmp hx hb dX12_greater_2 ?_
  refine lv_topi (fun z1_ ez1_ => ?_)
  refine lv_if_le (tgt := 10) hx hb dX12_greater_3 rfl (fun c2_ => ?_) (fun c2_ => ?_)
  · have tc2_ := (show z1_.toInt ≤ 0 from ti_le rfl rg_11 c2_)
    have lc2_ : x ≤ y := (lg_cmp_le x y).mp (by rw [← ez1_]; exact c2_)
    refine lv_lload_n hx hb dX12_greater_10 rfl (lv_at hl 1 rfl) ?_
    rw [hQ]
    exact W.lret (v := y) hx hb hr (fun t ht hW => ⟨⟨y, (), rfl, (by unfold gt2; rw [if_neg (Int64.not_lt.mpr lc2_)]), wEn_of empP (hK.sub [] rfl) empD ht hW⟩, hS.F ht⟩) hS.2.2 dX12_greater_11
  · have tc2_ := (show 0 < z1_.toInt from ti_nle rfl rg_11 c2_)
    have lc2_ : ¬ x ≤ y := fun h => c2_ (by rw [ez1_]; exact (lg_cmp_le x y).mpr h)
    refine lv_lload_n hx hb dX12_greater_6 rfl (lv_at hl 0 rfl) ?_
    refine lv_goto (tgt := 11) hx hb dX12_greater_7 rfl ?_
    rw [hQ]
    exact W.lret (v := x) hx hb hr (fun t ht hW => ⟨⟨x, (), rfl, (by unfold gt2; rw [if_pos (Int64.not_le.mp lc2_)]), wEn_of empP (hK.sub [] rfl) empD ht hW⟩, hS.F ht⟩) hS.2.2 dX12_greater_11
