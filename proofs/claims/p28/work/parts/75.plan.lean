theorem dX12_plan_0 : decode cX12_plan 0 = .ok (.aload_n 0, 1) := by decide +kernel
theorem dX12_plan_1 : decode cX12_plan 1 = .ok (.iload_n 1, 1) := by decide +kernel
theorem dX12_plan_2 : decode cX12_plan 2 = .ok (.invokevirtual 431, 3) := by decide +kernel
theorem dX12_plan_5 : decode cX12_plan 5 = .ok (.ifCond .eq 14, 3) := by decide +kernel
theorem dX12_plan_19 : decode cX12_plan 19 = .ok (.iconst (-1), 1) := by decide +kernel
theorem dX12_plan_20 : decode cX12_plan 20 = .ok (.ireturn, 1) := by decide +kernel
theorem dX12_plan_8 : decode cX12_plan 8 = .ok (.iload_n 2, 1) := by decide +kernel
theorem dX12_plan_9 : decode cX12_plan 9 = .ok (.iconst 0, 1) := by decide +kernel
theorem dX12_plan_10 : decode cX12_plan 10 = .ok (.sipush 400, 3) := by decide +kernel
theorem dX12_plan_13 : decode cX12_plan 13 = .ok (.invokestatic 324, 3) := by decide +kernel
theorem dX12_plan_16 : decode cX12_plan 16 = .ok (.ifCond .ne 5, 3) := by decide +kernel
theorem dX12_plan_21 : decode cX12_plan 21 = .ok (.aload_n 0, 1) := by decide +kernel
theorem dX12_plan_22 : decode cX12_plan 22 = .ok (.iload_n 1, 1) := by decide +kernel
theorem dX12_plan_23 : decode cX12_plan 23 = .ok (.iload_n 2, 1) := by decide +kernel
theorem dX12_plan_24 : decode cX12_plan 24 = .ok (.invokevirtual 485, 3) := by decide +kernel
theorem dX12_plan_27 : decode cX12_plan 27 = .ok (.aload_n 0, 1) := by decide +kernel
theorem dX12_plan_28 : decode cX12_plan 28 = .ok (.getfield 125, 3) := by decide +kernel
theorem dX12_plan_31 : decode cX12_plan 31 = .ok (.iload_n 2, 1) := by decide +kernel
theorem dX12_plan_32 : decode cX12_plan 32 = .ok (.iaload, 1) := by decide +kernel
theorem dX12_plan_33 : decode cX12_plan 33 = .ok (.ireturn, 1) := by decide +kernel
theorem dX12_planned_47 : decode cX12_planned 47 = .ok (.iload 5, 2) := by decide +kernel
theorem dX12_planned_49 : decode cX12_planned 49 = .ok (.iload_n 3, 1) := by decide +kernel
theorem dX12_planned_50 : decode cX12_planned 50 = .ok (.if_icmp .ge 55, 3) := by decide +kernel
theorem dX12_planned_105 : decode cX12_planned 105 = .ok (.aload_n 0, 1) := by decide +kernel
theorem dX12_planned_106 : decode cX12_planned 106 = .ok (.getfield 128, 3) := by decide +kernel
theorem dX12_planned_109 : decode cX12_planned 109 = .ok (.sipush 401, 3) := by decide +kernel
theorem dX12_planned_112 : decode cX12_planned 112 = .ok (.iload_n 3, 1) := by decide +kernel
theorem dX12_planned_113 : decode cX12_planned 113 = .ok (.imul, 1) := by decide +kernel
theorem dX12_planned_114 : decode cX12_planned 114 = .ok (.iload 4, 2) := by decide +kernel
theorem dX12_planned_116 : decode cX12_planned 116 = .ok (.iadd, 1) := by decide +kernel
theorem dX12_planned_117 : decode cX12_planned 117 = .ok (.iaload, 1) := by decide +kernel
theorem dX12_planned_118 : decode cX12_planned 118 = .ok (.ireturn, 1) := by decide +kernel
theorem dX12_planned_53 : decode cX12_planned 53 = .ok (.aload_n 0, 1) := by decide +kernel
theorem dX12_planned_54 : decode cX12_planned 54 = .ok (.getfield 128, 3) := by decide +kernel
theorem dX12_planned_57 : decode cX12_planned 57 = .ok (.sipush 401, 3) := by decide +kernel
theorem dX12_planned_60 : decode cX12_planned 60 = .ok (.iload 5, 2) := by decide +kernel
theorem dX12_planned_62 : decode cX12_planned 62 = .ok (.imul, 1) := by decide +kernel
theorem dX12_planned_63 : decode cX12_planned 63 = .ok (.iload 4, 2) := by decide +kernel
theorem dX12_planned_65 : decode cX12_planned 65 = .ok (.iadd, 1) := by decide +kernel
theorem dX12_planned_66 : decode cX12_planned 66 = .ok (.iaload, 1) := by decide +kernel
theorem dX12_planned_67 : decode cX12_planned 67 = .ok (.istore 6, 2) := by decide +kernel
theorem dX12_planned_69 : decode cX12_planned 69 = .ok (.aload_n 0, 1) := by decide +kernel
theorem dX12_planned_70 : decode cX12_planned 70 = .ok (.iload 6, 2) := by decide +kernel
theorem dX12_planned_72 : decode cX12_planned 72 = .ok (.invokevirtual 423, 3) := by decide +kernel
theorem dX12_planned_75 : decode cX12_planned 75 = .ok (.istore 7, 2) := by decide +kernel
theorem dX12_planned_77 : decode cX12_planned 77 = .ok (.iload 4, 2) := by decide +kernel
theorem dX12_planned_79 : decode cX12_planned 79 = .ok (.iload 7, 2) := by decide +kernel
theorem dX12_planned_81 : decode cX12_planned 81 = .ok (.ifCond .eq 14, 3) := by decide +kernel
theorem dX12_planned_95 : decode cX12_planned 95 = .ok (.iconst 0, 1) := by decide +kernel
theorem dX12_planned_96 : decode cX12_planned 96 = .ok (.isub, 1) := by decide +kernel
theorem dX12_planned_97 : decode cX12_planned 97 = .ok (.istore 4, 2) := by decide +kernel
theorem dX12_planned_99 : decode cX12_planned 99 = .ok (.iinc 5 1, 3) := by decide +kernel
theorem dX12_planned_102 : decode cX12_planned 102 = .ok (.goto (-55), 3) := by decide +kernel
theorem dX12_planned_84 : decode cX12_planned 84 = .ok (.aload_n 0, 1) := by decide +kernel
theorem dX12_planned_85 : decode cX12_planned 85 = .ok (.iload_n 1, 1) := by decide +kernel
theorem dX12_planned_86 : decode cX12_planned 86 = .ok (.iload 5, 2) := by decide +kernel
theorem dX12_planned_88 : decode cX12_planned 88 = .ok (.invokevirtual 438, 3) := by decide +kernel
theorem dX12_planned_91 : decode cX12_planned 91 = .ok (.l2i, 1) := by decide +kernel
theorem dX12_planned_92 : decode cX12_planned 92 = .ok (.goto 4, 3) := by decide +kernel
theorem dX12_planned_0 : decode cX12_planned 0 = .ok (.aload_n 0, 1) := by decide +kernel
theorem dX12_planned_1 : decode cX12_planned 1 = .ok (.iload_n 1, 1) := by decide +kernel
theorem dX12_planned_2 : decode cX12_planned 2 = .ok (.invokevirtual 431, 3) := by decide +kernel
theorem dX12_planned_5 : decode cX12_planned 5 = .ok (.ifCond .eq 28, 3) := by decide +kernel
theorem dX12_planned_33 : decode cX12_planned 33 = .ok (.iconst (-1), 1) := by decide +kernel
theorem dX12_planned_34 : decode cX12_planned 34 = .ok (.ireturn, 1) := by decide +kernel
theorem dX12_planned_8 : decode cX12_planned 8 = .ok (.iload_n 2, 1) := by decide +kernel
theorem dX12_planned_9 : decode cX12_planned 9 = .ok (.iconst 0, 1) := by decide +kernel
theorem dX12_planned_10 : decode cX12_planned 10 = .ok (.sipush 400, 3) := by decide +kernel
theorem dX12_planned_13 : decode cX12_planned 13 = .ok (.invokestatic 324, 3) := by decide +kernel
theorem dX12_planned_16 : decode cX12_planned 16 = .ok (.ifCond .eq 17, 3) := by decide +kernel
theorem dX12_planned_19 : decode cX12_planned 19 = .ok (.iload_n 3, 1) := by decide +kernel
theorem dX12_planned_20 : decode cX12_planned 20 = .ok (.iconst 0, 1) := by decide +kernel
theorem dX12_planned_21 : decode cX12_planned 21 = .ok (.aload_n 0, 1) := by decide +kernel
theorem dX12_planned_22 : decode cX12_planned 22 = .ok (.getfield 249, 3) := by decide +kernel
theorem dX12_planned_25 : decode cX12_planned 25 = .ok (.iconst 1, 1) := by decide +kernel
theorem dX12_planned_26 : decode cX12_planned 26 = .ok (.isub, 1) := by decide +kernel
theorem dX12_planned_27 : decode cX12_planned 27 = .ok (.invokestatic 324, 3) := by decide +kernel
theorem dX12_planned_30 : decode cX12_planned 30 = .ok (.ifCond .ne 5, 3) := by decide +kernel
theorem dX12_planned_35 : decode cX12_planned 35 = .ok (.aload_n 0, 1) := by decide +kernel
theorem dX12_planned_36 : decode cX12_planned 36 = .ok (.iload_n 1, 1) := by decide +kernel
theorem dX12_planned_37 : decode cX12_planned 37 = .ok (.iload_n 2, 1) := by decide +kernel
theorem dX12_planned_38 : decode cX12_planned 38 = .ok (.invokevirtual 485, 3) := by decide +kernel
theorem dX12_planned_41 : decode cX12_planned 41 = .ok (.iload_n 2, 1) := by decide +kernel
theorem dX12_planned_42 : decode cX12_planned 42 = .ok (.istore 4, 2) := by decide +kernel
theorem dX12_planned_44 : decode cX12_planned 44 = .ok (.iconst 0, 1) := by decide +kernel
theorem dX12_planned_45 : decode cX12_planned 45 = .ok (.istore 5, 2) := by decide +kernel
theorem rx_435ef8e752 : Int32.ofInt 400 = 400 := by decide
theorem rx_e958b5e9fa : (400 : Int32).toInt = 400 := by decide
theorem rx_5d378894b5 : 54 ∉ [37] := by decide
theorem rx_f762c51f00 : 55 ∉ [37] := by decide
def ow_n_plan : List Cond := [.fieldLink RX12 125 "NearEnoughModel" "mostSaved" "[I"]
def vs_n_plan : List Cond := .code yX12_plan cX12_plan 3 (some .int) :: (ow_n_plan ++ (([.methodLink RX12 431 yX12_isEnd, .instanceMethod yX12_isEnd, .selects RX12 yX12_isEnd yX12_isEnd, .initialized RX12] : List Cond) ++ (vs_n_isEnd ++ (([.methodLink RX12 324 yX12_isIn, .static yX12_isIn, .initialized yX12_isIn.cls] : List Cond) ++ (vs_n_isIn ++ (([.methodLink RX12 485 yX12_layPlan, .instanceMethod yX12_layPlan, .selects RX12 yX12_layPlan yX12_layPlan, .initialized RX12] : List Cond) ++ (vs_n_layPlan ++ (wsX120))))))))
theorem vg_n_plan : vs_n_plan.all goodWord = true := by decide +kernel
theorem dd_n_plan : yX12_plan.cls = RX12 ∧ yX12_plan.cls ≠ "java/lang/invoke/MethodHandle" ∧ yX12_plan.cls ≠ "java/lang/invoke/VarHandle" ∧ (parseMethodDescriptor yX12_plan.desc).map (fun d => d.parameters.length) = some 2 := by decide +kernel
def rm_n_plan : Room := { frames := 8, cells := 0, slots := 0, locals := 207 }
theorem gd_n_plan_431_n_isEnd : GoodIn vs_n_plan (wsV RX12 431 RX12 yX12_isEnd vs_n_isEnd) := goodIn_app (goodIn_sub (fun w h => (List.mem_cons_of_mem _ (List.mem_append_right _ (List.mem_append_left _ h)))) (by decide +kernel)) (goodIn_sub (fun w h => (List.mem_cons_of_mem _ (List.mem_append_right _ (List.mem_append_right _ (List.mem_append_left _ h))))) vg_n_isEnd)
theorem gd_n_plan_324_n_isIn : GoodIn vs_n_plan (va_wsS RX12 324 yX12_isIn vs_n_isIn) := goodIn_app (goodIn_sub (fun w h => (List.mem_cons_of_mem _ (List.mem_append_right _ (List.mem_append_right _ (List.mem_append_right _ (List.mem_append_left _ h)))))) (by decide +kernel)) (goodIn_sub (fun w h => (List.mem_cons_of_mem _ (List.mem_append_right _ (List.mem_append_right _ (List.mem_append_right _ (List.mem_append_right _ (List.mem_append_left _ h))))))) vg_n_isIn)
theorem gd_n_plan_485_n_layPlan : GoodIn vs_n_plan (wsV RX12 485 RX12 yX12_layPlan vs_n_layPlan) := goodIn_app (goodIn_sub (fun w h => (List.mem_cons_of_mem _ (List.mem_append_right _ (List.mem_append_right _ (List.mem_append_right _ (List.mem_append_right _ (List.mem_append_right _ (List.mem_append_left _ h)))))))) (by decide +kernel)) (goodIn_sub (fun w h => (List.mem_cons_of_mem _ (List.mem_append_right _ (List.mem_append_right _ (List.mem_append_right _ (List.mem_append_right _ (List.mem_append_right _ (List.mem_append_right _ (List.mem_append_left _ h))))))))) vg_n_layPlan)
set_option maxHeartbeats 4000000 in
set_option maxRecDepth 100000 in
theorem n_plan (l : Launch) (dC : Nat → ClassId) (dI : Nat → Nat → Nat) (h : Nat) (ad : Nat → Nat) (cl : Nat → ClassId) (sz : Nat) (σ : MS) (x : Int32) (y : Int32) (hI : Inv σ) (hRI : RI σ) : Met l yX12_plan vs_n_plan rm_n_plan (va_Pc [.ref h, .int x, .int y] (wSt dC dI (mW h ad cl σ) (mT cl) sz)) (va_Qi (fun (r : Int32) (τ : MS) => Inv τ ∧ eqx [37, 41, 42, 43, 44, 45, 46, 32, 47, 48, 49, 54, 55, 56, 57] τ σ) (fun (τ : MS) => wEn dC dI (va_A (mW h ad cl σ) sz) (mW h ad cl τ) []) (va_A (mW h ad cl σ) sz)) 0 0 (va_A (mW h ad cl σ) sz) := by
  refine Met.ofW (cc := cX12_plan) (maxL := 3) (ret := (some .int)) (by decide) rfl ?_
  intro p e s m args below meth c s₁ B hml hv
  obtain ⟨rfl, hsz, hP, hK, hD0, hE⟩ := hv
  have hx := B.exec
  have hb := B.bytes
  have hr := B.returns
  have hts := atoms_spec (ws := vs_n_plan) B.pre
  have hown : s.vm.findClass RX12 = some m.cls := findClass_of_methodNamed B.named
  have hlocks := B.notSynchronized
  subst hsz
  have hD := hD0.self (sz := s.heap.size)
  generalize hAe : va_A (mW h ad cl σ) s.heap.size = A at hD ⊢
  have hA : ∀ q : Nat, s.heap.size ≤ q → A q := fun q h => by rw [← hAe]; exact Or.inr h
  have hl := lv_entry ([.ref h, .int x, .int y]) (n := 3) (Nat.le_of_ble_eq_true rfl)
  rw [lg_entry_eq]
  generalize (lg_sl ([.ref h, .int x, .int y]) ++ List.replicate (3 - (lg_sl ([.ref h, .int x, .int y])).length) Slot.unset).toArray = ls at hl ⊢
  have hl : lv_has ls 3 [(0, .ref h), (1, .int x), (2, .int y)] := hl
  have ho := fun w (h : w ∈ ow_n_plan) => hts w (List.mem_cons_of_mem _ (List.mem_append_left _ h))
  have hin12 : ∀ w ∈ u_ws RX12 TX12 59, w ∈ vs_n_plan := fun w h => (List.mem_cons_of_mem _ (List.mem_append_right _ (List.mem_append_right _ (List.mem_append_right _ (List.mem_append_right _ (List.mem_append_right _ (List.mem_append_right _ (List.mem_append_right _ h))))))))
  refine zQ (fun Q hQ => ?_)
  have hR : RelP σ (σ.1 29).toNatClampNeg := hRI.1
  have hC : ChR σ := hRI.2.2.1
  refine zH (A := A) (ws := mW h ad cl σ) (fun H hP hS => ?_) hP
  have bσ_29 : 0 ≤ (σ.1 29).toInt ∧ (σ.1 29).toInt ≤ 1 := hI.1 29
  refine lv_aload_n hx hb dX12_plan_0 rfl (lv_at hl 0 rfl) ?_
  refine lv_iload_n hx hb dX12_plan_1 rfl (lv_at hl 1 rfl) ?_
  refine zy_i (va_runV (As := [.int x]) (rest := []) ⟨hx, hb, hml, hown, hts⟩ (n_isEnd l dC dI h ad cl H.size σ x hI) (cwV 1 hts gd_n_plan_431_n_isEnd rfl rfl rfl dd_n_isEnd ⟨Nat.le_of_ble_eq_true rfl, Nat.le_of_ble_eq_true rfl⟩) (preV hP hK hD hE (ci := 12) (q0 := 0) rfl rfl) rfl rfl hl.1 rfl (lv_room (Nat.le_of_ble_eq_true rfl)) dX12_plan_2 ⟨Nat.le_of_ble_eq_true rfl, Nat.le_of_ble_eq_true rfl⟩) hD hS hA (fun z2_ τ1_ H locs hq hP hD hS => ?_)
  obtain ⟨rfl, f3_⟩ := hq
  refine W.widen (k := 0) (n := 0) (Nat.le_of_ble_eq_true rfl) (Nat.le_of_ble_eq_true rfl) ?_
  refine lv_if_eq (tgt := 19) hx hb dX12_plan_5 rfl (fun c4_ => ?_) (fun c4_ => ?_)
  · have tc4_ := (show z2_.toInt = 0 from ti_eq rfl rg_11 c4_)
    refine lv_iconst (v := (-1)) hx hb dX12_plan_19 rg_53 ?_
    rw [hQ]
    exact W.iret (v := (-1)) hx hb hr (fun t ht hW => ⟨⟨(-1), σ, rfl, ⟨hI, eqx.rf⟩, wEn_of hP (hK.sub [] rfl) hD ht hW⟩, hS.F ht⟩) hS.2.2 dX12_plan_20
  · have tc4_ := (show z2_.toInt ≠ 0 from ti_ne rfl rg_11 c4_)
    refine lv_iload_n hx hb dX12_plan_8 rfl (lv_at hl 2 rfl) ?_
    refine lv_iconst (v := 0) hx hb dX12_plan_9 rg_0 ?_
    refine lv_sipush (v := 400) hx hb dX12_plan_10 rx_435ef8e752 ?_
    have kk5_ : (0 : Int32).toInt = 0 := rg_11
    have kk6_ : (400 : Int32).toInt = 400 := rx_e958b5e9fa
    refine zs_i (va_runS (As := [.int y, .int 0, .int 400]) (rest := []) ⟨hx, hb, hml, hown, hts⟩ (n_isIn l dC dI y 0 400  H.size) (va_cwS 3 hts gd_n_plan_324_n_isIn rfl rfl rfl dd_n_isIn ⟨Nat.le_of_ble_eq_true rfl, Nat.le_of_ble_eq_true rfl⟩) (preS (A := A) empP (hK.sub (tys' := []) [] rfl) empD hE) rfl rfl hl.1 rfl (lv_room (Nat.le_of_ble_eq_true rfl)) dX12_plan_13 ⟨Nat.le_of_ble_eq_true rfl, Nat.le_of_ble_eq_true rfl⟩) hP hD hS hA (fun z7_ H locs hq hP hD hS => ?_)
    have f8_ := hq
    refine W.widen (k := 0) (n := 0) (Nat.le_of_ble_eq_true rfl) (Nat.le_of_ble_eq_true rfl) ?_
    refine lv_if_ne (tgt := 21) hx hb dX12_plan_16 rfl (fun c9_ => ?_) (fun c9_ => ?_)
    · have tc9_ := (show z7_.toInt ≠ 0 from ti_ne rfl rg_11 c9_)
      refine lv_aload_n hx hb dX12_plan_21 rfl (lv_at hl 0 rfl) ?_
      refine lv_iload_n hx hb dX12_plan_22 rfl (lv_at hl 1 rfl) ?_
      refine lv_iload_n hx hb dX12_plan_23 rfl (lv_at hl 2 rfl) ?_
      have o1 : 0 ≤ x.toInt := by omega
      have o2 : x.toInt ≤ 3 := by omega
      have o3 : x.toInt < (σ.2.1 13 (σ.1 29).toNatClampNeg).toInt := by omega
      have HE10_ : EndOk σ x := ⟨o1, o2, o3⟩
      have o4 : 0 ≤ y.toInt := by omega
      have o5 : y.toInt ≤ 400 := by omega
      refine zy_v (va_runV (As := [.int x, .int y]) (rest := []) ⟨hx, hb, hml, hown, hts⟩ (n_layPlan l dC dI h ad cl H.size σ x y hI hRI HE10_ ⟨o4, o5⟩) (cwV 2 hts gd_n_plan_485_n_layPlan rfl rfl rfl dd_n_layPlan ⟨Nat.le_of_ble_eq_true rfl, Nat.le_of_ble_eq_true rfl⟩) (preV hP hK hD hE (ci := 12) (q0 := 0) rfl rfl) rfl rfl hl.1 rfl (lv_room (Nat.le_of_ble_eq_true rfl)) dX12_plan_24 ⟨Nat.le_of_ble_eq_true rfl, Nat.le_of_ble_eq_true rfl⟩) hD hS hA (fun τ11_ H locs hq hP hD hS => ?_)
      obtain ⟨hI13_, hx14_, f15_⟩ := hq
      have Xτ11_ : eqx [37, 41, 42, 43, 44, 45, 46, 32, 47, 48, 49, 54, 55, 56, 57] τ11_ σ := eqx.tr hx14_ eqx.rf rg_592
      have qq16_ : (τ11_.1 29).toInt = ((σ.1 29) : Int32).toInt := congrArg Int32.toInt ((show τ11_.1 29 = (σ.1 29) from ((hx14_ 29 rg_571).1).trans rfl))
      refine W.widen (k := 0) (n := 0) (Nat.le_of_ble_eq_true rfl) (Nat.le_of_ble_eq_true rfl) ?_
      refine lv_aload_n hx hb dX12_plan_27 rfl (lv_at hl 0 rfl) ?_
      refine va_get (D := (dC, dI)) (ci := 12) (v := .ref (ad 54)) (C := RX12) (T := TX12) (N := 59) hx hb hts hin12 hown hK hP 0 rfl rfl 54 (Nat.le_of_ble_eq_true rfl) (ho (.fieldLink RX12 125 "NearEnoughModel" "mostSaved" "[I") (List.mem_of_getElem? (i := 0) rfl)) (fun _ h9 => h9) rfl dX12_plan_28 ?_
      refine lv_iload_n hx hb dX12_plan_31 rfl (lv_at hl 2 rfl) ?_
      have o6 : y.toInt < ((16441 : Nat) : Int) := by omega
      refine va_iald hx hb hK hP 37 36 rfl rfl (ti_inx o4 o6) dX12_plan_32 ?_
      refine lv_topi (fun z17_ ez17_ => ?_)
      have gz17_ : z17_.toInt = ((τ11_.2.1 54) (Int32.toNatClampNeg y)).toInt := congrArg Int32.toInt (ez17_.trans (congrFun rfl (Int32.toNatClampNeg y)))
      rw [hQ]
      exact W.iret (v := z17_) hx hb hr (fun t ht hW => ⟨⟨z17_, τ11_, rfl, ⟨hI13_, Xτ11_⟩, wEn_of hP (hK.sub [] rfl) hD ht hW⟩, hS.F ht⟩) hS.2.2 dX12_plan_33
    · have tc9_ := (show z7_.toInt = 0 from ti_eq rfl rg_11 c9_)
      refine lv_iconst (v := (-1)) hx hb dX12_plan_19 rg_53 ?_
      rw [hQ]
      exact W.iret (v := (-1)) hx hb hr (fun t ht hW => ⟨⟨(-1), σ, rfl, ⟨hI, eqx.rf⟩, wEn_of hP (hK.sub [] rfl) hD ht hW⟩, hS.F ht⟩) hS.2.2 dX12_plan_20
def ow_n_planned : List Cond := [.fieldLink RX12 128 "NearEnoughModel" "picked" "[I", .fieldLink RX12 249 "NearEnoughModel" "sheets" "I"]
def vs_n_planned : List Cond := .code yX12_planned cX12_planned 8 (some .int) :: (ow_n_planned ++ (([.methodLink RX12 423 yX12_isChoice, .instanceMethod yX12_isChoice, .selects RX12 yX12_isChoice yX12_isChoice, .initialized RX12] : List Cond) ++ (vs_n_isChoiceV ++ (([.methodLink RX12 438 yX12_farOn, .instanceMethod yX12_farOn, .selects RX12 yX12_farOn yX12_farOn, .initialized RX12] : List Cond) ++ (vs_n_farOn ++ (([.methodLink RX12 431 yX12_isEnd, .instanceMethod yX12_isEnd, .selects RX12 yX12_isEnd yX12_isEnd, .initialized RX12] : List Cond) ++ (vs_n_isEnd ++ (([.methodLink RX12 324 yX12_isIn, .static yX12_isIn, .initialized yX12_isIn.cls] : List Cond) ++ (vs_n_isIn ++ (([.methodLink RX12 485 yX12_layPlan, .instanceMethod yX12_layPlan, .selects RX12 yX12_layPlan yX12_layPlan, .initialized RX12] : List Cond) ++ (vs_n_layPlan ++ (wsX120))))))))))))
theorem vg_n_planned : vs_n_planned.all goodWord = true := by decide +kernel
theorem dd_n_planned : yX12_planned.cls = RX12 ∧ yX12_planned.cls ≠ "java/lang/invoke/MethodHandle" ∧ yX12_planned.cls ≠ "java/lang/invoke/VarHandle" ∧ (parseMethodDescriptor yX12_planned.desc).map (fun d => d.parameters.length) = some 3 := by decide +kernel
def rm_n_planned : Room := { frames := 8, cells := 0, slots := 0, locals := 207 }
theorem gd_n_planned_423_n_isChoiceV : GoodIn vs_n_planned (wsV RX12 423 RX12 yX12_isChoice vs_n_isChoiceV) := goodIn_app (goodIn_sub (fun w h => (List.mem_cons_of_mem _ (List.mem_append_right _ (List.mem_append_left _ h)))) (by decide +kernel)) (goodIn_sub (fun w h => (List.mem_cons_of_mem _ (List.mem_append_right _ (List.mem_append_right _ (List.mem_append_left _ h))))) vg_n_isChoiceV)
theorem gd_n_planned_438_n_farOn : GoodIn vs_n_planned (wsV RX12 438 RX12 yX12_farOn vs_n_farOn) := goodIn_app (goodIn_sub (fun w h => (List.mem_cons_of_mem _ (List.mem_append_right _ (List.mem_append_right _ (List.mem_append_right _ (List.mem_append_left _ h)))))) (by decide +kernel)) (goodIn_sub (fun w h => (List.mem_cons_of_mem _ (List.mem_append_right _ (List.mem_append_right _ (List.mem_append_right _ (List.mem_append_right _ (List.mem_append_left _ h))))))) vg_n_farOn)
theorem gd_n_planned_431_n_isEnd : GoodIn vs_n_planned (wsV RX12 431 RX12 yX12_isEnd vs_n_isEnd) := goodIn_app (goodIn_sub (fun w h => (List.mem_cons_of_mem _ (List.mem_append_right _ (List.mem_append_right _ (List.mem_append_right _ (List.mem_append_right _ (List.mem_append_right _ (List.mem_append_left _ h)))))))) (by decide +kernel)) (goodIn_sub (fun w h => (List.mem_cons_of_mem _ (List.mem_append_right _ (List.mem_append_right _ (List.mem_append_right _ (List.mem_append_right _ (List.mem_append_right _ (List.mem_append_right _ (List.mem_append_left _ h))))))))) vg_n_isEnd)
theorem gd_n_planned_324_n_isIn : GoodIn vs_n_planned (va_wsS RX12 324 yX12_isIn vs_n_isIn) := goodIn_app (goodIn_sub (fun w h => (List.mem_cons_of_mem _ (List.mem_append_right _ (List.mem_append_right _ (List.mem_append_right _ (List.mem_append_right _ (List.mem_append_right _ (List.mem_append_right _ (List.mem_append_right _ (List.mem_append_left _ h)))))))))) (by decide +kernel)) (goodIn_sub (fun w h => (List.mem_cons_of_mem _ (List.mem_append_right _ (List.mem_append_right _ (List.mem_append_right _ (List.mem_append_right _ (List.mem_append_right _ (List.mem_append_right _ (List.mem_append_right _ (List.mem_append_right _ (List.mem_append_left _ h))))))))))) vg_n_isIn)
theorem gd_n_planned_485_n_layPlan : GoodIn vs_n_planned (wsV RX12 485 RX12 yX12_layPlan vs_n_layPlan) := goodIn_app (goodIn_sub (fun w h => (List.mem_cons_of_mem _ (List.mem_append_right _ (List.mem_append_right _ (List.mem_append_right _ (List.mem_append_right _ (List.mem_append_right _ (List.mem_append_right _ (List.mem_append_right _ (List.mem_append_right _ (List.mem_append_right _ (List.mem_append_left _ h)))))))))))) (by decide +kernel)) (goodIn_sub (fun w h => (List.mem_cons_of_mem _ (List.mem_append_right _ (List.mem_append_right _ (List.mem_append_right _ (List.mem_append_right _ (List.mem_append_right _ (List.mem_append_right _ (List.mem_append_right _ (List.mem_append_right _ (List.mem_append_right _ (List.mem_append_right _ (List.mem_append_left _ h))))))))))))) vg_n_layPlan)
set_option maxHeartbeats 4000000 in
set_option maxRecDepth 100000 in
theorem n_planned (l : Launch) (dC : Nat → ClassId) (dI : Nat → Nat → Nat) (h : Nat) (ad : Nat → Nat) (cl : Nat → ClassId) (sz : Nat) (σ : MS) (x : Int32) (y : Int32) (z : Int32) (hI : Inv σ) (hRI : RI σ) : Met l yX12_planned vs_n_planned rm_n_planned (va_Pc [.ref h, .int x, .int y, .int z] (wSt dC dI (mW h ad cl σ) (mT cl) sz)) (va_Qi (fun (r : Int32) (τ : MS) => Inv τ ∧ eqx [37, 41, 42, 43, 44, 45, 46, 32, 47, 48, 49, 54, 55, 56, 57] τ σ) (fun (τ : MS) => wEn dC dI (va_A (mW h ad cl σ) sz) (mW h ad cl τ) []) (va_A (mW h ad cl σ) sz)) 0 0 (va_A (mW h ad cl σ) sz) := by
  refine Met.ofW (cc := cX12_planned) (maxL := 8) (ret := (some .int)) (by decide) rfl ?_
  intro p e s m args below meth c s₁ B hml hv
  obtain ⟨rfl, hsz, hP, hK, hD0, hE⟩ := hv
  have hx := B.exec
  have hb := B.bytes
  have hr := B.returns
  have hts := atoms_spec (ws := vs_n_planned) B.pre
  have hown : s.vm.findClass RX12 = some m.cls := findClass_of_methodNamed B.named
  have hlocks := B.notSynchronized
  subst hsz
  have hD := hD0.self (sz := s.heap.size)
  generalize hAe : va_A (mW h ad cl σ) s.heap.size = A at hD ⊢
  have hA : ∀ q : Nat, s.heap.size ≤ q → A q := fun q h => by rw [← hAe]; exact Or.inr h
  have hl := lv_entry ([.ref h, .int x, .int y, .int z]) (n := 8) (Nat.le_of_ble_eq_true rfl)
  rw [lg_entry_eq]
  generalize (lg_sl ([.ref h, .int x, .int y, .int z]) ++ List.replicate (8 - (lg_sl ([.ref h, .int x, .int y, .int z])).length) Slot.unset).toArray = ls at hl ⊢
  have hl : lv_has ls 8 [(0, .ref h), (1, .int x), (2, .int y), (3, .int z)] := hl
  have ho := fun w (h : w ∈ ow_n_planned) => hts w (List.mem_cons_of_mem _ (List.mem_append_left _ h))
  have hin12 : ∀ w ∈ u_ws RX12 TX12 59, w ∈ vs_n_planned := fun w h => (List.mem_cons_of_mem _ (List.mem_append_right _ (List.mem_append_right _ (List.mem_append_right _ (List.mem_append_right _ (List.mem_append_right _ (List.mem_append_right _ (List.mem_append_right _ (List.mem_append_right _ (List.mem_append_right _ (List.mem_append_right _ (List.mem_append_right _ h))))))))))))
  refine zQ (fun Q hQ => ?_)
  have hR : RelP σ (σ.1 29).toNatClampNeg := hRI.1
  have hC : ChR σ := hRI.2.2.1
  have pt_47 : ∀ (n47 : Nat) (τ : MS) (lf : Int32) (kv : Int32) (H : Heap) (locs : List Loc) (ls : Array Slot), (40 - kv.toInt).toNat < n47 → (Inv τ) → (eqx [37, 41, 42, 43, 44, 45, 46, 32, 47, 48, 49, 54, 55, 56, 57] τ σ) → (0 ≤ kv.toInt) → (0 ≤ lf.toInt ∧ lf.toInt ≤ y.toInt) → (PlanI σ x y.toInt (-1) τ) → (0 ≤ z.toInt ∧ z.toInt < (σ.1 39).toInt ∧ z.toInt ≤ 39 ∧ y.toInt ≤ 400) → (EndOk σ x) → va_P (dC, dI) vwCl (mW h ad cl τ) H → va_D A (mW h ad cl τ) → va_S A s.heap H locs → lv_has ls 8 [(0, .ref h), (1, .int x), (2, .int y), (3, .int z), (4, .int lf), (5, .int kv)] → W p l e (headSpec vs_n_planned rm_n_planned).room s m #[Value.ref h, Value.int x, Value.int y, Value.int z] below meth c H locs 0 0 Q (F0 m 47 ls []) := by
    intro n47
    induction n47 with
    | zero => intro τ lf kv H locs ls hn47 hIτ hxτ hk0 hlf hpl hzz hen hP hD hS hl; exact absurd hn47 (Nat.not_lt_zero _)
    | succ n47 ih47 =>
      intro τ lf kv H locs ls hn47 hIτ hxτ hk0 hlf hpl hzz hen hP hD hS hl
      have bτ_29 : 0 ≤ (τ.1 29).toInt ∧ (τ.1 29).toInt ≤ 1 := hIτ.1 29
      have qq1_ : (τ.1 29).toInt = ((σ.1 29) : Int32).toInt := congrArg Int32.toInt (((hxτ 29 rg_571).1))
      have bτ_39 : 0 ≤ (τ.1 39).toInt ∧ (τ.1 39).toInt ≤ 40 := hIτ.1 39
      have qq2_ : (τ.1 39).toInt = ((σ.1 39) : Int32).toInt := congrArg Int32.toInt (((hxτ 39 rg_582).1))
      refine lv_iload hx hb dX12_planned_47 (lv_at hl 5 rfl) ?_
      refine lv_iload_n hx hb dX12_planned_49 rfl (lv_at hl 3 rfl) ?_
      refine lv_icmp_ge (tgt := 105) hx hb dX12_planned_50 rfl (fun c3_ => ?_) (fun c3_ => ?_)
      · have tc3_ := (show z.toInt ≤ kv.toInt from ti_le rfl rfl c3_)
        refine lv_aload_n hx hb dX12_planned_105 rfl (lv_at hl 0 rfl) ?_
        refine va_get (D := (dC, dI)) (ci := 12) (v := .ref (ad 55)) (C := RX12) (T := TX12) (N := 59) hx hb hts hin12 hown hK hP 0 rfl rfl 55 (Nat.le_of_ble_eq_true rfl) (ho (.fieldLink RX12 128 "NearEnoughModel" "picked" "[I") (List.mem_of_getElem? (i := 0) rfl)) (fun _ h9 => h9) rfl dX12_planned_106 ?_
        refine lv_sipush (v := 401) hx hb dX12_planned_109 rx_a0035c103e ?_
        refine lv_iload_n hx hb dX12_planned_112 rfl (lv_at hl 3 rfl) ?_
        refine lv_imul hx hb dX12_planned_113 ?_
        refine lv_topi (fun z4_ ez4_ => ?_)
        have o1 : -2147483648 ≤ 401 * z.toInt := by omega
        have o2 : 401 * z.toInt ≤ 2147483647 := by omega
        have tz4_ : z4_.toInt = 401 * z.toInt := ti_mul ez4_ rx_50eca79386 rfl o1 o2
        refine lv_iload hx hb dX12_planned_114 (lv_at hl 4 rfl) ?_
        refine lv_iadd hx hb dX12_planned_116 ?_
        refine lv_topi (fun z5_ ez5_ => ?_)
        have o3 : -2147483648 ≤ z4_.toInt + lf.toInt := by omega
        have o4 : z4_.toInt + lf.toInt ≤ 2147483647 := by omega
        have tz5_ : z5_.toInt = z4_.toInt + lf.toInt := ti_add ez5_ rfl rfl o3 o4
        have o5 : 0 ≤ z5_.toInt := by omega
        have o6 : z5_.toInt < ((16441 : Nat) : Int) := by omega
        refine va_iald hx hb hK hP 38 37 rfl rfl (ti_inx o5 o6) dX12_planned_117 ?_
        refine lv_topi (fun z6_ ez6_ => ?_)
        have gz6_ : z6_.toInt = ((τ.2.1 55) (Int32.toNatClampNeg z5_)).toInt := congrArg Int32.toInt (ez6_.trans (congrFun rfl (Int32.toNatClampNeg z5_)))
        rw [hQ]
        exact W.iret (v := z6_) hx hb hr (fun t ht hW => ⟨⟨z6_, τ, rfl, ⟨hIτ, hxτ⟩, wEn_of hP (hK.sub [] rfl) hD ht hW⟩, hS.F ht⟩) hS.2.2 dX12_planned_118
      · have tc3_ := (show kv.toInt < z.toInt from ti_nle rfl rfl c3_)
        refine lv_aload_n hx hb dX12_planned_53 rfl (lv_at hl 0 rfl) ?_
        refine va_get (D := (dC, dI)) (ci := 12) (v := .ref (ad 55)) (C := RX12) (T := TX12) (N := 59) hx hb hts hin12 hown hK hP 0 rfl rfl 55 (Nat.le_of_ble_eq_true rfl) (ho (.fieldLink RX12 128 "NearEnoughModel" "picked" "[I") (List.mem_of_getElem? (i := 0) rfl)) (fun _ h9 => h9) rfl dX12_planned_54 ?_
        refine lv_sipush (v := 401) hx hb dX12_planned_57 rx_a0035c103e ?_
        refine lv_iload hx hb dX12_planned_60 (lv_at hl 5 rfl) ?_
        refine lv_imul hx hb dX12_planned_62 ?_
        refine lv_topi (fun z7_ ez7_ => ?_)
        have o7 : -2147483648 ≤ 401 * kv.toInt := by omega
        have o8 : 401 * kv.toInt ≤ 2147483647 := by omega
        have tz7_ : z7_.toInt = 401 * kv.toInt := ti_mul ez7_ rx_50eca79386 rfl o7 o8
        refine lv_iload hx hb dX12_planned_63 (lv_at hl 4 rfl) ?_
        refine lv_iadd hx hb dX12_planned_65 ?_
        refine lv_topi (fun z8_ ez8_ => ?_)
        have o9 : -2147483648 ≤ z7_.toInt + lf.toInt := by omega
        have o10 : z7_.toInt + lf.toInt ≤ 2147483647 := by omega
        have tz8_ : z8_.toInt = z7_.toInt + lf.toInt := ti_add ez8_ rfl rfl o9 o10
        have o11 : 0 ≤ z8_.toInt := by omega
        have o12 : z8_.toInt < ((16441 : Nat) : Int) := by omega
        refine va_iald hx hb hK hP 38 37 rfl rfl (ti_inx o11 o12) dX12_planned_66 ?_
        refine lv_topi (fun z9_ ez9_ => ?_)
        have gz9_ : z9_.toInt = ((τ.2.1 55) (Int32.toNatClampNeg z8_)).toInt := congrArg Int32.toInt (ez9_.trans (congrFun rfl (Int32.toNatClampNeg z8_)))
        have o13 : 0 ≤ kv.toInt := by omega
        have qkv_ := ti_cl (x := kv) rfl o13
        have o14 : 0 ≤ lf.toInt := by omega
        have qlf_ := ti_cl (x := lf) rfl o14
        have qz_ := ti_cl (x := z8_) rfl o11
        have pk_ : PkOk σ x kv.toNatClampNeg lf.toNatClampNeg z9_ := by have h8 := hpl.2 kv.toNatClampNeg lf.toNatClampNeg (by omega) (by omega) (by omega); rw [show 401 * kv.toNatClampNeg + lf.toNatClampNeg = z8_.toNatClampNeg by omega, ← ez9_] at h8; exact h8
        obtain ⟨r0_, fc_, r1_, r2_⟩ := pk_
        rw [nI_cl hk0] at fc_
        refine lv_istore (lv' := [(6, .int z9_), (0, .ref h), (1, .int x), (2, .int y), (3, .int z), (4, .int lf), (5, .int kv)]) hx hb dX12_planned_67 hl (Nat.le_of_ble_eq_true rfl) rfl (fun ls hl => ?_)
        refine lv_aload_n hx hb dX12_planned_69 rfl (lv_at hl 1 rfl) ?_
        refine lv_iload hx hb dX12_planned_70 (lv_at hl 0 rfl) ?_
        refine zy_i (va_runV (As := [.int z9_]) (rest := []) ⟨hx, hb, hml, hown, hts⟩ (n_isChoiceV l dC dI h ad cl H.size τ z9_ hIτ) (cwV 1 hts gd_n_planned_423_n_isChoiceV rfl rfl rfl dd_n_isChoiceV ⟨Nat.le_of_ble_eq_true rfl, Nat.le_of_ble_eq_true rfl⟩) (preV hP hK hD hE (ci := 12) (q0 := 0) rfl rfl) rfl rfl hl.1 rfl (lv_room (Nat.le_of_ble_eq_true rfl)) dX12_planned_72 ⟨Nat.le_of_ble_eq_true rfl, Nat.le_of_ble_eq_true rfl⟩) hD hS hA (fun z11_ τ10_ H locs hq hP hD hS => ?_)
        obtain ⟨hI12_, hx13_, f14_⟩ := hq
        have Xτ10_ : eqx [37, 41, 42, 43, 44, 45, 46, 32, 47, 48, 49, 54, 55, 56, 57] τ10_ σ := eqx.tr hx13_ hxτ rg_578
        have qq15_ : (τ10_.1 29).toInt = ((σ.1 29) : Int32).toInt := congrArg Int32.toInt ((show τ10_.1 29 = (σ.1 29) from ((hx13_ 29 rg_552).1).trans ((hxτ 29 rg_571).1)))
        have qq16_ : (τ10_.1 39).toInt = ((σ.1 39) : Int32).toInt := congrArg Int32.toInt ((show τ10_.1 39 = (σ.1 39) from ((hx13_ 39 rg_626).1).trans ((hxτ 39 rg_582).1)))
        refine W.widen (k := 0) (n := 0) (Nat.le_of_ble_eq_true rfl) (Nat.le_of_ble_eq_true rfl) ?_
        refine lv_istore (lv' := [(7, .int z11_), (6, .int z9_), (0, .ref h), (1, .int x), (2, .int y), (3, .int z), (4, .int lf), (5, .int kv)]) hx hb dX12_planned_75 hl (Nat.le_of_ble_eq_true rfl) rfl (fun ls hl => ?_)
        refine lv_iload hx hb dX12_planned_77 (lv_at hl 6 rfl) ?_
        refine lv_iload hx hb dX12_planned_79 (lv_at hl 0 rfl) ?_
        refine lv_if_eq (tgt := 95) hx hb dX12_planned_81 rfl (fun c17_ => ?_) (fun c17_ => ?_)
        · have tc17_ := (show z11_.toInt = 0 from ti_eq rfl rg_11 c17_)
          refine lv_iconst (v := 0) hx hb dX12_planned_95 rg_0 ?_
          refine lv_isub hx hb dX12_planned_96 ?_
          refine lv_topi (fun z18_ ez18_ => ?_)
          have o15 : -2147483648 ≤ lf.toInt - 0 := by omega
          have o16 : lf.toInt - 0 ≤ 2147483647 := by omega
          have tz18_ : z18_.toInt = lf.toInt - 0 := ti_sub ez18_ rfl rg_11 o15 o16
          refine lv_istore (lv' := [(4, .int z18_), (7, .int z11_), (6, .int z9_), (0, .ref h), (1, .int x), (2, .int y), (3, .int z), (5, .int kv)]) hx hb dX12_planned_97 hl (Nat.le_of_ble_eq_true rfl) rfl (fun ls hl => ?_)
          obtain ⟨z19_, ez19_⟩ : ∃ y : Int32, y = kv + 1 := ⟨_, rfl⟩
          have o17 : -2147483648 ≤ kv.toInt + 1 := by omega
          have o18 : kv.toInt + 1 ≤ 2147483647 := by omega
          have tz19_ := ti_add ez19_ rfl rg_18 o17 o18
          refine lv_iinc (v := z19_) (lv' := [(5, .int z19_), (4, .int z18_), (7, .int z11_), (6, .int z9_), (0, .ref h), (1, .int x), (2, .int y), (3, .int z)]) hx hb dX12_planned_99 hl (k := 7) rfl (iincp ez19_ rg_6) (Nat.le_of_ble_eq_true rfl) rfl (fun ls hl => ?_)
          refine lv_goto (tgt := 47) hx hb dX12_planned_102 rfl ?_
          have C54 : (τ10_).2.1 54 = (τ.2.1 54) := (((hx13_ 54 rx_5d378894b5).2.1).trans rfl)
          have C55 : (τ10_).2.1 55 = (τ.2.1 55) := (((hx13_ 55 rx_f762c51f00).2.1).trans rfl)
          have o19 : 0 ≤ z19_.toInt := by omega
          have o20 : (40 - z19_.toInt).toNat < n47 := by omega
          have o21 : 0 ≤ z18_.toInt ∧ z18_.toInt ≤ y.toInt := by omega
          exact ih47 τ10_ z18_ z19_ _ _ _ (show (40 - z19_.toInt).toNat < n47 from o20) hI12_ Xτ10_ o19 (show 0 ≤ z18_.toInt ∧ z18_.toInt ≤ y.toInt from o21) (PlanI.cg hpl C54 C55) hzz hen hP hD hS (lv_sub hl [4, 5, 6, 7, 1, 0] rfl)
        · have tc17_ := (show z11_.toInt ≠ 0 from ti_ne rfl rg_11 c17_)
          refine lv_aload_n hx hb dX12_planned_84 rfl (lv_at hl 2 rfl) ?_
          refine lv_iload_n hx hb dX12_planned_85 rfl (lv_at hl 3 rfl) ?_
          refine lv_iload hx hb dX12_planned_86 (lv_at hl 7 rfl) ?_
          have o22 : ¬ z11_.toInt = 0 := by omega
          have POK20_ : OnR τ z9_ (τ10_.2.1 37) := by rcases f14_ with q | q; exact q.2; exact absurd q.1 o22
          have OK20_ : OnOk τ10_ := OnR.ok hIτ (ChR.x hC hxτ rg_571 rg_588 rg_572 rg_589 rg_590 rg_591) hx13_ rg_620 rg_621 POK20_
          have o23 : kv.toInt ≤ 39 := by omega
          refine zy_l (va_runV (As := [.int x, .int kv]) (rest := [.int lf]) ⟨hx, hb, hml, hown, hts⟩ (n_farOn l dC dI h ad cl H.size τ10_ x kv hI12_ (RelP.x hR Xτ10_ rg_571 rg_572) OK20_ (EndOk.x hen Xτ10_ rg_571 rg_577) ⟨o13, o23⟩) (cwV 2 hts gd_n_planned_438_n_farOn rfl rfl rfl dd_n_farOn ⟨Nat.le_of_ble_eq_true rfl, Nat.le_of_ble_eq_true rfl⟩) (preV hP hK hD hE (ci := 12) (q0 := 0) rfl rfl) rfl rfl hl.1 rfl (lv_room (Nat.le_of_ble_eq_true rfl)) dX12_planned_88 ⟨Nat.le_of_ble_eq_true rfl, Nat.le_of_ble_eq_true rfl⟩) hD hS hA (fun y22_ τ21_ H locs hq hP hD hS => ?_)
          obtain ⟨hI23_, hx24_, f25_⟩ := hq
          have Xτ21_ : eqx [37, 41, 42, 43, 44, 45, 46, 32, 47, 48, 49, 54, 55, 56, 57] τ21_ σ := eqx.tr hx24_ Xτ10_ rg_575
          have qq26_ : (τ21_.1 29).toInt = ((σ.1 29) : Int32).toInt := congrArg Int32.toInt ((show τ21_.1 29 = (σ.1 29) from ((hx24_ 29 rg_483).1).trans (show τ10_.1 29 = (σ.1 29) from ((hx13_ 29 rg_552).1).trans ((hxτ 29 rg_571).1))))
          have qq27_ : (τ21_.1 39).toInt = ((σ.1 39) : Int32).toInt := congrArg Int32.toInt ((show τ21_.1 39 = (σ.1 39) from ((hx24_ 39 rg_576).1).trans (show τ10_.1 39 = (σ.1 39) from ((hx13_ 39 rg_626).1).trans ((hxτ 39 rg_582).1))))
          refine W.widen (k := 0) (n := 0) (Nat.le_of_ble_eq_true rfl) (Nat.le_of_ble_eq_true rfl) ?_
          have fd_ : FarC σ x kv z9_ y22_ := FarP.c Xτ10_ rg_571 rx_dc7f379244 rx_855be26bc0 rx_741c22981e (OnR.y POK20_ hxτ rg_588 rg_589) f25_
          have fe_ : y22_.toInt = r0_.toInt := congrArg Int64.toInt (FarC.uniq hI hR hen fd_ fc_)
          refine lv_l2i hx hb dX12_planned_91 rfl ?_
          refine lv_topi (fun z28_ ez28_ => ?_)
          have o24 : 0 ≤ y22_.toInt := by omega
          have o25 : y22_.toInt ≤ 1000000000 := by omega
          have tz28_ := l2i_val ez28_ o24 o25
          refine lv_goto (tgt := 96) hx hb dX12_planned_92 rfl ?_
          refine lv_isub hx hb dX12_planned_96 ?_
          refine lv_topi (fun z29_ ez29_ => ?_)
          have o26 : -2147483648 ≤ lf.toInt - z28_.toInt := by omega
          have o27 : lf.toInt - z28_.toInt ≤ 2147483647 := by omega
          have tz29_ : z29_.toInt = lf.toInt - z28_.toInt := ti_sub ez29_ rfl rfl o26 o27
          refine lv_istore (lv' := [(4, .int z29_), (7, .int z11_), (6, .int z9_), (0, .ref h), (1, .int x), (2, .int y), (3, .int z), (5, .int kv)]) hx hb dX12_planned_97 hl (Nat.le_of_ble_eq_true rfl) rfl (fun ls hl => ?_)
          obtain ⟨z30_, ez30_⟩ : ∃ y : Int32, y = kv + 1 := ⟨_, rfl⟩
          have o28 : -2147483648 ≤ kv.toInt + 1 := by omega
          have o29 : kv.toInt + 1 ≤ 2147483647 := by omega
          have tz30_ := ti_add ez30_ rfl rg_18 o28 o29
          refine lv_iinc (v := z30_) (lv' := [(5, .int z30_), (4, .int z29_), (7, .int z11_), (6, .int z9_), (0, .ref h), (1, .int x), (2, .int y), (3, .int z)]) hx hb dX12_planned_99 hl (k := 7) rfl (iincp ez30_ rg_6) (Nat.le_of_ble_eq_true rfl) rfl (fun ls hl => ?_)
          refine lv_goto (tgt := 47) hx hb dX12_planned_102 rfl ?_
          have C54 : (τ21_).2.1 54 = (τ.2.1 54) := (((hx24_ 54 rx_6b504fed07).2.1).trans (((hx13_ 54 rx_5d378894b5).2.1).trans rfl))
          have C55 : (τ21_).2.1 55 = (τ.2.1 55) := (((hx24_ 55 rx_3fa7054373).2.1).trans (((hx13_ 55 rx_f762c51f00).2.1).trans rfl))
          have o30 : 0 ≤ z30_.toInt := by omega
          have o31 : (40 - z30_.toInt).toNat < n47 := by omega
          have o32 : 0 ≤ z29_.toInt ∧ z29_.toInt ≤ y.toInt := by omega
          exact ih47 τ21_ z29_ z30_ _ _ _ (show (40 - z30_.toInt).toNat < n47 from o31) hI23_ Xτ21_ o30 (show 0 ≤ z29_.toInt ∧ z29_.toInt ≤ y.toInt from o32) (PlanI.cg hpl C54 C55) hzz hen hP hD hS (lv_sub hl [4, 5, 6, 7, 1, 0] rfl)
  refine zH (A := A) (ws := mW h ad cl σ) (fun H hP hS => ?_) hP
  have bσ_29 : 0 ≤ (σ.1 29).toInt ∧ (σ.1 29).toInt ≤ 1 := hI.1 29
  have bσ_39 : 0 ≤ (σ.1 39).toInt ∧ (σ.1 39).toInt ≤ 40 := hI.1 39
  refine lv_aload_n hx hb dX12_planned_0 rfl (lv_at hl 0 rfl) ?_
  refine lv_iload_n hx hb dX12_planned_1 rfl (lv_at hl 1 rfl) ?_
  refine zy_i (va_runV (As := [.int x]) (rest := []) ⟨hx, hb, hml, hown, hts⟩ (n_isEnd l dC dI h ad cl H.size σ x hI) (cwV 1 hts gd_n_planned_431_n_isEnd rfl rfl rfl dd_n_isEnd ⟨Nat.le_of_ble_eq_true rfl, Nat.le_of_ble_eq_true rfl⟩) (preV hP hK hD hE (ci := 12) (q0 := 0) rfl rfl) rfl rfl hl.1 rfl (lv_room (Nat.le_of_ble_eq_true rfl)) dX12_planned_2 ⟨Nat.le_of_ble_eq_true rfl, Nat.le_of_ble_eq_true rfl⟩) hD hS hA (fun z32_ τ31_ H locs hq hP hD hS => ?_)
  obtain ⟨rfl, f33_⟩ := hq
  refine W.widen (k := 0) (n := 0) (Nat.le_of_ble_eq_true rfl) (Nat.le_of_ble_eq_true rfl) ?_
  refine lv_if_eq (tgt := 33) hx hb dX12_planned_5 rfl (fun c34_ => ?_) (fun c34_ => ?_)
  · have tc34_ := (show z32_.toInt = 0 from ti_eq rfl rg_11 c34_)
    refine lv_iconst (v := (-1)) hx hb dX12_planned_33 rg_53 ?_
    rw [hQ]
    exact W.iret (v := (-1)) hx hb hr (fun t ht hW => ⟨⟨(-1), σ, rfl, ⟨hI, eqx.rf⟩, wEn_of hP (hK.sub [] rfl) hD ht hW⟩, hS.F ht⟩) hS.2.2 dX12_planned_34
  · have tc34_ := (show z32_.toInt ≠ 0 from ti_ne rfl rg_11 c34_)
    refine lv_iload_n hx hb dX12_planned_8 rfl (lv_at hl 2 rfl) ?_
    refine lv_iconst (v := 0) hx hb dX12_planned_9 rg_0 ?_
    refine lv_sipush (v := 400) hx hb dX12_planned_10 rx_435ef8e752 ?_
    have kk35_ : (0 : Int32).toInt = 0 := rg_11
    have kk36_ : (400 : Int32).toInt = 400 := rx_e958b5e9fa
    refine zs_i (va_runS (As := [.int y, .int 0, .int 400]) (rest := []) ⟨hx, hb, hml, hown, hts⟩ (n_isIn l dC dI y 0 400  H.size) (va_cwS 3 hts gd_n_planned_324_n_isIn rfl rfl rfl dd_n_isIn ⟨Nat.le_of_ble_eq_true rfl, Nat.le_of_ble_eq_true rfl⟩) (preS (A := A) empP (hK.sub (tys' := []) [] rfl) empD hE) rfl rfl hl.1 rfl (lv_room (Nat.le_of_ble_eq_true rfl)) dX12_planned_13 ⟨Nat.le_of_ble_eq_true rfl, Nat.le_of_ble_eq_true rfl⟩) hP hD hS hA (fun z37_ H locs hq hP hD hS => ?_)
    have f38_ := hq
    refine W.widen (k := 0) (n := 0) (Nat.le_of_ble_eq_true rfl) (Nat.le_of_ble_eq_true rfl) ?_
    refine lv_if_eq (tgt := 33) hx hb dX12_planned_16 rfl (fun c39_ => ?_) (fun c39_ => ?_)
    · have tc39_ := (show z37_.toInt = 0 from ti_eq rfl rg_11 c39_)
      refine lv_iconst (v := (-1)) hx hb dX12_planned_33 rg_53 ?_
      rw [hQ]
      exact W.iret (v := (-1)) hx hb hr (fun t ht hW => ⟨⟨(-1), σ, rfl, ⟨hI, eqx.rf⟩, wEn_of hP (hK.sub [] rfl) hD ht hW⟩, hS.F ht⟩) hS.2.2 dX12_planned_34
    · have tc39_ := (show z37_.toInt ≠ 0 from ti_ne rfl rg_11 c39_)
      refine lv_iload_n hx hb dX12_planned_19 rfl (lv_at hl 3 rfl) ?_
      refine lv_iconst (v := 0) hx hb dX12_planned_20 rg_0 ?_
      refine lv_aload_n hx hb dX12_planned_21 rfl (lv_at hl 0 rfl) ?_
      refine va_get (D := (dC, dI)) (ci := 12) (v := .int (σ.1 39)) (C := RX12) (T := TX12) (N := 59) hx hb hts hin12 hown hK hP 0 rfl rfl 39 (Nat.le_of_ble_eq_true rfl) (ho (.fieldLink RX12 249 "NearEnoughModel" "sheets" "I") (List.mem_of_getElem? (i := 1) rfl)) (fun _ h9 => h9) rfl dX12_planned_22 ?_
      have bσ_39 : 0 ≤ (σ.1 39).toInt ∧ (σ.1 39).toInt ≤ 40 := hI.1 39
      refine lv_iconst (v := 1) hx hb dX12_planned_25 rg_6 ?_
      refine lv_isub hx hb dX12_planned_26 ?_
      refine lv_topi (fun z40_ ez40_ => ?_)
      have o33 : -2147483648 ≤ (σ.1 39).toInt - 1 := by omega
      have o34 : (σ.1 39).toInt - 1 ≤ 2147483647 := by omega
      have tz40_ : z40_.toInt = (σ.1 39).toInt - 1 := ti_sub ez40_ rfl rg_18 o33 o34
      have kk41_ : (0 : Int32).toInt = 0 := rg_11
      refine zs_i (va_runS (As := [.int z, .int 0, .int z40_]) (rest := []) ⟨hx, hb, hml, hown, hts⟩ (n_isIn l dC dI z 0 z40_  H.size) (va_cwS 3 hts gd_n_planned_324_n_isIn rfl rfl rfl dd_n_isIn ⟨Nat.le_of_ble_eq_true rfl, Nat.le_of_ble_eq_true rfl⟩) (preS (A := A) empP (hK.sub (tys' := []) [] rfl) empD hE) rfl rfl hl.1 rfl (lv_room (Nat.le_of_ble_eq_true rfl)) dX12_planned_27 ⟨Nat.le_of_ble_eq_true rfl, Nat.le_of_ble_eq_true rfl⟩) hP hD hS hA (fun z42_ H locs hq hP hD hS => ?_)
      have f43_ := hq
      refine W.widen (k := 0) (n := 0) (Nat.le_of_ble_eq_true rfl) (Nat.le_of_ble_eq_true rfl) ?_
      refine lv_if_ne (tgt := 35) hx hb dX12_planned_30 rfl (fun c44_ => ?_) (fun c44_ => ?_)
      · have tc44_ := (show z42_.toInt ≠ 0 from ti_ne rfl rg_11 c44_)
        refine lv_aload_n hx hb dX12_planned_35 rfl (lv_at hl 0 rfl) ?_
        refine lv_iload_n hx hb dX12_planned_36 rfl (lv_at hl 1 rfl) ?_
        refine lv_iload_n hx hb dX12_planned_37 rfl (lv_at hl 2 rfl) ?_
        have o35 : 0 ≤ x.toInt := by omega
        have o36 : x.toInt ≤ 3 := by omega
        have o37 : x.toInt < (σ.2.1 13 (σ.1 29).toNatClampNeg).toInt := by omega
        have HE45_ : EndOk σ x := ⟨o35, o36, o37⟩
        have o38 : 0 ≤ y.toInt := by omega
        have o39 : y.toInt ≤ 400 := by omega
        refine zy_v (va_runV (As := [.int x, .int y]) (rest := []) ⟨hx, hb, hml, hown, hts⟩ (n_layPlan l dC dI h ad cl H.size σ x y hI hRI HE45_ ⟨o38, o39⟩) (cwV 2 hts gd_n_planned_485_n_layPlan rfl rfl rfl dd_n_layPlan ⟨Nat.le_of_ble_eq_true rfl, Nat.le_of_ble_eq_true rfl⟩) (preV hP hK hD hE (ci := 12) (q0 := 0) rfl rfl) rfl rfl hl.1 rfl (lv_room (Nat.le_of_ble_eq_true rfl)) dX12_planned_38 ⟨Nat.le_of_ble_eq_true rfl, Nat.le_of_ble_eq_true rfl⟩) hD hS hA (fun τ46_ H locs hq hP hD hS => ?_)
        obtain ⟨hI48_, hx49_, f50_⟩ := hq
        have Xτ46_ : eqx [37, 41, 42, 43, 44, 45, 46, 32, 47, 48, 49, 54, 55, 56, 57] τ46_ σ := eqx.tr hx49_ eqx.rf rg_592
        have qq51_ : (τ46_.1 29).toInt = ((σ.1 29) : Int32).toInt := congrArg Int32.toInt ((show τ46_.1 29 = (σ.1 29) from ((hx49_ 29 rg_571).1).trans rfl))
        have qq52_ : (τ46_.1 39).toInt = ((σ.1 39) : Int32).toInt := congrArg Int32.toInt ((show τ46_.1 39 = (σ.1 39) from ((hx49_ 39 rg_582).1).trans rfl))
        refine W.widen (k := 0) (n := 0) (Nat.le_of_ble_eq_true rfl) (Nat.le_of_ble_eq_true rfl) ?_
        refine lv_iload_n hx hb dX12_planned_41 rfl (lv_at hl 2 rfl) ?_
        refine lv_istore (lv' := [(4, .int y), (0, .ref h), (1, .int x), (2, .int y), (3, .int z)]) hx hb dX12_planned_42 hl (Nat.le_of_ble_eq_true rfl) rfl (fun ls hl => ?_)
        refine lv_iconst (v := 0) hx hb dX12_planned_44 rg_0 ?_
        refine lv_istore (lv' := [(5, .int 0), (4, .int y), (0, .ref h), (1, .int x), (2, .int y), (3, .int z)]) hx hb dX12_planned_45 hl (Nat.le_of_ble_eq_true rfl) rfl (fun ls hl => ?_)
        have o40 : 0 ≤ y.toInt ∧ y.toInt ≤ y.toInt := by omega
        have o41 : 0 ≤ z.toInt ∧ z.toInt < (σ.1 39).toInt ∧ z.toInt ≤ 39 ∧ y.toInt ≤ 400 := by omega
        exact pt_47 _ τ46_ y 0 _ _ _ (Nat.lt_succ_self _) hI48_ Xτ46_ rg_56 (show 0 ≤ y.toInt ∧ y.toInt ≤ y.toInt from o40) f50_ (show 0 ≤ z.toInt ∧ z.toInt < (σ.1 39).toInt ∧ z.toInt ≤ 39 ∧ y.toInt ≤ 400 from o41) HE45_ hP hD hS (lv_sub hl [2, 3, 4, 5, 1, 0] rfl)
      · have tc44_ := (show z42_.toInt = 0 from ti_eq rfl rg_11 c44_)
        refine lv_iconst (v := (-1)) hx hb dX12_planned_33 rg_53 ?_
        rw [hQ]
        exact W.iret (v := (-1)) hx hb hr (fun t ht hW => ⟨⟨(-1), σ, rfl, ⟨hI, eqx.rf⟩, wEn_of hP (hK.sub [] rfl) hD ht hW⟩, hS.F ht⟩) hS.2.2 dX12_planned_34
