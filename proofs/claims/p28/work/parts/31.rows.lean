theorem dX12_readRow_0 : decode cX12_readRow 0 = .ok (.iconst 2, 1) := by decide +kernel
theorem dX12_readRow_1 : decode cX12_readRow 1 = .ok (.aload_n 0, 1) := by decide +kernel
theorem dX12_readRow_2 : decode cX12_readRow 2 = .ok (.getfield 243, 3) := by decide +kernel
theorem dX12_readRow_5 : decode cX12_readRow 5 = .ok (.imul, 1) := by decide +kernel
theorem dX12_readRow_6 : decode cX12_readRow 6 = .ok (.aload_n 0, 1) := by decide +kernel
theorem dX12_readRow_7 : decode cX12_readRow 7 = .ok (.getfield 20, 3) := by decide +kernel
theorem dX12_readRow_10 : decode cX12_readRow 10 = .ok (.aload_n 0, 1) := by decide +kernel
theorem dX12_readRow_11 : decode cX12_readRow 11 = .ok (.getfield 243, 3) := by decide +kernel
theorem dX12_readRow_14 : decode cX12_readRow 14 = .ok (.iaload, 1) := by decide +kernel
theorem dX12_readRow_15 : decode cX12_readRow 15 = .ok (.iadd, 1) := by decide +kernel
theorem dX12_readRow_16 : decode cX12_readRow 16 = .ok (.istore_n 1, 1) := by decide +kernel
theorem dX12_readRow_17 : decode cX12_readRow 17 = .ok (.aload_n 0, 1) := by decide +kernel
theorem dX12_readRow_18 : decode cX12_readRow 18 = .ok (.invokevirtual 288, 3) := by decide +kernel
theorem dX12_readRow_21 : decode cX12_readRow 21 = .ok (.aload_n 0, 1) := by decide +kernel
theorem dX12_readRow_22 : decode cX12_readRow 22 = .ok (.getfield 63, 3) := by decide +kernel
theorem dX12_readRow_25 : decode cX12_readRow 25 = .ok (.iload_n 1, 1) := by decide +kernel
theorem dX12_readRow_26 : decode cX12_readRow 26 = .ok (.aload_n 0, 1) := by decide +kernel
theorem dX12_readRow_27 : decode cX12_readRow 27 = .ok (.getfield 206, 3) := by decide +kernel
theorem dX12_readRow_30 : decode cX12_readRow 30 = .ok (.lastore, 1) := by decide +kernel
theorem dX12_readRow_31 : decode cX12_readRow 31 = .ok (.aload_n 0, 1) := by decide +kernel
theorem dX12_readRow_32 : decode cX12_readRow 32 = .ok (.aload_n 0, 1) := by decide +kernel
theorem dX12_readRow_33 : decode cX12_readRow 33 = .ok (.getfield 199, 3) := by decide +kernel
theorem dX12_readRow_36 : decode cX12_readRow 36 = .ok (.iconst 2, 1) := by decide +kernel
theorem dX12_readRow_37 : decode cX12_readRow 37 = .ok (.if_icmp .ne 7, 3) := by decide +kernel
theorem dX12_readRow_44 : decode cX12_readRow 44 = .ok (.iconst 0, 1) := by decide +kernel
theorem dX12_readRow_45 : decode cX12_readRow 45 = .ok (.invokevirtual 278, 3) := by decide +kernel
theorem dX12_readRow_48 : decode cX12_readRow 48 = .ok (.aload_n 0, 1) := by decide +kernel
theorem dX12_readRow_49 : decode cX12_readRow 49 = .ok (.aload_n 0, 1) := by decide +kernel
theorem dX12_readRow_50 : decode cX12_readRow 50 = .ok (.ldc2_w 145, 3) := by decide +kernel
theorem dX12_readRow_53 : decode cX12_readRow 53 = .ok (.invokevirtual 261, 3) := by decide +kernel
theorem dX12_readRow_56 : decode cX12_readRow 56 = .ok (.invokevirtual 278, 3) := by decide +kernel
theorem dX12_readRow_59 : decode cX12_readRow 59 = .ok (.aload_n 0, 1) := by decide +kernel
theorem dX12_readRow_60 : decode cX12_readRow 60 = .ok (.getfield 30, 3) := by decide +kernel
theorem dX12_readRow_63 : decode cX12_readRow 63 = .ok (.iload_n 1, 1) := by decide +kernel
theorem dX12_readRow_64 : decode cX12_readRow 64 = .ok (.aload_n 0, 1) := by decide +kernel
theorem dX12_readRow_65 : decode cX12_readRow 65 = .ok (.iconst 1, 1) := by decide +kernel
theorem dX12_readRow_66 : decode cX12_readRow 66 = .ok (.bipush 6, 2) := by decide +kernel
theorem dX12_readRow_68 : decode cX12_readRow 68 = .ok (.invokevirtual 291, 3) := by decide +kernel
theorem dX12_readRow_71 : decode cX12_readRow 71 = .ok (.iastore, 1) := by decide +kernel
theorem dX12_readRow_72 : decode cX12_readRow 72 = .ok (.aload_n 0, 1) := by decide +kernel
theorem dX12_readRow_73 : decode cX12_readRow 73 = .ok (.aload_n 0, 1) := by decide +kernel
theorem dX12_readRow_74 : decode cX12_readRow 74 = .ok (.ldc2_w 147, 3) := by decide +kernel
theorem dX12_readRow_77 : decode cX12_readRow 77 = .ok (.invokevirtual 261, 3) := by decide +kernel
theorem dX12_readRow_80 : decode cX12_readRow 80 = .ok (.invokevirtual 278, 3) := by decide +kernel
theorem dX12_readRow_83 : decode cX12_readRow 83 = .ok (.aload_n 0, 1) := by decide +kernel
theorem dX12_readRow_84 : decode cX12_readRow 84 = .ok (.getfield 33, 3) := by decide +kernel
theorem dX12_readRow_87 : decode cX12_readRow 87 = .ok (.iload_n 1, 1) := by decide +kernel
theorem dX12_readRow_88 : decode cX12_readRow 88 = .ok (.aload_n 0, 1) := by decide +kernel
theorem dX12_readRow_89 : decode cX12_readRow 89 = .ok (.sipush (-999), 3) := by decide +kernel
theorem dX12_readRow_92 : decode cX12_readRow 92 = .ok (.sipush 999, 3) := by decide +kernel
theorem dX12_readRow_95 : decode cX12_readRow 95 = .ok (.invokevirtual 295, 3) := by decide +kernel
theorem dX12_readRow_98 : decode cX12_readRow 98 = .ok (.iastore, 1) := by decide +kernel
theorem dX12_readRow_99 : decode cX12_readRow 99 = .ok (.aload_n 0, 1) := by decide +kernel
theorem dX12_readRow_100 : decode cX12_readRow 100 = .ok (.aload_n 0, 1) := by decide +kernel
theorem dX12_readRow_101 : decode cX12_readRow 101 = .ok (.ldc2_w 149, 3) := by decide +kernel
theorem dX12_readRow_104 : decode cX12_readRow 104 = .ok (.invokevirtual 261, 3) := by decide +kernel
theorem dX12_readRow_107 : decode cX12_readRow 107 = .ok (.invokevirtual 278, 3) := by decide +kernel
theorem dX12_readRow_110 : decode cX12_readRow 110 = .ok (.aload_n 0, 1) := by decide +kernel
theorem dX12_readRow_111 : decode cX12_readRow 111 = .ok (.getfield 36, 3) := by decide +kernel
theorem dX12_readRow_114 : decode cX12_readRow 114 = .ok (.iload_n 1, 1) := by decide +kernel
theorem dX12_readRow_115 : decode cX12_readRow 115 = .ok (.aload_n 0, 1) := by decide +kernel
theorem dX12_readRow_116 : decode cX12_readRow 116 = .ok (.aload_n 0, 1) := by decide +kernel
theorem dX12_readRow_117 : decode cX12_readRow 117 = .ok (.getfield 33, 3) := by decide +kernel
theorem dX12_readRow_120 : decode cX12_readRow 120 = .ok (.iload_n 1, 1) := by decide +kernel
theorem dX12_readRow_121 : decode cX12_readRow 121 = .ok (.iaload, 1) := by decide +kernel
theorem dX12_readRow_122 : decode cX12_readRow 122 = .ok (.sipush 999, 3) := by decide +kernel
theorem dX12_readRow_125 : decode cX12_readRow 125 = .ok (.invokevirtual 295, 3) := by decide +kernel
theorem dX12_readRow_128 : decode cX12_readRow 128 = .ok (.iastore, 1) := by decide +kernel
theorem dX12_readRow_129 : decode cX12_readRow 129 = .ok (.aload_n 0, 1) := by decide +kernel
theorem dX12_readRow_130 : decode cX12_readRow 130 = .ok (.getfield 20, 3) := by decide +kernel
theorem dX12_readRow_133 : decode cX12_readRow 133 = .ok (.aload_n 0, 1) := by decide +kernel
theorem dX12_readRow_134 : decode cX12_readRow 134 = .ok (.getfield 243, 3) := by decide +kernel
theorem dX12_readRow_137 : decode cX12_readRow 137 = .ok (.dup2, 1) := by decide +kernel
theorem dX12_readRow_138 : decode cX12_readRow 138 = .ok (.iaload, 1) := by decide +kernel
theorem dX12_readRow_139 : decode cX12_readRow 139 = .ok (.iconst 1, 1) := by decide +kernel
theorem dX12_readRow_140 : decode cX12_readRow 140 = .ok (.iadd, 1) := by decide +kernel
theorem dX12_readRow_141 : decode cX12_readRow 141 = .ok (.iastore, 1) := by decide +kernel
theorem dX12_readRow_142 : decode cX12_readRow 142 = .ok (.return_, 1) := by decide +kernel
theorem dX12_readRow_40 : decode cX12_readRow 40 = .ok (.iconst 1, 1) := by decide +kernel
theorem dX12_readRow_41 : decode cX12_readRow 41 = .ok (.goto 4, 3) := by decide +kernel
def ow_n_readRow : List Cond := [.fieldLink RX12 243 "NearEnoughModel" "rb" "I", .fieldLink RX12 20 "NearEnoughModel" "rowMany" "[I", .fieldLink RX12 63 "NearEnoughModel" "rName" "[J", .fieldLink RX12 206 "NearEnoughModel" "name" "J", .fieldLink RX12 199 "NearEnoughModel" "token" "I", .constantLong RX12 145 (6840691), .fieldLink RX12 30 "NearEnoughModel" "rHas" "[I", .constantLong RX12 147 (1718775661), .fieldLink RX12 33 "NearEnoughModel" "rLeast" "[I", .constantLong RX12 149 (29807), .fieldLink RX12 36 "NearEnoughModel" "rMost" "[I"]
def vs_n_readRow : List Cond := .code yX12_readRow cX12_readRow 2 none :: (ow_n_readRow ++ (([.methodLink RX12 288 yX12_fresh, .instanceMethod yX12_fresh, .selects RX12 yX12_fresh yX12_fresh, .initialized RX12] : List Cond) ++ (vs_n_fresh ++ (([.methodLink RX12 278 yX12_must, .instanceMethod yX12_must, .selects RX12 yX12_must yX12_must, .initialized RX12] : List Cond) ++ (vs_n_must ++ (([.methodLink RX12 261 yX12_isWord, .instanceMethod yX12_isWord, .selects RX12 yX12_isWord yX12_isWord, .initialized RX12] : List Cond) ++ (vs_n_isWord ++ (([.methodLink RX12 291 yX12_numeral, .instanceMethod yX12_numeral, .selects RX12 yX12_numeral yX12_numeral, .initialized RX12] : List Cond) ++ (vs_n_numeral ++ (([.methodLink RX12 295 yX12_signed, .instanceMethod yX12_signed, .selects RX12 yX12_signed yX12_signed, .initialized RX12] : List Cond) ++ (vs_n_signed ++ (wsX120))))))))))))
theorem vg_n_readRow : vs_n_readRow.all goodWord = true := by decide +kernel
def rm_n_readRow : Room := { frames := 3, cells := 0, slots := 0, locals := 69 }
theorem gd_n_readRow_288_n_fresh : GoodIn vs_n_readRow (wsV RX12 288 RX12 yX12_fresh vs_n_fresh) := goodIn_app (goodIn_sub (fun w h => (List.mem_cons_of_mem _ (List.mem_append_right _ (List.mem_append_left _ h)))) (by decide +kernel)) (goodIn_sub (fun w h => (List.mem_cons_of_mem _ (List.mem_append_right _ (List.mem_append_right _ (List.mem_append_left _ h))))) vg_n_fresh)
theorem gd_n_readRow_278_n_must : GoodIn vs_n_readRow (wsV RX12 278 RX12 yX12_must vs_n_must) := goodIn_app (goodIn_sub (fun w h => (List.mem_cons_of_mem _ (List.mem_append_right _ (List.mem_append_right _ (List.mem_append_right _ (List.mem_append_left _ h)))))) (by decide +kernel)) (goodIn_sub (fun w h => (List.mem_cons_of_mem _ (List.mem_append_right _ (List.mem_append_right _ (List.mem_append_right _ (List.mem_append_right _ (List.mem_append_left _ h))))))) vg_n_must)
theorem gd_n_readRow_261_n_isWord : GoodIn vs_n_readRow (wsV RX12 261 RX12 yX12_isWord vs_n_isWord) := goodIn_app (goodIn_sub (fun w h => (List.mem_cons_of_mem _ (List.mem_append_right _ (List.mem_append_right _ (List.mem_append_right _ (List.mem_append_right _ (List.mem_append_right _ (List.mem_append_left _ h)))))))) (by decide +kernel)) (goodIn_sub (fun w h => (List.mem_cons_of_mem _ (List.mem_append_right _ (List.mem_append_right _ (List.mem_append_right _ (List.mem_append_right _ (List.mem_append_right _ (List.mem_append_right _ (List.mem_append_left _ h))))))))) vg_n_isWord)
theorem gd_n_readRow_291_n_numeral : GoodIn vs_n_readRow (wsV RX12 291 RX12 yX12_numeral vs_n_numeral) := goodIn_app (goodIn_sub (fun w h => (List.mem_cons_of_mem _ (List.mem_append_right _ (List.mem_append_right _ (List.mem_append_right _ (List.mem_append_right _ (List.mem_append_right _ (List.mem_append_right _ (List.mem_append_right _ (List.mem_append_left _ h)))))))))) (by decide +kernel)) (goodIn_sub (fun w h => (List.mem_cons_of_mem _ (List.mem_append_right _ (List.mem_append_right _ (List.mem_append_right _ (List.mem_append_right _ (List.mem_append_right _ (List.mem_append_right _ (List.mem_append_right _ (List.mem_append_right _ (List.mem_append_left _ h))))))))))) vg_n_numeral)
theorem gd_n_readRow_295_n_signed : GoodIn vs_n_readRow (wsV RX12 295 RX12 yX12_signed vs_n_signed) := goodIn_app (goodIn_sub (fun w h => (List.mem_cons_of_mem _ (List.mem_append_right _ (List.mem_append_right _ (List.mem_append_right _ (List.mem_append_right _ (List.mem_append_right _ (List.mem_append_right _ (List.mem_append_right _ (List.mem_append_right _ (List.mem_append_right _ (List.mem_append_left _ h)))))))))))) (by decide +kernel)) (goodIn_sub (fun w h => (List.mem_cons_of_mem _ (List.mem_append_right _ (List.mem_append_right _ (List.mem_append_right _ (List.mem_append_right _ (List.mem_append_right _ (List.mem_append_right _ (List.mem_append_right _ (List.mem_append_right _ (List.mem_append_right _ (List.mem_append_right _ (List.mem_append_left _ h))))))))))))) vg_n_signed)
set_option maxHeartbeats 4000000 in
set_option maxRecDepth 100000 in
theorem n_readRow (l : Launch) (dC : Nat → ClassId) (dI : Nat → Nat → Nat) (h : Nat) (ad : Nat → Nat) (cl : Nat → ClassId) (sz : Nat) (σ : MS)  (hI : Inv σ) (hrm : (σ.2.1 11 (σ.1 30).toNatClampNeg).toInt ≤ 1) (hes : (σ.1 7).toInt ≤ (σ.1 3).toInt) : Met l yX12_readRow vs_n_readRow rm_n_readRow (va_Pc [.ref h] (wSt dC dI (mW h ad cl σ) (mT cl) sz)) (va_Qv (fun (τ : MS) => Inv τ ∧ eqx [6, 7, 8, 9, 10, 4, 5, 25, 14, 15, 16, 11] τ σ ∧ (RelP σ (σ.1 30).toNatClampNeg → RelP τ (σ.1 30).toNatClampNeg) ∧ (∀ bk, bk < 2 → bk ≠ (σ.1 30).toNatClampNeg → RelP σ bk → RelP τ bk) ∧ ((τ.1 4).toInt = 0 → (σ.1 4).toInt = 0) ∧ ((σ.1 7).toInt ≤ (τ.1 7).toInt ∧ (τ.1 7).toInt ≤ (σ.1 3).toInt)) (fun (τ : MS) => wEn dC dI (va_A (mW h ad cl σ) sz) (mW h ad cl τ) []) (va_A (mW h ad cl σ) sz)) 0 0 (va_A (mW h ad cl σ) sz) := by
  refine Met.ofW (cc := cX12_readRow) (maxL := 2) (ret := none) (by decide) rfl ?_
  intro p e s m args below meth c s₁ B hml hv
  obtain ⟨rfl, hsz, hP, hK, hD0, hE⟩ := hv
  have hx := B.exec
  have hb := B.bytes
  have hr := B.returns
  have hts := atoms_spec (ws := vs_n_readRow) B.pre
  have hown : s.vm.findClass RX12 = some m.cls := findClass_of_methodNamed B.named
  have hlocks := B.notSynchronized
  subst hsz
  have hD := hD0.self (sz := s.heap.size)
  generalize hAe : va_A (mW h ad cl σ) s.heap.size = A at hD ⊢
  have hA : ∀ q : Nat, s.heap.size ≤ q → A q := fun q h => by rw [← hAe]; exact Or.inr h
  have hl := lv_entry ([.ref h]) (n := 2) (Nat.le_of_ble_eq_true rfl)
  rw [lg_entry_eq]
  generalize (lg_sl ([.ref h]) ++ List.replicate (2 - (lg_sl ([.ref h])).length) Slot.unset).toArray = ls at hl ⊢
  have hl : lv_has ls 2 [(0, .ref h)] := hl
  have ho := fun w (h : w ∈ ow_n_readRow) => hts w (List.mem_cons_of_mem _ (List.mem_append_left _ h))
  have hin12 : ∀ w ∈ u_ws RX12 TX12 59, w ∈ vs_n_readRow := fun w h => (List.mem_cons_of_mem _ (List.mem_append_right _ (List.mem_append_right _ (List.mem_append_right _ (List.mem_append_right _ (List.mem_append_right _ (List.mem_append_right _ (List.mem_append_right _ (List.mem_append_right _ (List.mem_append_right _ (List.mem_append_right _ (List.mem_append_right _ h))))))))))))
  refine zQ (fun Q hQ => ?_)
  refine zH (A := A) (ws := mW h ad cl σ) (fun H hP hS => ?_) hP
  have bσ_30 : 0 ≤ (σ.1 30).toInt ∧ (σ.1 30).toInt ≤ 1 := hI.1 30
  refine lv_iconst (v := 2) hx hb dX12_readRow_0 (by decide) ?_
  refine lv_aload_n hx hb dX12_readRow_1 rfl (lv_at hl 0 rfl) ?_
  refine va_get (D := (dC, dI)) (ci := 12) (v := .int (σ.1 30)) (C := RX12) (T := TX12) (N := 59) hx hb hts hin12 hown hK hP 0 rfl rfl 30 (by decide) (ho (.fieldLink RX12 243 "NearEnoughModel" "rb" "I") (List.mem_of_getElem? (i := 0) rfl)) (fun _ h9 => h9) rfl dX12_readRow_2 ?_
  have bσ_30 : 0 ≤ (σ.1 30).toInt ∧ (σ.1 30).toInt ≤ 1 := hI.1 30
  refine lv_imul hx hb dX12_readRow_5 ?_
  refine lv_topi (fun z1 ez1 => ?_)
  have tz1 : z1.toInt = 2 * (σ.1 30).toInt := ti_mul ez1 (by decide) rfl (by omega) (by omega)
  refine lv_aload_n hx hb dX12_readRow_6 rfl (lv_at hl 0 rfl) ?_
  refine va_get (D := (dC, dI)) (ci := 12) (v := .ref (ad 11)) (C := RX12) (T := TX12) (N := 59) hx hb hts hin12 hown hK hP 0 rfl rfl 11 (by decide) (ho (.fieldLink RX12 20 "NearEnoughModel" "rowMany" "[I") (List.mem_of_getElem? (i := 1) rfl)) (fun _ h9 => h9) rfl dX12_readRow_7 ?_
  refine lv_aload_n hx hb dX12_readRow_10 rfl (lv_at hl 0 rfl) ?_
  refine va_get (D := (dC, dI)) (ci := 12) (v := .int (σ.1 30)) (C := RX12) (T := TX12) (N := 59) hx hb hts hin12 hown hK hP 0 rfl rfl 30 (by decide) (ho (.fieldLink RX12 243 "NearEnoughModel" "rb" "I") (List.mem_of_getElem? (i := 0) rfl)) (fun _ h9 => h9) rfl dX12_readRow_11 ?_
  have bσ_30 : 0 ≤ (σ.1 30).toInt ∧ (σ.1 30).toInt ≤ 1 := hI.1 30
  refine va_iald hx hb hK hP 3 2 rfl rfl (ti_in rfl (by omega) (by omega)) dX12_readRow_14 ?_
  refine lv_topi (fun z2 ez2 => ?_)
  have gz2 : z2.toInt = ((σ.2.1 11) (Int32.toNatClampNeg (σ.1 30))).toInt := congrArg Int32.toInt (ez2.trans (congrFun rfl (Int32.toNatClampNeg (σ.1 30))))
  have bz2 : 0 ≤ z2.toInt ∧ z2.toInt ≤ 2 := by rw [ez2]; exact (hI.2 11) _ (by have := ti_cl (x := (σ.1 30)) rfl (by omega); show _ < 2; omega)
  refine lv_iadd hx hb dX12_readRow_15 ?_
  refine lv_topi (fun z3 ez3 => ?_)
  have tz3 : z3.toInt = z1.toInt + z2.toInt := ti_add ez3 rfl rfl (by omega) (by omega)
  refine lv_istore_n (lv' := [(1, .int z3), (0, .ref h)]) hx hb dX12_readRow_16 rfl hl (by decide) rfl (fun ls hl => ?_)
  refine lv_aload_n hx hb dX12_readRow_17 rfl (lv_at hl 1 rfl) ?_
  refine zy_v (va_runV (As := []) (rest := []) ⟨hx, hb, hml, hown, hts⟩ (n_fresh l dC dI h ad cl H.size σ  hI) (cwV 0 hts gd_n_readRow_288_n_fresh rfl rfl rfl (by decide +kernel) ⟨Nat.le_of_ble_eq_true rfl, Nat.le_of_ble_eq_true rfl⟩) (preV hP hK hD hE (ci := 12) (q0 := 0) rfl rfl) rfl rfl hl.1 rfl (lv_room (Nat.le_of_ble_eq_true rfl)) dX12_readRow_18 ⟨Nat.le_of_ble_eq_true rfl, Nat.le_of_ble_eq_true rfl⟩) hD hS hA (fun τ4 H locs hq hP hD hS => ?_)
  obtain ⟨hI6, hx7, mo8⟩ := hq
  have mo8x : (τ4.1 4).toInt = 0 → ((σ.1 4) : Int32).toInt = 0 := mo8
  have qq9 : (τ4.1 3).toInt = ((σ.1 3) : Int32).toInt := congrArg Int32.toInt ((show τ4.1 3 = (σ.1 3) from ((hx7 3 (by decide)).1).trans rfl))
  have qq10 : (τ4.1 7).toInt = ((σ.1 7) : Int32).toInt := congrArg Int32.toInt ((show τ4.1 7 = (σ.1 7) from ((hx7 7 (by decide)).1).trans rfl))
  refine W.widen (k := 0) (n := 0) (Nat.le_of_ble_eq_true rfl) (Nat.le_of_ble_eq_true rfl) ?_
  refine lv_aload_n hx hb dX12_readRow_21 rfl (lv_at hl 1 rfl) ?_
  refine va_get (D := (dC, dI)) (ci := 12) (v := .ref (ad 25)) (C := RX12) (T := TX12) (N := 59) hx hb hts hin12 hown hK hP 0 rfl rfl 25 (by decide) (ho (.fieldLink RX12 63 "NearEnoughModel" "rName" "[J") (List.mem_of_getElem? (i := 2) rfl)) (fun _ h9 => h9) rfl dX12_readRow_22 ?_
  refine lv_iload_n hx hb dX12_readRow_25 rfl (lv_at hl 0 rfl) ?_
  refine lv_aload_n hx hb dX12_readRow_26 rfl (lv_at hl 1 rfl) ?_
  refine va_get (D := (dC, dI)) (ci := 12) (v := .long (τ4.2.2.2 10)) (C := RX12) (T := TX12) (N := 59) hx hb hts hin12 hown hK hP 0 rfl rfl 10 (by decide) (ho (.fieldLink RX12 206 "NearEnoughModel" "name" "J") (List.mem_of_getElem? (i := 3) rfl)) (fun _ h9 => h9) rfl dX12_readRow_27 ?_
  refine va_last hx hb hK hP hD hS 17 16 rfl rfl (ti_in rfl (by omega) (by omega)) dX12_readRow_30 (fun H locs hP hD hS => ?_)
  have hP : va_P (dC, dI) vwCl (mW h ad cl (sJ τ4 25 (vp_updL (τ4.2.2.1 25) (Int32.toNatClampNeg z3) (τ4.2.2.2 10)))) H := hP
  have hD : va_D A (mW h ad cl (sJ τ4 25 (vp_updL (τ4.2.2.1 25) (Int32.toNatClampNeg z3) (τ4.2.2.2 10)))) := hD
  refine lv_aload_n hx hb dX12_readRow_31 rfl (lv_at hl 1 rfl) ?_
  refine lv_aload_n hx hb dX12_readRow_32 rfl (lv_at hl 1 rfl) ?_
  refine va_get (D := (dC, dI)) (ci := 12) (v := .int (τ4.1 8)) (C := RX12) (T := TX12) (N := 59) hx hb hts hin12 hown hK hP 0 rfl rfl 8 (by decide) (ho (.fieldLink RX12 199 "NearEnoughModel" "token" "I") (List.mem_of_getElem? (i := 4) rfl)) (fun _ h9 => h9) rfl dX12_readRow_33 ?_
  refine zi (v := (σ.1 8)) (show τ4.1 8 = (σ.1 8) from ((hx7 8 (by decide)).1).trans rfl) ?_
  have bb11 : 0 ≤ (σ.1 8).toInt ∧ (σ.1 8).toInt ≤ 5 := by have h9 := hI6.1 8; rw [show (τ4.1 8) = (σ.1 8) from (show τ4.1 8 = (σ.1 8) from ((hx7 8 (by decide)).1).trans rfl)] at h9; exact h9
  refine lv_iconst (v := 2) hx hb dX12_readRow_36 (by decide) ?_
  refine lv_icmp_ne (tgt := 44) hx hb dX12_readRow_37 (by decide) (fun c12 => ?_) (fun c12 => ?_)
  · have tc12 := (show (σ.1 8).toInt ≠ 2 from ti_ne rfl (by decide) c12)
    refine lv_iconst (v := 0) hx hb dX12_readRow_44 (by decide) ?_
    have kk13 : (0 : Int32).toInt = 0 := by decide
    refine zy_v (va_runV (As := [.int 0]) (rest := []) ⟨hx, hb, hml, hown, hts⟩ (n_must l dC dI h ad cl H.size (sJ τ4 25 (vp_updL (τ4.2.2.1 25) (Int32.toNatClampNeg z3) (τ4.2.2.2 10))) 0 (Inv.sJ hI6) (show (τ4.1 7).toInt ≤ (τ4.1 3).toInt by omega)) (cwV 1 hts gd_n_readRow_278_n_must rfl rfl rfl (by decide +kernel) ⟨Nat.le_of_ble_eq_true rfl, Nat.le_of_ble_eq_true rfl⟩) (preV hP hK hD hE (ci := 12) (q0 := 0) rfl rfl) rfl rfl hl.1 rfl (lv_room (Nat.le_of_ble_eq_true rfl)) dX12_readRow_45 ⟨Nat.le_of_ble_eq_true rfl, Nat.le_of_ble_eq_true rfl⟩) hD hS hA (fun τ14 H locs hq hP hD hS => ?_)
    obtain ⟨hI16, hx17, mo18, lx19⟩ := hq
    have mo18x : (τ14.1 4).toInt = 0 → ((τ4.1 4) : Int32).toInt = 0 := mo18
    have lx19x : ((τ4.1 7) : Int32).toInt ≤ (τ14.1 7).toInt ∧ (τ14.1 7).toInt ≤ ((τ4.1 3) : Int32).toInt := lx19
    have qq20 : (τ14.1 3).toInt = ((σ.1 3) : Int32).toInt := congrArg Int32.toInt ((show τ14.1 3 = (σ.1 3) from ((hx17 3 (by decide)).1).trans (show τ4.1 3 = (σ.1 3) from ((hx7 3 (by decide)).1).trans rfl)))
    refine W.widen (k := 0) (n := 0) (Nat.le_of_ble_eq_true rfl) (Nat.le_of_ble_eq_true rfl) ?_
    refine lv_aload_n hx hb dX12_readRow_48 rfl (lv_at hl 1 rfl) ?_
    refine lv_aload_n hx hb dX12_readRow_49 rfl (lv_at hl 1 rfl) ?_
    refine lv_ldc2 (v := (6840691)) hx hb hown (ho (.constantLong RX12 145 (6840691)) (List.mem_of_getElem? (i := 5) rfl)) dX12_readRow_50 ?_
    refine zy_i (va_runV (As := [.long 6840691]) (rest := [.ref h]) ⟨hx, hb, hml, hown, hts⟩ (n_isWord l dC dI h ad cl H.size τ14 6840691 hI16) (cwV 1 hts gd_n_readRow_261_n_isWord rfl rfl rfl (by decide +kernel) ⟨Nat.le_of_ble_eq_true rfl, Nat.le_of_ble_eq_true rfl⟩) (preV hP hK hD hE (ci := 12) (q0 := 0) rfl rfl) rfl rfl hl.1 rfl (lv_room (Nat.le_of_ble_eq_true rfl)) dX12_readRow_53 ⟨Nat.le_of_ble_eq_true rfl, Nat.le_of_ble_eq_true rfl⟩) hD hS hA (fun z22 τ21 H locs hq hP hD hS => ?_)
    obtain ⟨rfl, f23⟩ := hq
    refine W.widen (k := 0) (n := 0) (Nat.le_of_ble_eq_true rfl) (Nat.le_of_ble_eq_true rfl) ?_
    refine zy_v (va_runV (As := [.int z22]) (rest := []) ⟨hx, hb, hml, hown, hts⟩ (n_must l dC dI h ad cl H.size τ14 z22 hI16 (show (τ14.1 7).toInt ≤ (τ14.1 3).toInt by omega)) (cwV 1 hts gd_n_readRow_278_n_must rfl rfl rfl (by decide +kernel) ⟨Nat.le_of_ble_eq_true rfl, Nat.le_of_ble_eq_true rfl⟩) (preV hP hK hD hE (ci := 12) (q0 := 0) rfl rfl) rfl rfl hl.1 rfl (lv_room (Nat.le_of_ble_eq_true rfl)) dX12_readRow_56 ⟨Nat.le_of_ble_eq_true rfl, Nat.le_of_ble_eq_true rfl⟩) hD hS hA (fun τ24 H locs hq hP hD hS => ?_)
    obtain ⟨hI26, hx27, mo28, lx29⟩ := hq
    have mo28x : (τ24.1 4).toInt = 0 → ((τ14.1 4) : Int32).toInt = 0 := mo28
    have lx29x : ((τ14.1 7) : Int32).toInt ≤ (τ24.1 7).toInt ∧ (τ24.1 7).toInt ≤ ((τ14.1 3) : Int32).toInt := lx29
    have qq30 : (τ24.1 3).toInt = ((σ.1 3) : Int32).toInt := congrArg Int32.toInt ((show τ24.1 3 = (σ.1 3) from ((hx27 3 (by decide)).1).trans (show τ14.1 3 = (σ.1 3) from ((hx17 3 (by decide)).1).trans (show τ4.1 3 = (σ.1 3) from ((hx7 3 (by decide)).1).trans rfl))))
    refine W.widen (k := 0) (n := 0) (Nat.le_of_ble_eq_true rfl) (Nat.le_of_ble_eq_true rfl) ?_
    refine lv_aload_n hx hb dX12_readRow_59 rfl (lv_at hl 1 rfl) ?_
    refine va_get (D := (dC, dI)) (ci := 12) (v := .ref (ad 14)) (C := RX12) (T := TX12) (N := 59) hx hb hts hin12 hown hK hP 0 rfl rfl 14 (by decide) (ho (.fieldLink RX12 30 "NearEnoughModel" "rHas" "[I") (List.mem_of_getElem? (i := 6) rfl)) (fun _ h9 => h9) rfl dX12_readRow_60 ?_
    refine lv_iload_n hx hb dX12_readRow_63 rfl (lv_at hl 0 rfl) ?_
    refine lv_aload_n hx hb dX12_readRow_64 rfl (lv_at hl 1 rfl) ?_
    refine lv_iconst (v := 1) hx hb dX12_readRow_65 (by decide) ?_
    refine lv_bipush (v := 6) hx hb dX12_readRow_66 (by decide) ?_
    have kk31 : (1 : Int32).toInt = 1 := by decide
    have kk32 : (6 : Int32).toInt = 6 := by decide
    refine zy_i (va_runV (As := [.int 1, .int 6]) (rest := [.int z3, .ref (ad 14)]) ⟨hx, hb, hml, hown, hts⟩ (n_numeral l dC dI h ad cl H.size τ24 1 6 hI26 (by decide) (show (τ24.1 7).toInt ≤ (τ24.1 3).toInt by omega)) (cwV 2 hts gd_n_readRow_291_n_numeral rfl rfl rfl (by decide +kernel) ⟨Nat.le_of_ble_eq_true rfl, Nat.le_of_ble_eq_true rfl⟩) (preV hP hK hD hE (ci := 12) (q0 := 0) rfl rfl) rfl rfl hl.1 rfl (lv_room (Nat.le_of_ble_eq_true rfl)) dX12_readRow_68 ⟨Nat.le_of_ble_eq_true rfl, Nat.le_of_ble_eq_true rfl⟩) hD hS hA (fun z34 τ33 H locs hq hP hD hS => ?_)
    obtain ⟨hI35, hx36, f37, f38, mo39, lx40⟩ := hq
    have mo39x : (τ33.1 4).toInt = 0 → ((τ24.1 4) : Int32).toInt = 0 := mo39
    have lx40x : ((τ24.1 7) : Int32).toInt ≤ (τ33.1 7).toInt ∧ (τ33.1 7).toInt ≤ ((τ24.1 3) : Int32).toInt := lx40
    have qq41 : (τ33.1 3).toInt = ((σ.1 3) : Int32).toInt := congrArg Int32.toInt ((show τ33.1 3 = (σ.1 3) from ((hx36 3 (by decide)).1).trans (show τ24.1 3 = (σ.1 3) from ((hx27 3 (by decide)).1).trans (show τ14.1 3 = (σ.1 3) from ((hx17 3 (by decide)).1).trans (show τ4.1 3 = (σ.1 3) from ((hx7 3 (by decide)).1).trans rfl)))))
    refine W.widen (k := 0) (n := 0) (Nat.le_of_ble_eq_true rfl) (Nat.le_of_ble_eq_true rfl) ?_
    refine va_iast hx hb hK hP hD hS 6 5 rfl rfl (ti_in rfl (by omega) (by omega)) dX12_readRow_71 (fun H locs hP hD hS => ?_)
    have hP : va_P (dC, dI) vwCl (mW h ad cl (sA τ33 14 (upd (τ33.2.1 14) (Int32.toNatClampNeg z3) z34))) H := hP
    have hD : va_D A (mW h ad cl (sA τ33 14 (upd (τ33.2.1 14) (Int32.toNatClampNeg z3) z34))) := hD
    refine lv_aload_n hx hb dX12_readRow_72 rfl (lv_at hl 1 rfl) ?_
    refine lv_aload_n hx hb dX12_readRow_73 rfl (lv_at hl 1 rfl) ?_
    refine lv_ldc2 (v := (1718775661)) hx hb hown (ho (.constantLong RX12 147 (1718775661)) (List.mem_of_getElem? (i := 7) rfl)) dX12_readRow_74 ?_
    refine zy_i (va_runV (As := [.long 1718775661]) (rest := [.ref h]) ⟨hx, hb, hml, hown, hts⟩ (n_isWord l dC dI h ad cl H.size (sA τ33 14 (upd (τ33.2.1 14) (Int32.toNatClampNeg z3) z34)) 1718775661 (Inv_sA1 hI35 (rgu (hI35.2 14) (show (0 : Int) ≤ (z34 : Int32).toInt ∧ (z34 : Int32).toInt ≤ 6 by omega)))) (cwV 1 hts gd_n_readRow_261_n_isWord rfl rfl rfl (by decide +kernel) ⟨Nat.le_of_ble_eq_true rfl, Nat.le_of_ble_eq_true rfl⟩) (preV hP hK hD hE (ci := 12) (q0 := 0) rfl rfl) rfl rfl hl.1 rfl (lv_room (Nat.le_of_ble_eq_true rfl)) dX12_readRow_77 ⟨Nat.le_of_ble_eq_true rfl, Nat.le_of_ble_eq_true rfl⟩) hD hS hA (fun z43 τ42 H locs hq hP hD hS => ?_)
    obtain ⟨rfl, f44⟩ := hq
    refine W.widen (k := 0) (n := 0) (Nat.le_of_ble_eq_true rfl) (Nat.le_of_ble_eq_true rfl) ?_
    refine zy_v (va_runV (As := [.int z43]) (rest := []) ⟨hx, hb, hml, hown, hts⟩ (n_must l dC dI h ad cl H.size (sA τ33 14 (upd (τ33.2.1 14) (Int32.toNatClampNeg z3) z34)) z43 (Inv_sA1 hI35 (rgu (hI35.2 14) (show (0 : Int) ≤ (z34 : Int32).toInt ∧ (z34 : Int32).toInt ≤ 6 by omega))) (show (τ33.1 7).toInt ≤ (τ33.1 3).toInt by omega)) (cwV 1 hts gd_n_readRow_278_n_must rfl rfl rfl (by decide +kernel) ⟨Nat.le_of_ble_eq_true rfl, Nat.le_of_ble_eq_true rfl⟩) (preV hP hK hD hE (ci := 12) (q0 := 0) rfl rfl) rfl rfl hl.1 rfl (lv_room (Nat.le_of_ble_eq_true rfl)) dX12_readRow_80 ⟨Nat.le_of_ble_eq_true rfl, Nat.le_of_ble_eq_true rfl⟩) hD hS hA (fun τ45 H locs hq hP hD hS => ?_)
    obtain ⟨hI47, hx48, mo49, lx50⟩ := hq
    have mo49x : (τ45.1 4).toInt = 0 → ((τ33.1 4) : Int32).toInt = 0 := mo49
    have lx50x : ((τ33.1 7) : Int32).toInt ≤ (τ45.1 7).toInt ∧ (τ45.1 7).toInt ≤ ((τ33.1 3) : Int32).toInt := lx50
    have qq51 : (τ45.1 3).toInt = ((σ.1 3) : Int32).toInt := congrArg Int32.toInt ((show τ45.1 3 = (σ.1 3) from ((hx48 3 (by decide)).1).trans (show τ33.1 3 = (σ.1 3) from ((hx36 3 (by decide)).1).trans (show τ24.1 3 = (σ.1 3) from ((hx27 3 (by decide)).1).trans (show τ14.1 3 = (σ.1 3) from ((hx17 3 (by decide)).1).trans (show τ4.1 3 = (σ.1 3) from ((hx7 3 (by decide)).1).trans rfl))))))
    refine W.widen (k := 0) (n := 0) (Nat.le_of_ble_eq_true rfl) (Nat.le_of_ble_eq_true rfl) ?_
    refine lv_aload_n hx hb dX12_readRow_83 rfl (lv_at hl 1 rfl) ?_
    refine va_get (D := (dC, dI)) (ci := 12) (v := .ref (ad 15)) (C := RX12) (T := TX12) (N := 59) hx hb hts hin12 hown hK hP 0 rfl rfl 15 (by decide) (ho (.fieldLink RX12 33 "NearEnoughModel" "rLeast" "[I") (List.mem_of_getElem? (i := 8) rfl)) (fun _ h9 => h9) rfl dX12_readRow_84 ?_
    refine lv_iload_n hx hb dX12_readRow_87 rfl (lv_at hl 0 rfl) ?_
    refine lv_aload_n hx hb dX12_readRow_88 rfl (lv_at hl 1 rfl) ?_
    refine lv_sipush (v := (-999)) hx hb dX12_readRow_89 (by decide) ?_
    refine lv_sipush (v := 999) hx hb dX12_readRow_92 (by decide) ?_
    have kk52 : ((-999) : Int32).toInt = (-999) := by decide
    have kk53 : (999 : Int32).toInt = 999 := by decide
    refine zy_i (va_runV (As := [.int (-999), .int 999]) (rest := [.int z3, .ref (ad 15)]) ⟨hx, hb, hml, hown, hts⟩ (n_signed l dC dI h ad cl H.size τ45 (-999) 999 hI47 (by decide) (show (τ45.1 7).toInt ≤ (τ45.1 3).toInt by omega)) (cwV 2 hts gd_n_readRow_295_n_signed rfl rfl rfl (by decide +kernel) ⟨Nat.le_of_ble_eq_true rfl, Nat.le_of_ble_eq_true rfl⟩) (preV hP hK hD hE (ci := 12) (q0 := 0) rfl rfl) rfl rfl hl.1 rfl (lv_room (Nat.le_of_ble_eq_true rfl)) dX12_readRow_95 ⟨Nat.le_of_ble_eq_true rfl, Nat.le_of_ble_eq_true rfl⟩) hD hS hA (fun z55 τ54 H locs hq hP hD hS => ?_)
    obtain ⟨hI56, hx57, f58, f59, mo60, lx61⟩ := hq
    have mo60x : (τ54.1 4).toInt = 0 → ((τ45.1 4) : Int32).toInt = 0 := mo60
    have lx61x : ((τ45.1 7) : Int32).toInt ≤ (τ54.1 7).toInt ∧ (τ54.1 7).toInt ≤ ((τ45.1 3) : Int32).toInt := lx61
    have qq62 : (τ54.1 3).toInt = ((σ.1 3) : Int32).toInt := congrArg Int32.toInt ((show τ54.1 3 = (σ.1 3) from ((hx57 3 (by decide)).1).trans (show τ45.1 3 = (σ.1 3) from ((hx48 3 (by decide)).1).trans (show τ33.1 3 = (σ.1 3) from ((hx36 3 (by decide)).1).trans (show τ24.1 3 = (σ.1 3) from ((hx27 3 (by decide)).1).trans (show τ14.1 3 = (σ.1 3) from ((hx17 3 (by decide)).1).trans (show τ4.1 3 = (σ.1 3) from ((hx7 3 (by decide)).1).trans rfl)))))))
    refine W.widen (k := 0) (n := 0) (Nat.le_of_ble_eq_true rfl) (Nat.le_of_ble_eq_true rfl) ?_
    refine va_iast hx hb hK hP hD hS 7 6 rfl rfl (ti_in rfl (by omega) (by omega)) dX12_readRow_98 (fun H locs hP hD hS => ?_)
    have hP : va_P (dC, dI) vwCl (mW h ad cl (sA τ54 15 (upd (τ54.2.1 15) (Int32.toNatClampNeg z3) z55))) H := hP
    have hD : va_D A (mW h ad cl (sA τ54 15 (upd (τ54.2.1 15) (Int32.toNatClampNeg z3) z55))) := hD
    refine lv_aload_n hx hb dX12_readRow_99 rfl (lv_at hl 1 rfl) ?_
    refine lv_aload_n hx hb dX12_readRow_100 rfl (lv_at hl 1 rfl) ?_
    refine lv_ldc2 (v := (29807)) hx hb hown (ho (.constantLong RX12 149 (29807)) (List.mem_of_getElem? (i := 9) rfl)) dX12_readRow_101 ?_
    refine zy_i (va_runV (As := [.long 29807]) (rest := [.ref h]) ⟨hx, hb, hml, hown, hts⟩ (n_isWord l dC dI h ad cl H.size (sA τ54 15 (upd (τ54.2.1 15) (Int32.toNatClampNeg z3) z55)) 29807 (Inv_sA1 hI56 (fun j _ => Inv.any _))) (cwV 1 hts gd_n_readRow_261_n_isWord rfl rfl rfl (by decide +kernel) ⟨Nat.le_of_ble_eq_true rfl, Nat.le_of_ble_eq_true rfl⟩) (preV hP hK hD hE (ci := 12) (q0 := 0) rfl rfl) rfl rfl hl.1 rfl (lv_room (Nat.le_of_ble_eq_true rfl)) dX12_readRow_104 ⟨Nat.le_of_ble_eq_true rfl, Nat.le_of_ble_eq_true rfl⟩) hD hS hA (fun z64 τ63 H locs hq hP hD hS => ?_)
    obtain ⟨rfl, f65⟩ := hq
    refine W.widen (k := 0) (n := 0) (Nat.le_of_ble_eq_true rfl) (Nat.le_of_ble_eq_true rfl) ?_
    refine zy_v (va_runV (As := [.int z64]) (rest := []) ⟨hx, hb, hml, hown, hts⟩ (n_must l dC dI h ad cl H.size (sA τ54 15 (upd (τ54.2.1 15) (Int32.toNatClampNeg z3) z55)) z64 (Inv_sA1 hI56 (fun j _ => Inv.any _)) (show (τ54.1 7).toInt ≤ (τ54.1 3).toInt by omega)) (cwV 1 hts gd_n_readRow_278_n_must rfl rfl rfl (by decide +kernel) ⟨Nat.le_of_ble_eq_true rfl, Nat.le_of_ble_eq_true rfl⟩) (preV hP hK hD hE (ci := 12) (q0 := 0) rfl rfl) rfl rfl hl.1 rfl (lv_room (Nat.le_of_ble_eq_true rfl)) dX12_readRow_107 ⟨Nat.le_of_ble_eq_true rfl, Nat.le_of_ble_eq_true rfl⟩) hD hS hA (fun τ66 H locs hq hP hD hS => ?_)
    obtain ⟨hI68, hx69, mo70, lx71⟩ := hq
    have mo70x : (τ66.1 4).toInt = 0 → ((τ54.1 4) : Int32).toInt = 0 := mo70
    have lx71x : ((τ54.1 7) : Int32).toInt ≤ (τ66.1 7).toInt ∧ (τ66.1 7).toInt ≤ ((τ54.1 3) : Int32).toInt := lx71
    have qq72 : (τ66.1 3).toInt = ((σ.1 3) : Int32).toInt := congrArg Int32.toInt ((show τ66.1 3 = (σ.1 3) from ((hx69 3 (by decide)).1).trans (show τ54.1 3 = (σ.1 3) from ((hx57 3 (by decide)).1).trans (show τ45.1 3 = (σ.1 3) from ((hx48 3 (by decide)).1).trans (show τ33.1 3 = (σ.1 3) from ((hx36 3 (by decide)).1).trans (show τ24.1 3 = (σ.1 3) from ((hx27 3 (by decide)).1).trans (show τ14.1 3 = (σ.1 3) from ((hx17 3 (by decide)).1).trans (show τ4.1 3 = (σ.1 3) from ((hx7 3 (by decide)).1).trans rfl))))))))
    refine W.widen (k := 0) (n := 0) (Nat.le_of_ble_eq_true rfl) (Nat.le_of_ble_eq_true rfl) ?_
    refine lv_aload_n hx hb dX12_readRow_110 rfl (lv_at hl 1 rfl) ?_
    refine va_get (D := (dC, dI)) (ci := 12) (v := .ref (ad 16)) (C := RX12) (T := TX12) (N := 59) hx hb hts hin12 hown hK hP 0 rfl rfl 16 (by decide) (ho (.fieldLink RX12 36 "NearEnoughModel" "rMost" "[I") (List.mem_of_getElem? (i := 10) rfl)) (fun _ h9 => h9) rfl dX12_readRow_111 ?_
    refine lv_iload_n hx hb dX12_readRow_114 rfl (lv_at hl 0 rfl) ?_
    refine lv_aload_n hx hb dX12_readRow_115 rfl (lv_at hl 1 rfl) ?_
    refine lv_aload_n hx hb dX12_readRow_116 rfl (lv_at hl 1 rfl) ?_
    refine va_get (D := (dC, dI)) (ci := 12) (v := .ref (ad 15)) (C := RX12) (T := TX12) (N := 59) hx hb hts hin12 hown hK hP 0 rfl rfl 15 (by decide) (ho (.fieldLink RX12 33 "NearEnoughModel" "rLeast" "[I") (List.mem_of_getElem? (i := 8) rfl)) (fun _ h9 => h9) rfl dX12_readRow_117 ?_
    refine lv_iload_n hx hb dX12_readRow_120 rfl (lv_at hl 0 rfl) ?_
    refine va_iald hx hb hK hP 7 6 rfl rfl (ti_in rfl (by omega) (by omega)) dX12_readRow_121 ?_
    refine lv_topi (fun z73 ez73 => ?_)
    have gz73 : z73.toInt = ((upd (σ.2.1 15) (Int32.toNatClampNeg z3) z55) (Int32.toNatClampNeg z3)).toInt := congrArg Int32.toInt (ez73.trans (congrFun (show τ66.2.1 15 = (upd (σ.2.1 15) (Int32.toNatClampNeg z3) z55) from ((hx69 15 (by decide)).2.1).trans (congrArg (fun f9 => upd f9 (Int32.toNatClampNeg z3) z55) (show τ54.2.1 15 = (σ.2.1 15) from ((hx57 15 (by decide)).2.1).trans (show τ45.2.1 15 = (σ.2.1 15) from ((hx48 15 (by decide)).2.1).trans (show τ33.2.1 15 = (σ.2.1 15) from ((hx36 15 (by decide)).2.1).trans (show τ24.2.1 15 = (σ.2.1 15) from ((hx27 15 (by decide)).2.1).trans (show τ14.2.1 15 = (σ.2.1 15) from ((hx17 15 (by decide)).2.1).trans (show τ4.2.1 15 = (σ.2.1 15) from ((hx7 15 (by decide)).2.1).trans rfl)))))))) (Int32.toNatClampNeg z3)))
    refine lv_sipush (v := 999) hx hb dX12_readRow_122 (by decide) ?_
    have kk74 : (999 : Int32).toInt = 999 := by decide
    refine zy_i (va_runV (As := [.int z73, .int 999]) (rest := [.int z3, .ref (ad 16)]) ⟨hx, hb, hml, hown, hts⟩ (n_signed l dC dI h ad cl H.size τ66 z73 999 hI68 (by omega) (show (τ66.1 7).toInt ≤ (τ66.1 3).toInt by omega)) (cwV 2 hts gd_n_readRow_295_n_signed rfl rfl rfl (by decide +kernel) ⟨Nat.le_of_ble_eq_true rfl, Nat.le_of_ble_eq_true rfl⟩) (preV hP hK hD hE (ci := 12) (q0 := 0) rfl rfl) rfl rfl hl.1 rfl (lv_room (Nat.le_of_ble_eq_true rfl)) dX12_readRow_125 ⟨Nat.le_of_ble_eq_true rfl, Nat.le_of_ble_eq_true rfl⟩) hD hS hA (fun z76 τ75 H locs hq hP hD hS => ?_)
    obtain ⟨hI77, hx78, f79, f80, mo81, lx82⟩ := hq
    have mo81x : (τ75.1 4).toInt = 0 → ((τ66.1 4) : Int32).toInt = 0 := mo81
    have lx82x : ((τ66.1 7) : Int32).toInt ≤ (τ75.1 7).toInt ∧ (τ75.1 7).toInt ≤ ((τ66.1 3) : Int32).toInt := lx82
    have qq83 : (τ75.1 3).toInt = ((σ.1 3) : Int32).toInt := congrArg Int32.toInt ((show τ75.1 3 = (σ.1 3) from ((hx78 3 (by decide)).1).trans (show τ66.1 3 = (σ.1 3) from ((hx69 3 (by decide)).1).trans (show τ54.1 3 = (σ.1 3) from ((hx57 3 (by decide)).1).trans (show τ45.1 3 = (σ.1 3) from ((hx48 3 (by decide)).1).trans (show τ33.1 3 = (σ.1 3) from ((hx36 3 (by decide)).1).trans (show τ24.1 3 = (σ.1 3) from ((hx27 3 (by decide)).1).trans (show τ14.1 3 = (σ.1 3) from ((hx17 3 (by decide)).1).trans (show τ4.1 3 = (σ.1 3) from ((hx7 3 (by decide)).1).trans rfl)))))))))
    refine W.widen (k := 0) (n := 0) (Nat.le_of_ble_eq_true rfl) (Nat.le_of_ble_eq_true rfl) ?_
    refine va_iast hx hb hK hP hD hS 8 7 rfl rfl (ti_in rfl (by omega) (by omega)) dX12_readRow_128 (fun H locs hP hD hS => ?_)
    have hP : va_P (dC, dI) vwCl (mW h ad cl (sA τ75 16 (upd (τ75.2.1 16) (Int32.toNatClampNeg z3) z76))) H := hP
    have hD : va_D A (mW h ad cl (sA τ75 16 (upd (τ75.2.1 16) (Int32.toNatClampNeg z3) z76))) := hD
    refine lv_aload_n hx hb dX12_readRow_129 rfl (lv_at hl 1 rfl) ?_
    refine va_get (D := (dC, dI)) (ci := 12) (v := .ref (ad 11)) (C := RX12) (T := TX12) (N := 59) hx hb hts hin12 hown hK hP 0 rfl rfl 11 (by decide) (ho (.fieldLink RX12 20 "NearEnoughModel" "rowMany" "[I") (List.mem_of_getElem? (i := 1) rfl)) (fun _ h9 => h9) rfl dX12_readRow_130 ?_
    refine lv_aload_n hx hb dX12_readRow_133 rfl (lv_at hl 1 rfl) ?_
    refine va_get (D := (dC, dI)) (ci := 12) (v := .int (τ75.1 30)) (C := RX12) (T := TX12) (N := 59) hx hb hts hin12 hown hK hP 0 rfl rfl 30 (by decide) (ho (.fieldLink RX12 243 "NearEnoughModel" "rb" "I") (List.mem_of_getElem? (i := 0) rfl)) (fun _ h9 => h9) rfl dX12_readRow_134 ?_
    refine zi (v := (σ.1 30)) (show τ75.1 30 = (σ.1 30) from ((hx78 30 (by decide)).1).trans (show τ66.1 30 = (σ.1 30) from ((hx69 30 (by decide)).1).trans (show τ54.1 30 = (σ.1 30) from ((hx57 30 (by decide)).1).trans (show τ45.1 30 = (σ.1 30) from ((hx48 30 (by decide)).1).trans (show τ33.1 30 = (σ.1 30) from ((hx36 30 (by decide)).1).trans (show τ24.1 30 = (σ.1 30) from ((hx27 30 (by decide)).1).trans (show τ14.1 30 = (σ.1 30) from ((hx17 30 (by decide)).1).trans (show τ4.1 30 = (σ.1 30) from ((hx7 30 (by decide)).1).trans rfl)))))))) ?_
    have bb84 : 0 ≤ (σ.1 30).toInt ∧ (σ.1 30).toInt ≤ 1 := by have h9 := hI77.1 30; rw [show (τ75.1 30) = (σ.1 30) from (show τ75.1 30 = (σ.1 30) from ((hx78 30 (by decide)).1).trans (show τ66.1 30 = (σ.1 30) from ((hx69 30 (by decide)).1).trans (show τ54.1 30 = (σ.1 30) from ((hx57 30 (by decide)).1).trans (show τ45.1 30 = (σ.1 30) from ((hx48 30 (by decide)).1).trans (show τ33.1 30 = (σ.1 30) from ((hx36 30 (by decide)).1).trans (show τ24.1 30 = (σ.1 30) from ((hx27 30 (by decide)).1).trans (show τ14.1 30 = (σ.1 30) from ((hx17 30 (by decide)).1).trans (show τ4.1 30 = (σ.1 30) from ((hx7 30 (by decide)).1).trans rfl))))))))] at h9; exact h9
    refine lv_dup2_11 hx hb dX12_readRow_137 rfl rfl ?_
    refine va_iald hx hb hK hP 3 2 rfl rfl (ti_in rfl (by omega) (by omega)) dX12_readRow_138 ?_
    refine lv_topi (fun z85 ez85 => ?_)
    have qq86 : z85.toInt = z2.toInt := congrArg Int32.toInt ((ez85.trans (congrFun (show τ75.2.1 11 = (σ.2.1 11) from ((hx78 11 (by decide)).2.1).trans (show τ66.2.1 11 = (σ.2.1 11) from ((hx69 11 (by decide)).2.1).trans (show τ54.2.1 11 = (σ.2.1 11) from ((hx57 11 (by decide)).2.1).trans (show τ45.2.1 11 = (σ.2.1 11) from ((hx48 11 (by decide)).2.1).trans (show τ33.2.1 11 = (σ.2.1 11) from ((hx36 11 (by decide)).2.1).trans (show τ24.2.1 11 = (σ.2.1 11) from ((hx27 11 (by decide)).2.1).trans (show τ14.2.1 11 = (σ.2.1 11) from ((hx17 11 (by decide)).2.1).trans (show τ4.2.1 11 = (σ.2.1 11) from ((hx7 11 (by decide)).2.1).trans rfl)))))))) (Int32.toNatClampNeg (σ.1 30)))).trans ((ez2.trans (congrFun rfl (Int32.toNatClampNeg (σ.1 30))))).symm)
    have gz85 : z85.toInt = ((σ.2.1 11) (Int32.toNatClampNeg (σ.1 30))).toInt := congrArg Int32.toInt (ez85.trans (congrFun (show τ75.2.1 11 = (σ.2.1 11) from ((hx78 11 (by decide)).2.1).trans (show τ66.2.1 11 = (σ.2.1 11) from ((hx69 11 (by decide)).2.1).trans (show τ54.2.1 11 = (σ.2.1 11) from ((hx57 11 (by decide)).2.1).trans (show τ45.2.1 11 = (σ.2.1 11) from ((hx48 11 (by decide)).2.1).trans (show τ33.2.1 11 = (σ.2.1 11) from ((hx36 11 (by decide)).2.1).trans (show τ24.2.1 11 = (σ.2.1 11) from ((hx27 11 (by decide)).2.1).trans (show τ14.2.1 11 = (σ.2.1 11) from ((hx17 11 (by decide)).2.1).trans (show τ4.2.1 11 = (σ.2.1 11) from ((hx7 11 (by decide)).2.1).trans rfl)))))))) (Int32.toNatClampNeg (σ.1 30))))
    have bz85 : 0 ≤ z85.toInt ∧ z85.toInt ≤ 2 := by rw [ez85]; exact (hI77.2 11) _ (by have := ti_cl (x := (σ.1 30)) rfl (by omega); show _ < 2; omega)
    refine lv_iconst (v := 1) hx hb dX12_readRow_139 (by decide) ?_
    refine lv_iadd hx hb dX12_readRow_140 ?_
    refine lv_topi (fun z87 ez87 => ?_)
    have tz87 : z87.toInt = z85.toInt + 1 := ti_add ez87 rfl (by decide) (by omega) (by omega)
    refine va_iast hx hb hK hP hD hS 3 2 rfl rfl (ti_in rfl (by omega) (by omega)) dX12_readRow_141 (fun H locs hP hD hS => ?_)
    have hP : va_P (dC, dI) vwCl (mW h ad cl (sA (sA τ75 16 (upd (τ75.2.1 16) (Int32.toNatClampNeg z3) z76)) 11 (upd (τ75.2.1 11) (Int32.toNatClampNeg (σ.1 30)) z87))) H := hP
    have hD : va_D A (mW h ad cl (sA (sA τ75 16 (upd (τ75.2.1 16) (Int32.toNatClampNeg z3) z76)) 11 (upd (τ75.2.1 11) (Int32.toNatClampNeg (σ.1 30)) z87))) := hD
    rw [hQ]
    have C11 : ((sA (sA τ75 16 (upd (τ75.2.1 16) (Int32.toNatClampNeg z3) z76)) 11 (upd (τ75.2.1 11) (Int32.toNatClampNeg (σ.1 30)) z87))).2.1 11 = (upd (σ.2.1 11) (Int32.toNatClampNeg (σ.1 30)) z87) := (congrArg (fun f9 => upd f9 (Int32.toNatClampNeg (σ.1 30)) z87) (show τ75.2.1 11 = (σ.2.1 11) from ((hx78 11 (by decide)).2.1).trans (show τ66.2.1 11 = (σ.2.1 11) from ((hx69 11 (by decide)).2.1).trans (show τ54.2.1 11 = (σ.2.1 11) from ((hx57 11 (by decide)).2.1).trans (show τ45.2.1 11 = (σ.2.1 11) from ((hx48 11 (by decide)).2.1).trans (show τ33.2.1 11 = (σ.2.1 11) from ((hx36 11 (by decide)).2.1).trans (show τ24.2.1 11 = (σ.2.1 11) from ((hx27 11 (by decide)).2.1).trans (show τ14.2.1 11 = (σ.2.1 11) from ((hx17 11 (by decide)).2.1).trans (show τ4.2.1 11 = (σ.2.1 11) from ((hx7 11 (by decide)).2.1).trans rfl)))))))))
    have C12 : ((sA (sA τ75 16 (upd (τ75.2.1 16) (Int32.toNatClampNeg z3) z76)) 11 (upd (τ75.2.1 11) (Int32.toNatClampNeg (σ.1 30)) z87))).2.1 12 = (σ.2.1 12) := (show τ75.2.1 12 = (σ.2.1 12) from ((hx78 12 (by decide)).2.1).trans (show τ66.2.1 12 = (σ.2.1 12) from ((hx69 12 (by decide)).2.1).trans (show τ54.2.1 12 = (σ.2.1 12) from ((hx57 12 (by decide)).2.1).trans (show τ45.2.1 12 = (σ.2.1 12) from ((hx48 12 (by decide)).2.1).trans (show τ33.2.1 12 = (σ.2.1 12) from ((hx36 12 (by decide)).2.1).trans (show τ24.2.1 12 = (σ.2.1 12) from ((hx27 12 (by decide)).2.1).trans (show τ14.2.1 12 = (σ.2.1 12) from ((hx17 12 (by decide)).2.1).trans (show τ4.2.1 12 = (σ.2.1 12) from ((hx7 12 (by decide)).2.1).trans rfl))))))))
    have C13 : ((sA (sA τ75 16 (upd (τ75.2.1 16) (Int32.toNatClampNeg z3) z76)) 11 (upd (τ75.2.1 11) (Int32.toNatClampNeg (σ.1 30)) z87))).2.1 13 = (σ.2.1 13) := (show τ75.2.1 13 = (σ.2.1 13) from ((hx78 13 (by decide)).2.1).trans (show τ66.2.1 13 = (σ.2.1 13) from ((hx69 13 (by decide)).2.1).trans (show τ54.2.1 13 = (σ.2.1 13) from ((hx57 13 (by decide)).2.1).trans (show τ45.2.1 13 = (σ.2.1 13) from ((hx48 13 (by decide)).2.1).trans (show τ33.2.1 13 = (σ.2.1 13) from ((hx36 13 (by decide)).2.1).trans (show τ24.2.1 13 = (σ.2.1 13) from ((hx27 13 (by decide)).2.1).trans (show τ14.2.1 13 = (σ.2.1 13) from ((hx17 13 (by decide)).2.1).trans (show τ4.2.1 13 = (σ.2.1 13) from ((hx7 13 (by decide)).2.1).trans rfl))))))))
    have C14 : ((sA (sA τ75 16 (upd (τ75.2.1 16) (Int32.toNatClampNeg z3) z76)) 11 (upd (τ75.2.1 11) (Int32.toNatClampNeg (σ.1 30)) z87))).2.1 14 = (upd (σ.2.1 14) (Int32.toNatClampNeg z3) z34) := (show τ75.2.1 14 = (upd (σ.2.1 14) (Int32.toNatClampNeg z3) z34) from ((hx78 14 (by decide)).2.1).trans (show τ66.2.1 14 = (upd (σ.2.1 14) (Int32.toNatClampNeg z3) z34) from ((hx69 14 (by decide)).2.1).trans (show τ54.2.1 14 = (upd (σ.2.1 14) (Int32.toNatClampNeg z3) z34) from ((hx57 14 (by decide)).2.1).trans (show τ45.2.1 14 = (upd (σ.2.1 14) (Int32.toNatClampNeg z3) z34) from ((hx48 14 (by decide)).2.1).trans (congrArg (fun f9 => upd f9 (Int32.toNatClampNeg z3) z34) (show τ33.2.1 14 = (σ.2.1 14) from ((hx36 14 (by decide)).2.1).trans (show τ24.2.1 14 = (σ.2.1 14) from ((hx27 14 (by decide)).2.1).trans (show τ14.2.1 14 = (σ.2.1 14) from ((hx17 14 (by decide)).2.1).trans (show τ4.2.1 14 = (σ.2.1 14) from ((hx7 14 (by decide)).2.1).trans rfl)))))))))
    have C15 : ((sA (sA τ75 16 (upd (τ75.2.1 16) (Int32.toNatClampNeg z3) z76)) 11 (upd (τ75.2.1 11) (Int32.toNatClampNeg (σ.1 30)) z87))).2.1 15 = (upd (σ.2.1 15) (Int32.toNatClampNeg z3) z55) := (show τ75.2.1 15 = (upd (σ.2.1 15) (Int32.toNatClampNeg z3) z55) from ((hx78 15 (by decide)).2.1).trans (show τ66.2.1 15 = (upd (σ.2.1 15) (Int32.toNatClampNeg z3) z55) from ((hx69 15 (by decide)).2.1).trans (congrArg (fun f9 => upd f9 (Int32.toNatClampNeg z3) z55) (show τ54.2.1 15 = (σ.2.1 15) from ((hx57 15 (by decide)).2.1).trans (show τ45.2.1 15 = (σ.2.1 15) from ((hx48 15 (by decide)).2.1).trans (show τ33.2.1 15 = (σ.2.1 15) from ((hx36 15 (by decide)).2.1).trans (show τ24.2.1 15 = (σ.2.1 15) from ((hx27 15 (by decide)).2.1).trans (show τ14.2.1 15 = (σ.2.1 15) from ((hx17 15 (by decide)).2.1).trans (show τ4.2.1 15 = (σ.2.1 15) from ((hx7 15 (by decide)).2.1).trans rfl)))))))))
    have C16 : ((sA (sA τ75 16 (upd (τ75.2.1 16) (Int32.toNatClampNeg z3) z76)) 11 (upd (τ75.2.1 11) (Int32.toNatClampNeg (σ.1 30)) z87))).2.1 16 = (upd (σ.2.1 16) (Int32.toNatClampNeg z3) z76) := (congrArg (fun f9 => upd f9 (Int32.toNatClampNeg z3) z76) (show τ75.2.1 16 = (σ.2.1 16) from ((hx78 16 (by decide)).2.1).trans (show τ66.2.1 16 = (σ.2.1 16) from ((hx69 16 (by decide)).2.1).trans (show τ54.2.1 16 = (σ.2.1 16) from ((hx57 16 (by decide)).2.1).trans (show τ45.2.1 16 = (σ.2.1 16) from ((hx48 16 (by decide)).2.1).trans (show τ33.2.1 16 = (σ.2.1 16) from ((hx36 16 (by decide)).2.1).trans (show τ24.2.1 16 = (σ.2.1 16) from ((hx27 16 (by decide)).2.1).trans (show τ14.2.1 16 = (σ.2.1 16) from ((hx17 16 (by decide)).2.1).trans (show τ4.2.1 16 = (σ.2.1 16) from ((hx7 16 (by decide)).2.1).trans rfl)))))))))
    have C17 : ((sA (sA τ75 16 (upd (τ75.2.1 16) (Int32.toNatClampNeg z3) z76)) 11 (upd (τ75.2.1 11) (Int32.toNatClampNeg (σ.1 30)) z87))).2.1 17 = (σ.2.1 17) := (show τ75.2.1 17 = (σ.2.1 17) from ((hx78 17 (by decide)).2.1).trans (show τ66.2.1 17 = (σ.2.1 17) from ((hx69 17 (by decide)).2.1).trans (show τ54.2.1 17 = (σ.2.1 17) from ((hx57 17 (by decide)).2.1).trans (show τ45.2.1 17 = (σ.2.1 17) from ((hx48 17 (by decide)).2.1).trans (show τ33.2.1 17 = (σ.2.1 17) from ((hx36 17 (by decide)).2.1).trans (show τ24.2.1 17 = (σ.2.1 17) from ((hx27 17 (by decide)).2.1).trans (show τ14.2.1 17 = (σ.2.1 17) from ((hx17 17 (by decide)).2.1).trans (show τ4.2.1 17 = (σ.2.1 17) from ((hx7 17 (by decide)).2.1).trans rfl))))))))
    have C18 : ((sA (sA τ75 16 (upd (τ75.2.1 16) (Int32.toNatClampNeg z3) z76)) 11 (upd (τ75.2.1 11) (Int32.toNatClampNeg (σ.1 30)) z87))).2.1 18 = (σ.2.1 18) := (show τ75.2.1 18 = (σ.2.1 18) from ((hx78 18 (by decide)).2.1).trans (show τ66.2.1 18 = (σ.2.1 18) from ((hx69 18 (by decide)).2.1).trans (show τ54.2.1 18 = (σ.2.1 18) from ((hx57 18 (by decide)).2.1).trans (show τ45.2.1 18 = (σ.2.1 18) from ((hx48 18 (by decide)).2.1).trans (show τ33.2.1 18 = (σ.2.1 18) from ((hx36 18 (by decide)).2.1).trans (show τ24.2.1 18 = (σ.2.1 18) from ((hx27 18 (by decide)).2.1).trans (show τ14.2.1 18 = (σ.2.1 18) from ((hx17 18 (by decide)).2.1).trans (show τ4.2.1 18 = (σ.2.1 18) from ((hx7 18 (by decide)).2.1).trans rfl))))))))
    have C19 : ((sA (sA τ75 16 (upd (τ75.2.1 16) (Int32.toNatClampNeg z3) z76)) 11 (upd (τ75.2.1 11) (Int32.toNatClampNeg (σ.1 30)) z87))).2.1 19 = (σ.2.1 19) := (show τ75.2.1 19 = (σ.2.1 19) from ((hx78 19 (by decide)).2.1).trans (show τ66.2.1 19 = (σ.2.1 19) from ((hx69 19 (by decide)).2.1).trans (show τ54.2.1 19 = (σ.2.1 19) from ((hx57 19 (by decide)).2.1).trans (show τ45.2.1 19 = (σ.2.1 19) from ((hx48 19 (by decide)).2.1).trans (show τ33.2.1 19 = (σ.2.1 19) from ((hx36 19 (by decide)).2.1).trans (show τ24.2.1 19 = (σ.2.1 19) from ((hx27 19 (by decide)).2.1).trans (show τ14.2.1 19 = (σ.2.1 19) from ((hx17 19 (by decide)).2.1).trans (show τ4.2.1 19 = (σ.2.1 19) from ((hx7 19 (by decide)).2.1).trans rfl))))))))
    have C20 : ((sA (sA τ75 16 (upd (τ75.2.1 16) (Int32.toNatClampNeg z3) z76)) 11 (upd (τ75.2.1 11) (Int32.toNatClampNeg (σ.1 30)) z87))).2.1 20 = (σ.2.1 20) := (show τ75.2.1 20 = (σ.2.1 20) from ((hx78 20 (by decide)).2.1).trans (show τ66.2.1 20 = (σ.2.1 20) from ((hx69 20 (by decide)).2.1).trans (show τ54.2.1 20 = (σ.2.1 20) from ((hx57 20 (by decide)).2.1).trans (show τ45.2.1 20 = (σ.2.1 20) from ((hx48 20 (by decide)).2.1).trans (show τ33.2.1 20 = (σ.2.1 20) from ((hx36 20 (by decide)).2.1).trans (show τ24.2.1 20 = (σ.2.1 20) from ((hx27 20 (by decide)).2.1).trans (show τ14.2.1 20 = (σ.2.1 20) from ((hx17 20 (by decide)).2.1).trans (show τ4.2.1 20 = (σ.2.1 20) from ((hx7 20 (by decide)).2.1).trans rfl))))))))
    have C21 : ((sA (sA τ75 16 (upd (τ75.2.1 16) (Int32.toNatClampNeg z3) z76)) 11 (upd (τ75.2.1 11) (Int32.toNatClampNeg (σ.1 30)) z87))).2.1 21 = (σ.2.1 21) := (show τ75.2.1 21 = (σ.2.1 21) from ((hx78 21 (by decide)).2.1).trans (show τ66.2.1 21 = (σ.2.1 21) from ((hx69 21 (by decide)).2.1).trans (show τ54.2.1 21 = (σ.2.1 21) from ((hx57 21 (by decide)).2.1).trans (show τ45.2.1 21 = (σ.2.1 21) from ((hx48 21 (by decide)).2.1).trans (show τ33.2.1 21 = (σ.2.1 21) from ((hx36 21 (by decide)).2.1).trans (show τ24.2.1 21 = (σ.2.1 21) from ((hx27 21 (by decide)).2.1).trans (show τ14.2.1 21 = (σ.2.1 21) from ((hx17 21 (by decide)).2.1).trans (show τ4.2.1 21 = (σ.2.1 21) from ((hx7 21 (by decide)).2.1).trans rfl))))))))
    have C22 : ((sA (sA τ75 16 (upd (τ75.2.1 16) (Int32.toNatClampNeg z3) z76)) 11 (upd (τ75.2.1 11) (Int32.toNatClampNeg (σ.1 30)) z87))).2.1 22 = (σ.2.1 22) := (show τ75.2.1 22 = (σ.2.1 22) from ((hx78 22 (by decide)).2.1).trans (show τ66.2.1 22 = (σ.2.1 22) from ((hx69 22 (by decide)).2.1).trans (show τ54.2.1 22 = (σ.2.1 22) from ((hx57 22 (by decide)).2.1).trans (show τ45.2.1 22 = (σ.2.1 22) from ((hx48 22 (by decide)).2.1).trans (show τ33.2.1 22 = (σ.2.1 22) from ((hx36 22 (by decide)).2.1).trans (show τ24.2.1 22 = (σ.2.1 22) from ((hx27 22 (by decide)).2.1).trans (show τ14.2.1 22 = (σ.2.1 22) from ((hx17 22 (by decide)).2.1).trans (show τ4.2.1 22 = (σ.2.1 22) from ((hx7 22 (by decide)).2.1).trans rfl))))))))
    have CS : ∀ p9, 17 ≤ p9 → p9 ≤ 22 → ((sA (sA τ75 16 (upd (τ75.2.1 16) (Int32.toNatClampNeg z3) z76)) 11 (upd (τ75.2.1 11) (Int32.toNatClampNeg (σ.1 30)) z87))).2.1 p9 = σ.2.1 p9 := fun p9 h1 h2 => by rcases (show p9 = 17 ∨ p9 = 18 ∨ p9 = 19 ∨ p9 = 20 ∨ p9 = 21 ∨ p9 = 22 by omega) with rfl | rfl | rfl | rfl | rfl | rfl; exacts [C17, C18, C19, C20, C21, C22]
    have RR := rel_row hI (by omega) ez2 (by omega) (by omega) (by omega) C11 C12 C13 C14 C15 C16 CS (by omega) (by omega) (by omega) (by omega)
    exact W.vret hx hb hr (fun t ht hW => ⟨⟨(sA (sA τ75 16 (upd (τ75.2.1 16) (Int32.toNatClampNeg z3) z76)) 11 (upd (τ75.2.1 11) (Int32.toNatClampNeg (σ.1 30)) z87)), rfl, ⟨(Inv_sA1 (Inv_sA1 hI77 (fun j _ => Inv.any _)) (rgu (hI77.2 11) (show (0 : Int) ≤ (z87 : Int32).toInt ∧ (z87 : Int32).toInt ≤ 2 by omega))), (eqx.sA (eqx.sA (eqx.tr hx78 (eqx.tr hx69 (eqx.sA (eqx.tr hx57 (eqx.tr hx48 (eqx.sA (eqx.tr hx36 (eqx.tr hx27 (eqx.tr hx17 (eqx.sJ (eqx.tr hx7 eqx.rf (by decide)) (by decide)) (by decide)) (by decide)) (by decide)) (by decide)) (by decide)) (by decide)) (by decide)) (by decide)) (by decide)) (by decide)) (by decide)), RR.1, RR.2, (fun h9 => by have h8 : (τ75.1 4).toInt = 0 := h9; omega), (show (σ.1 7).toInt ≤ (τ75.1 7).toInt ∧ (τ75.1 7).toInt ≤ (σ.1 3).toInt by omega)⟩, wEn_of hP (hK.sub [] rfl) hD ht hW⟩, hS.F ht⟩) hS.2.2 dX12_readRow_142
  · have tc12 := (show (σ.1 8).toInt = 2 from ti_eq rfl (by decide) c12)
    refine lv_iconst (v := 1) hx hb dX12_readRow_40 (by decide) ?_
    refine lv_goto (tgt := 45) hx hb dX12_readRow_41 (by decide) ?_
    have kk88 : (1 : Int32).toInt = 1 := by decide
    refine zy_v (va_runV (As := [.int 1]) (rest := []) ⟨hx, hb, hml, hown, hts⟩ (n_must l dC dI h ad cl H.size (sJ τ4 25 (vp_updL (τ4.2.2.1 25) (Int32.toNatClampNeg z3) (τ4.2.2.2 10))) 1 (Inv.sJ hI6) (show (τ4.1 7).toInt ≤ (τ4.1 3).toInt by omega)) (cwV 1 hts gd_n_readRow_278_n_must rfl rfl rfl (by decide +kernel) ⟨Nat.le_of_ble_eq_true rfl, Nat.le_of_ble_eq_true rfl⟩) (preV hP hK hD hE (ci := 12) (q0 := 0) rfl rfl) rfl rfl hl.1 rfl (lv_room (Nat.le_of_ble_eq_true rfl)) dX12_readRow_45 ⟨Nat.le_of_ble_eq_true rfl, Nat.le_of_ble_eq_true rfl⟩) hD hS hA (fun τ89 H locs hq hP hD hS => ?_)
    obtain ⟨hI91, hx92, mo93, lx94⟩ := hq
    have mo93x : (τ89.1 4).toInt = 0 → ((τ4.1 4) : Int32).toInt = 0 := mo93
    have lx94x : ((τ4.1 7) : Int32).toInt ≤ (τ89.1 7).toInt ∧ (τ89.1 7).toInt ≤ ((τ4.1 3) : Int32).toInt := lx94
    have qq95 : (τ89.1 3).toInt = ((σ.1 3) : Int32).toInt := congrArg Int32.toInt ((show τ89.1 3 = (σ.1 3) from ((hx92 3 (by decide)).1).trans (show τ4.1 3 = (σ.1 3) from ((hx7 3 (by decide)).1).trans rfl)))
    refine W.widen (k := 0) (n := 0) (Nat.le_of_ble_eq_true rfl) (Nat.le_of_ble_eq_true rfl) ?_
    refine lv_aload_n hx hb dX12_readRow_48 rfl (lv_at hl 1 rfl) ?_
    refine lv_aload_n hx hb dX12_readRow_49 rfl (lv_at hl 1 rfl) ?_
    refine lv_ldc2 (v := (6840691)) hx hb hown (ho (.constantLong RX12 145 (6840691)) (List.mem_of_getElem? (i := 5) rfl)) dX12_readRow_50 ?_
    refine zy_i (va_runV (As := [.long 6840691]) (rest := [.ref h]) ⟨hx, hb, hml, hown, hts⟩ (n_isWord l dC dI h ad cl H.size τ89 6840691 hI91) (cwV 1 hts gd_n_readRow_261_n_isWord rfl rfl rfl (by decide +kernel) ⟨Nat.le_of_ble_eq_true rfl, Nat.le_of_ble_eq_true rfl⟩) (preV hP hK hD hE (ci := 12) (q0 := 0) rfl rfl) rfl rfl hl.1 rfl (lv_room (Nat.le_of_ble_eq_true rfl)) dX12_readRow_53 ⟨Nat.le_of_ble_eq_true rfl, Nat.le_of_ble_eq_true rfl⟩) hD hS hA (fun z97 τ96 H locs hq hP hD hS => ?_)
    obtain ⟨rfl, f98⟩ := hq
    refine W.widen (k := 0) (n := 0) (Nat.le_of_ble_eq_true rfl) (Nat.le_of_ble_eq_true rfl) ?_
    refine zy_v (va_runV (As := [.int z97]) (rest := []) ⟨hx, hb, hml, hown, hts⟩ (n_must l dC dI h ad cl H.size τ89 z97 hI91 (show (τ89.1 7).toInt ≤ (τ89.1 3).toInt by omega)) (cwV 1 hts gd_n_readRow_278_n_must rfl rfl rfl (by decide +kernel) ⟨Nat.le_of_ble_eq_true rfl, Nat.le_of_ble_eq_true rfl⟩) (preV hP hK hD hE (ci := 12) (q0 := 0) rfl rfl) rfl rfl hl.1 rfl (lv_room (Nat.le_of_ble_eq_true rfl)) dX12_readRow_56 ⟨Nat.le_of_ble_eq_true rfl, Nat.le_of_ble_eq_true rfl⟩) hD hS hA (fun τ99 H locs hq hP hD hS => ?_)
    obtain ⟨hI101, hx102, mo103, lx104⟩ := hq
    have mo103x : (τ99.1 4).toInt = 0 → ((τ89.1 4) : Int32).toInt = 0 := mo103
    have lx104x : ((τ89.1 7) : Int32).toInt ≤ (τ99.1 7).toInt ∧ (τ99.1 7).toInt ≤ ((τ89.1 3) : Int32).toInt := lx104
    have qq105 : (τ99.1 3).toInt = ((σ.1 3) : Int32).toInt := congrArg Int32.toInt ((show τ99.1 3 = (σ.1 3) from ((hx102 3 (by decide)).1).trans (show τ89.1 3 = (σ.1 3) from ((hx92 3 (by decide)).1).trans (show τ4.1 3 = (σ.1 3) from ((hx7 3 (by decide)).1).trans rfl))))
    refine W.widen (k := 0) (n := 0) (Nat.le_of_ble_eq_true rfl) (Nat.le_of_ble_eq_true rfl) ?_
    refine lv_aload_n hx hb dX12_readRow_59 rfl (lv_at hl 1 rfl) ?_
    refine va_get (D := (dC, dI)) (ci := 12) (v := .ref (ad 14)) (C := RX12) (T := TX12) (N := 59) hx hb hts hin12 hown hK hP 0 rfl rfl 14 (by decide) (ho (.fieldLink RX12 30 "NearEnoughModel" "rHas" "[I") (List.mem_of_getElem? (i := 6) rfl)) (fun _ h9 => h9) rfl dX12_readRow_60 ?_
    refine lv_iload_n hx hb dX12_readRow_63 rfl (lv_at hl 0 rfl) ?_
    refine lv_aload_n hx hb dX12_readRow_64 rfl (lv_at hl 1 rfl) ?_
    refine lv_iconst (v := 1) hx hb dX12_readRow_65 (by decide) ?_
    refine lv_bipush (v := 6) hx hb dX12_readRow_66 (by decide) ?_
    have kk106 : (1 : Int32).toInt = 1 := by decide
    have kk107 : (6 : Int32).toInt = 6 := by decide
    refine zy_i (va_runV (As := [.int 1, .int 6]) (rest := [.int z3, .ref (ad 14)]) ⟨hx, hb, hml, hown, hts⟩ (n_numeral l dC dI h ad cl H.size τ99 1 6 hI101 (by decide) (show (τ99.1 7).toInt ≤ (τ99.1 3).toInt by omega)) (cwV 2 hts gd_n_readRow_291_n_numeral rfl rfl rfl (by decide +kernel) ⟨Nat.le_of_ble_eq_true rfl, Nat.le_of_ble_eq_true rfl⟩) (preV hP hK hD hE (ci := 12) (q0 := 0) rfl rfl) rfl rfl hl.1 rfl (lv_room (Nat.le_of_ble_eq_true rfl)) dX12_readRow_68 ⟨Nat.le_of_ble_eq_true rfl, Nat.le_of_ble_eq_true rfl⟩) hD hS hA (fun z109 τ108 H locs hq hP hD hS => ?_)
    obtain ⟨hI110, hx111, f112, f113, mo114, lx115⟩ := hq
    have mo114x : (τ108.1 4).toInt = 0 → ((τ99.1 4) : Int32).toInt = 0 := mo114
    have lx115x : ((τ99.1 7) : Int32).toInt ≤ (τ108.1 7).toInt ∧ (τ108.1 7).toInt ≤ ((τ99.1 3) : Int32).toInt := lx115
    have qq116 : (τ108.1 3).toInt = ((σ.1 3) : Int32).toInt := congrArg Int32.toInt ((show τ108.1 3 = (σ.1 3) from ((hx111 3 (by decide)).1).trans (show τ99.1 3 = (σ.1 3) from ((hx102 3 (by decide)).1).trans (show τ89.1 3 = (σ.1 3) from ((hx92 3 (by decide)).1).trans (show τ4.1 3 = (σ.1 3) from ((hx7 3 (by decide)).1).trans rfl)))))
    refine W.widen (k := 0) (n := 0) (Nat.le_of_ble_eq_true rfl) (Nat.le_of_ble_eq_true rfl) ?_
    refine va_iast hx hb hK hP hD hS 6 5 rfl rfl (ti_in rfl (by omega) (by omega)) dX12_readRow_71 (fun H locs hP hD hS => ?_)
    have hP : va_P (dC, dI) vwCl (mW h ad cl (sA τ108 14 (upd (τ108.2.1 14) (Int32.toNatClampNeg z3) z109))) H := hP
    have hD : va_D A (mW h ad cl (sA τ108 14 (upd (τ108.2.1 14) (Int32.toNatClampNeg z3) z109))) := hD
    refine lv_aload_n hx hb dX12_readRow_72 rfl (lv_at hl 1 rfl) ?_
    refine lv_aload_n hx hb dX12_readRow_73 rfl (lv_at hl 1 rfl) ?_
    refine lv_ldc2 (v := (1718775661)) hx hb hown (ho (.constantLong RX12 147 (1718775661)) (List.mem_of_getElem? (i := 7) rfl)) dX12_readRow_74 ?_
    refine zy_i (va_runV (As := [.long 1718775661]) (rest := [.ref h]) ⟨hx, hb, hml, hown, hts⟩ (n_isWord l dC dI h ad cl H.size (sA τ108 14 (upd (τ108.2.1 14) (Int32.toNatClampNeg z3) z109)) 1718775661 (Inv_sA1 hI110 (rgu (hI110.2 14) (show (0 : Int) ≤ (z109 : Int32).toInt ∧ (z109 : Int32).toInt ≤ 6 by omega)))) (cwV 1 hts gd_n_readRow_261_n_isWord rfl rfl rfl (by decide +kernel) ⟨Nat.le_of_ble_eq_true rfl, Nat.le_of_ble_eq_true rfl⟩) (preV hP hK hD hE (ci := 12) (q0 := 0) rfl rfl) rfl rfl hl.1 rfl (lv_room (Nat.le_of_ble_eq_true rfl)) dX12_readRow_77 ⟨Nat.le_of_ble_eq_true rfl, Nat.le_of_ble_eq_true rfl⟩) hD hS hA (fun z118 τ117 H locs hq hP hD hS => ?_)
    obtain ⟨rfl, f119⟩ := hq
    refine W.widen (k := 0) (n := 0) (Nat.le_of_ble_eq_true rfl) (Nat.le_of_ble_eq_true rfl) ?_
    refine zy_v (va_runV (As := [.int z118]) (rest := []) ⟨hx, hb, hml, hown, hts⟩ (n_must l dC dI h ad cl H.size (sA τ108 14 (upd (τ108.2.1 14) (Int32.toNatClampNeg z3) z109)) z118 (Inv_sA1 hI110 (rgu (hI110.2 14) (show (0 : Int) ≤ (z109 : Int32).toInt ∧ (z109 : Int32).toInt ≤ 6 by omega))) (show (τ108.1 7).toInt ≤ (τ108.1 3).toInt by omega)) (cwV 1 hts gd_n_readRow_278_n_must rfl rfl rfl (by decide +kernel) ⟨Nat.le_of_ble_eq_true rfl, Nat.le_of_ble_eq_true rfl⟩) (preV hP hK hD hE (ci := 12) (q0 := 0) rfl rfl) rfl rfl hl.1 rfl (lv_room (Nat.le_of_ble_eq_true rfl)) dX12_readRow_80 ⟨Nat.le_of_ble_eq_true rfl, Nat.le_of_ble_eq_true rfl⟩) hD hS hA (fun τ120 H locs hq hP hD hS => ?_)
    obtain ⟨hI122, hx123, mo124, lx125⟩ := hq
    have mo124x : (τ120.1 4).toInt = 0 → ((τ108.1 4) : Int32).toInt = 0 := mo124
    have lx125x : ((τ108.1 7) : Int32).toInt ≤ (τ120.1 7).toInt ∧ (τ120.1 7).toInt ≤ ((τ108.1 3) : Int32).toInt := lx125
    have qq126 : (τ120.1 3).toInt = ((σ.1 3) : Int32).toInt := congrArg Int32.toInt ((show τ120.1 3 = (σ.1 3) from ((hx123 3 (by decide)).1).trans (show τ108.1 3 = (σ.1 3) from ((hx111 3 (by decide)).1).trans (show τ99.1 3 = (σ.1 3) from ((hx102 3 (by decide)).1).trans (show τ89.1 3 = (σ.1 3) from ((hx92 3 (by decide)).1).trans (show τ4.1 3 = (σ.1 3) from ((hx7 3 (by decide)).1).trans rfl))))))
    refine W.widen (k := 0) (n := 0) (Nat.le_of_ble_eq_true rfl) (Nat.le_of_ble_eq_true rfl) ?_
    refine lv_aload_n hx hb dX12_readRow_83 rfl (lv_at hl 1 rfl) ?_
    refine va_get (D := (dC, dI)) (ci := 12) (v := .ref (ad 15)) (C := RX12) (T := TX12) (N := 59) hx hb hts hin12 hown hK hP 0 rfl rfl 15 (by decide) (ho (.fieldLink RX12 33 "NearEnoughModel" "rLeast" "[I") (List.mem_of_getElem? (i := 8) rfl)) (fun _ h9 => h9) rfl dX12_readRow_84 ?_
    refine lv_iload_n hx hb dX12_readRow_87 rfl (lv_at hl 0 rfl) ?_
    refine lv_aload_n hx hb dX12_readRow_88 rfl (lv_at hl 1 rfl) ?_
    refine lv_sipush (v := (-999)) hx hb dX12_readRow_89 (by decide) ?_
    refine lv_sipush (v := 999) hx hb dX12_readRow_92 (by decide) ?_
    have kk127 : ((-999) : Int32).toInt = (-999) := by decide
    have kk128 : (999 : Int32).toInt = 999 := by decide
    refine zy_i (va_runV (As := [.int (-999), .int 999]) (rest := [.int z3, .ref (ad 15)]) ⟨hx, hb, hml, hown, hts⟩ (n_signed l dC dI h ad cl H.size τ120 (-999) 999 hI122 (by decide) (show (τ120.1 7).toInt ≤ (τ120.1 3).toInt by omega)) (cwV 2 hts gd_n_readRow_295_n_signed rfl rfl rfl (by decide +kernel) ⟨Nat.le_of_ble_eq_true rfl, Nat.le_of_ble_eq_true rfl⟩) (preV hP hK hD hE (ci := 12) (q0 := 0) rfl rfl) rfl rfl hl.1 rfl (lv_room (Nat.le_of_ble_eq_true rfl)) dX12_readRow_95 ⟨Nat.le_of_ble_eq_true rfl, Nat.le_of_ble_eq_true rfl⟩) hD hS hA (fun z130 τ129 H locs hq hP hD hS => ?_)
    obtain ⟨hI131, hx132, f133, f134, mo135, lx136⟩ := hq
    have mo135x : (τ129.1 4).toInt = 0 → ((τ120.1 4) : Int32).toInt = 0 := mo135
    have lx136x : ((τ120.1 7) : Int32).toInt ≤ (τ129.1 7).toInt ∧ (τ129.1 7).toInt ≤ ((τ120.1 3) : Int32).toInt := lx136
    have qq137 : (τ129.1 3).toInt = ((σ.1 3) : Int32).toInt := congrArg Int32.toInt ((show τ129.1 3 = (σ.1 3) from ((hx132 3 (by decide)).1).trans (show τ120.1 3 = (σ.1 3) from ((hx123 3 (by decide)).1).trans (show τ108.1 3 = (σ.1 3) from ((hx111 3 (by decide)).1).trans (show τ99.1 3 = (σ.1 3) from ((hx102 3 (by decide)).1).trans (show τ89.1 3 = (σ.1 3) from ((hx92 3 (by decide)).1).trans (show τ4.1 3 = (σ.1 3) from ((hx7 3 (by decide)).1).trans rfl)))))))
    refine W.widen (k := 0) (n := 0) (Nat.le_of_ble_eq_true rfl) (Nat.le_of_ble_eq_true rfl) ?_
    refine va_iast hx hb hK hP hD hS 7 6 rfl rfl (ti_in rfl (by omega) (by omega)) dX12_readRow_98 (fun H locs hP hD hS => ?_)
    have hP : va_P (dC, dI) vwCl (mW h ad cl (sA τ129 15 (upd (τ129.2.1 15) (Int32.toNatClampNeg z3) z130))) H := hP
    have hD : va_D A (mW h ad cl (sA τ129 15 (upd (τ129.2.1 15) (Int32.toNatClampNeg z3) z130))) := hD
    refine lv_aload_n hx hb dX12_readRow_99 rfl (lv_at hl 1 rfl) ?_
    refine lv_aload_n hx hb dX12_readRow_100 rfl (lv_at hl 1 rfl) ?_
    refine lv_ldc2 (v := (29807)) hx hb hown (ho (.constantLong RX12 149 (29807)) (List.mem_of_getElem? (i := 9) rfl)) dX12_readRow_101 ?_
    refine zy_i (va_runV (As := [.long 29807]) (rest := [.ref h]) ⟨hx, hb, hml, hown, hts⟩ (n_isWord l dC dI h ad cl H.size (sA τ129 15 (upd (τ129.2.1 15) (Int32.toNatClampNeg z3) z130)) 29807 (Inv_sA1 hI131 (fun j _ => Inv.any _))) (cwV 1 hts gd_n_readRow_261_n_isWord rfl rfl rfl (by decide +kernel) ⟨Nat.le_of_ble_eq_true rfl, Nat.le_of_ble_eq_true rfl⟩) (preV hP hK hD hE (ci := 12) (q0 := 0) rfl rfl) rfl rfl hl.1 rfl (lv_room (Nat.le_of_ble_eq_true rfl)) dX12_readRow_104 ⟨Nat.le_of_ble_eq_true rfl, Nat.le_of_ble_eq_true rfl⟩) hD hS hA (fun z139 τ138 H locs hq hP hD hS => ?_)
    obtain ⟨rfl, f140⟩ := hq
    refine W.widen (k := 0) (n := 0) (Nat.le_of_ble_eq_true rfl) (Nat.le_of_ble_eq_true rfl) ?_
    refine zy_v (va_runV (As := [.int z139]) (rest := []) ⟨hx, hb, hml, hown, hts⟩ (n_must l dC dI h ad cl H.size (sA τ129 15 (upd (τ129.2.1 15) (Int32.toNatClampNeg z3) z130)) z139 (Inv_sA1 hI131 (fun j _ => Inv.any _)) (show (τ129.1 7).toInt ≤ (τ129.1 3).toInt by omega)) (cwV 1 hts gd_n_readRow_278_n_must rfl rfl rfl (by decide +kernel) ⟨Nat.le_of_ble_eq_true rfl, Nat.le_of_ble_eq_true rfl⟩) (preV hP hK hD hE (ci := 12) (q0 := 0) rfl rfl) rfl rfl hl.1 rfl (lv_room (Nat.le_of_ble_eq_true rfl)) dX12_readRow_107 ⟨Nat.le_of_ble_eq_true rfl, Nat.le_of_ble_eq_true rfl⟩) hD hS hA (fun τ141 H locs hq hP hD hS => ?_)
    obtain ⟨hI143, hx144, mo145, lx146⟩ := hq
    have mo145x : (τ141.1 4).toInt = 0 → ((τ129.1 4) : Int32).toInt = 0 := mo145
    have lx146x : ((τ129.1 7) : Int32).toInt ≤ (τ141.1 7).toInt ∧ (τ141.1 7).toInt ≤ ((τ129.1 3) : Int32).toInt := lx146
    have qq147 : (τ141.1 3).toInt = ((σ.1 3) : Int32).toInt := congrArg Int32.toInt ((show τ141.1 3 = (σ.1 3) from ((hx144 3 (by decide)).1).trans (show τ129.1 3 = (σ.1 3) from ((hx132 3 (by decide)).1).trans (show τ120.1 3 = (σ.1 3) from ((hx123 3 (by decide)).1).trans (show τ108.1 3 = (σ.1 3) from ((hx111 3 (by decide)).1).trans (show τ99.1 3 = (σ.1 3) from ((hx102 3 (by decide)).1).trans (show τ89.1 3 = (σ.1 3) from ((hx92 3 (by decide)).1).trans (show τ4.1 3 = (σ.1 3) from ((hx7 3 (by decide)).1).trans rfl))))))))
    refine W.widen (k := 0) (n := 0) (Nat.le_of_ble_eq_true rfl) (Nat.le_of_ble_eq_true rfl) ?_
    refine lv_aload_n hx hb dX12_readRow_110 rfl (lv_at hl 1 rfl) ?_
    refine va_get (D := (dC, dI)) (ci := 12) (v := .ref (ad 16)) (C := RX12) (T := TX12) (N := 59) hx hb hts hin12 hown hK hP 0 rfl rfl 16 (by decide) (ho (.fieldLink RX12 36 "NearEnoughModel" "rMost" "[I") (List.mem_of_getElem? (i := 10) rfl)) (fun _ h9 => h9) rfl dX12_readRow_111 ?_
    refine lv_iload_n hx hb dX12_readRow_114 rfl (lv_at hl 0 rfl) ?_
    refine lv_aload_n hx hb dX12_readRow_115 rfl (lv_at hl 1 rfl) ?_
    refine lv_aload_n hx hb dX12_readRow_116 rfl (lv_at hl 1 rfl) ?_
    refine va_get (D := (dC, dI)) (ci := 12) (v := .ref (ad 15)) (C := RX12) (T := TX12) (N := 59) hx hb hts hin12 hown hK hP 0 rfl rfl 15 (by decide) (ho (.fieldLink RX12 33 "NearEnoughModel" "rLeast" "[I") (List.mem_of_getElem? (i := 8) rfl)) (fun _ h9 => h9) rfl dX12_readRow_117 ?_
    refine lv_iload_n hx hb dX12_readRow_120 rfl (lv_at hl 0 rfl) ?_
    refine va_iald hx hb hK hP 7 6 rfl rfl (ti_in rfl (by omega) (by omega)) dX12_readRow_121 ?_
    refine lv_topi (fun z148 ez148 => ?_)
    have gz148 : z148.toInt = ((upd (σ.2.1 15) (Int32.toNatClampNeg z3) z130) (Int32.toNatClampNeg z3)).toInt := congrArg Int32.toInt (ez148.trans (congrFun (show τ141.2.1 15 = (upd (σ.2.1 15) (Int32.toNatClampNeg z3) z130) from ((hx144 15 (by decide)).2.1).trans (congrArg (fun f9 => upd f9 (Int32.toNatClampNeg z3) z130) (show τ129.2.1 15 = (σ.2.1 15) from ((hx132 15 (by decide)).2.1).trans (show τ120.2.1 15 = (σ.2.1 15) from ((hx123 15 (by decide)).2.1).trans (show τ108.2.1 15 = (σ.2.1 15) from ((hx111 15 (by decide)).2.1).trans (show τ99.2.1 15 = (σ.2.1 15) from ((hx102 15 (by decide)).2.1).trans (show τ89.2.1 15 = (σ.2.1 15) from ((hx92 15 (by decide)).2.1).trans (show τ4.2.1 15 = (σ.2.1 15) from ((hx7 15 (by decide)).2.1).trans rfl)))))))) (Int32.toNatClampNeg z3)))
    refine lv_sipush (v := 999) hx hb dX12_readRow_122 (by decide) ?_
    have kk149 : (999 : Int32).toInt = 999 := by decide
    refine zy_i (va_runV (As := [.int z148, .int 999]) (rest := [.int z3, .ref (ad 16)]) ⟨hx, hb, hml, hown, hts⟩ (n_signed l dC dI h ad cl H.size τ141 z148 999 hI143 (by omega) (show (τ141.1 7).toInt ≤ (τ141.1 3).toInt by omega)) (cwV 2 hts gd_n_readRow_295_n_signed rfl rfl rfl (by decide +kernel) ⟨Nat.le_of_ble_eq_true rfl, Nat.le_of_ble_eq_true rfl⟩) (preV hP hK hD hE (ci := 12) (q0 := 0) rfl rfl) rfl rfl hl.1 rfl (lv_room (Nat.le_of_ble_eq_true rfl)) dX12_readRow_125 ⟨Nat.le_of_ble_eq_true rfl, Nat.le_of_ble_eq_true rfl⟩) hD hS hA (fun z151 τ150 H locs hq hP hD hS => ?_)
    obtain ⟨hI152, hx153, f154, f155, mo156, lx157⟩ := hq
    have mo156x : (τ150.1 4).toInt = 0 → ((τ141.1 4) : Int32).toInt = 0 := mo156
    have lx157x : ((τ141.1 7) : Int32).toInt ≤ (τ150.1 7).toInt ∧ (τ150.1 7).toInt ≤ ((τ141.1 3) : Int32).toInt := lx157
    have qq158 : (τ150.1 3).toInt = ((σ.1 3) : Int32).toInt := congrArg Int32.toInt ((show τ150.1 3 = (σ.1 3) from ((hx153 3 (by decide)).1).trans (show τ141.1 3 = (σ.1 3) from ((hx144 3 (by decide)).1).trans (show τ129.1 3 = (σ.1 3) from ((hx132 3 (by decide)).1).trans (show τ120.1 3 = (σ.1 3) from ((hx123 3 (by decide)).1).trans (show τ108.1 3 = (σ.1 3) from ((hx111 3 (by decide)).1).trans (show τ99.1 3 = (σ.1 3) from ((hx102 3 (by decide)).1).trans (show τ89.1 3 = (σ.1 3) from ((hx92 3 (by decide)).1).trans (show τ4.1 3 = (σ.1 3) from ((hx7 3 (by decide)).1).trans rfl)))))))))
    refine W.widen (k := 0) (n := 0) (Nat.le_of_ble_eq_true rfl) (Nat.le_of_ble_eq_true rfl) ?_
    refine va_iast hx hb hK hP hD hS 8 7 rfl rfl (ti_in rfl (by omega) (by omega)) dX12_readRow_128 (fun H locs hP hD hS => ?_)
    have hP : va_P (dC, dI) vwCl (mW h ad cl (sA τ150 16 (upd (τ150.2.1 16) (Int32.toNatClampNeg z3) z151))) H := hP
    have hD : va_D A (mW h ad cl (sA τ150 16 (upd (τ150.2.1 16) (Int32.toNatClampNeg z3) z151))) := hD
    refine lv_aload_n hx hb dX12_readRow_129 rfl (lv_at hl 1 rfl) ?_
    refine va_get (D := (dC, dI)) (ci := 12) (v := .ref (ad 11)) (C := RX12) (T := TX12) (N := 59) hx hb hts hin12 hown hK hP 0 rfl rfl 11 (by decide) (ho (.fieldLink RX12 20 "NearEnoughModel" "rowMany" "[I") (List.mem_of_getElem? (i := 1) rfl)) (fun _ h9 => h9) rfl dX12_readRow_130 ?_
    refine lv_aload_n hx hb dX12_readRow_133 rfl (lv_at hl 1 rfl) ?_
    refine va_get (D := (dC, dI)) (ci := 12) (v := .int (τ150.1 30)) (C := RX12) (T := TX12) (N := 59) hx hb hts hin12 hown hK hP 0 rfl rfl 30 (by decide) (ho (.fieldLink RX12 243 "NearEnoughModel" "rb" "I") (List.mem_of_getElem? (i := 0) rfl)) (fun _ h9 => h9) rfl dX12_readRow_134 ?_
    refine zi (v := (σ.1 30)) (show τ150.1 30 = (σ.1 30) from ((hx153 30 (by decide)).1).trans (show τ141.1 30 = (σ.1 30) from ((hx144 30 (by decide)).1).trans (show τ129.1 30 = (σ.1 30) from ((hx132 30 (by decide)).1).trans (show τ120.1 30 = (σ.1 30) from ((hx123 30 (by decide)).1).trans (show τ108.1 30 = (σ.1 30) from ((hx111 30 (by decide)).1).trans (show τ99.1 30 = (σ.1 30) from ((hx102 30 (by decide)).1).trans (show τ89.1 30 = (σ.1 30) from ((hx92 30 (by decide)).1).trans (show τ4.1 30 = (σ.1 30) from ((hx7 30 (by decide)).1).trans rfl)))))))) ?_
    have bb159 : 0 ≤ (σ.1 30).toInt ∧ (σ.1 30).toInt ≤ 1 := by have h9 := hI152.1 30; rw [show (τ150.1 30) = (σ.1 30) from (show τ150.1 30 = (σ.1 30) from ((hx153 30 (by decide)).1).trans (show τ141.1 30 = (σ.1 30) from ((hx144 30 (by decide)).1).trans (show τ129.1 30 = (σ.1 30) from ((hx132 30 (by decide)).1).trans (show τ120.1 30 = (σ.1 30) from ((hx123 30 (by decide)).1).trans (show τ108.1 30 = (σ.1 30) from ((hx111 30 (by decide)).1).trans (show τ99.1 30 = (σ.1 30) from ((hx102 30 (by decide)).1).trans (show τ89.1 30 = (σ.1 30) from ((hx92 30 (by decide)).1).trans (show τ4.1 30 = (σ.1 30) from ((hx7 30 (by decide)).1).trans rfl))))))))] at h9; exact h9
    refine lv_dup2_11 hx hb dX12_readRow_137 rfl rfl ?_
    refine va_iald hx hb hK hP 3 2 rfl rfl (ti_in rfl (by omega) (by omega)) dX12_readRow_138 ?_
    refine lv_topi (fun z160 ez160 => ?_)
    have qq161 : z160.toInt = z2.toInt := congrArg Int32.toInt ((ez160.trans (congrFun (show τ150.2.1 11 = (σ.2.1 11) from ((hx153 11 (by decide)).2.1).trans (show τ141.2.1 11 = (σ.2.1 11) from ((hx144 11 (by decide)).2.1).trans (show τ129.2.1 11 = (σ.2.1 11) from ((hx132 11 (by decide)).2.1).trans (show τ120.2.1 11 = (σ.2.1 11) from ((hx123 11 (by decide)).2.1).trans (show τ108.2.1 11 = (σ.2.1 11) from ((hx111 11 (by decide)).2.1).trans (show τ99.2.1 11 = (σ.2.1 11) from ((hx102 11 (by decide)).2.1).trans (show τ89.2.1 11 = (σ.2.1 11) from ((hx92 11 (by decide)).2.1).trans (show τ4.2.1 11 = (σ.2.1 11) from ((hx7 11 (by decide)).2.1).trans rfl)))))))) (Int32.toNatClampNeg (σ.1 30)))).trans ((ez2.trans (congrFun rfl (Int32.toNatClampNeg (σ.1 30))))).symm)
    have gz160 : z160.toInt = ((σ.2.1 11) (Int32.toNatClampNeg (σ.1 30))).toInt := congrArg Int32.toInt (ez160.trans (congrFun (show τ150.2.1 11 = (σ.2.1 11) from ((hx153 11 (by decide)).2.1).trans (show τ141.2.1 11 = (σ.2.1 11) from ((hx144 11 (by decide)).2.1).trans (show τ129.2.1 11 = (σ.2.1 11) from ((hx132 11 (by decide)).2.1).trans (show τ120.2.1 11 = (σ.2.1 11) from ((hx123 11 (by decide)).2.1).trans (show τ108.2.1 11 = (σ.2.1 11) from ((hx111 11 (by decide)).2.1).trans (show τ99.2.1 11 = (σ.2.1 11) from ((hx102 11 (by decide)).2.1).trans (show τ89.2.1 11 = (σ.2.1 11) from ((hx92 11 (by decide)).2.1).trans (show τ4.2.1 11 = (σ.2.1 11) from ((hx7 11 (by decide)).2.1).trans rfl)))))))) (Int32.toNatClampNeg (σ.1 30))))
    have bz160 : 0 ≤ z160.toInt ∧ z160.toInt ≤ 2 := by rw [ez160]; exact (hI152.2 11) _ (by have := ti_cl (x := (σ.1 30)) rfl (by omega); show _ < 2; omega)
    refine lv_iconst (v := 1) hx hb dX12_readRow_139 (by decide) ?_
    refine lv_iadd hx hb dX12_readRow_140 ?_
    refine lv_topi (fun z162 ez162 => ?_)
    have tz162 : z162.toInt = z160.toInt + 1 := ti_add ez162 rfl (by decide) (by omega) (by omega)
    refine va_iast hx hb hK hP hD hS 3 2 rfl rfl (ti_in rfl (by omega) (by omega)) dX12_readRow_141 (fun H locs hP hD hS => ?_)
    have hP : va_P (dC, dI) vwCl (mW h ad cl (sA (sA τ150 16 (upd (τ150.2.1 16) (Int32.toNatClampNeg z3) z151)) 11 (upd (τ150.2.1 11) (Int32.toNatClampNeg (σ.1 30)) z162))) H := hP
    have hD : va_D A (mW h ad cl (sA (sA τ150 16 (upd (τ150.2.1 16) (Int32.toNatClampNeg z3) z151)) 11 (upd (τ150.2.1 11) (Int32.toNatClampNeg (σ.1 30)) z162))) := hD
    rw [hQ]
    have C11 : ((sA (sA τ150 16 (upd (τ150.2.1 16) (Int32.toNatClampNeg z3) z151)) 11 (upd (τ150.2.1 11) (Int32.toNatClampNeg (σ.1 30)) z162))).2.1 11 = (upd (σ.2.1 11) (Int32.toNatClampNeg (σ.1 30)) z162) := (congrArg (fun f9 => upd f9 (Int32.toNatClampNeg (σ.1 30)) z162) (show τ150.2.1 11 = (σ.2.1 11) from ((hx153 11 (by decide)).2.1).trans (show τ141.2.1 11 = (σ.2.1 11) from ((hx144 11 (by decide)).2.1).trans (show τ129.2.1 11 = (σ.2.1 11) from ((hx132 11 (by decide)).2.1).trans (show τ120.2.1 11 = (σ.2.1 11) from ((hx123 11 (by decide)).2.1).trans (show τ108.2.1 11 = (σ.2.1 11) from ((hx111 11 (by decide)).2.1).trans (show τ99.2.1 11 = (σ.2.1 11) from ((hx102 11 (by decide)).2.1).trans (show τ89.2.1 11 = (σ.2.1 11) from ((hx92 11 (by decide)).2.1).trans (show τ4.2.1 11 = (σ.2.1 11) from ((hx7 11 (by decide)).2.1).trans rfl)))))))))
    have C12 : ((sA (sA τ150 16 (upd (τ150.2.1 16) (Int32.toNatClampNeg z3) z151)) 11 (upd (τ150.2.1 11) (Int32.toNatClampNeg (σ.1 30)) z162))).2.1 12 = (σ.2.1 12) := (show τ150.2.1 12 = (σ.2.1 12) from ((hx153 12 (by decide)).2.1).trans (show τ141.2.1 12 = (σ.2.1 12) from ((hx144 12 (by decide)).2.1).trans (show τ129.2.1 12 = (σ.2.1 12) from ((hx132 12 (by decide)).2.1).trans (show τ120.2.1 12 = (σ.2.1 12) from ((hx123 12 (by decide)).2.1).trans (show τ108.2.1 12 = (σ.2.1 12) from ((hx111 12 (by decide)).2.1).trans (show τ99.2.1 12 = (σ.2.1 12) from ((hx102 12 (by decide)).2.1).trans (show τ89.2.1 12 = (σ.2.1 12) from ((hx92 12 (by decide)).2.1).trans (show τ4.2.1 12 = (σ.2.1 12) from ((hx7 12 (by decide)).2.1).trans rfl))))))))
    have C13 : ((sA (sA τ150 16 (upd (τ150.2.1 16) (Int32.toNatClampNeg z3) z151)) 11 (upd (τ150.2.1 11) (Int32.toNatClampNeg (σ.1 30)) z162))).2.1 13 = (σ.2.1 13) := (show τ150.2.1 13 = (σ.2.1 13) from ((hx153 13 (by decide)).2.1).trans (show τ141.2.1 13 = (σ.2.1 13) from ((hx144 13 (by decide)).2.1).trans (show τ129.2.1 13 = (σ.2.1 13) from ((hx132 13 (by decide)).2.1).trans (show τ120.2.1 13 = (σ.2.1 13) from ((hx123 13 (by decide)).2.1).trans (show τ108.2.1 13 = (σ.2.1 13) from ((hx111 13 (by decide)).2.1).trans (show τ99.2.1 13 = (σ.2.1 13) from ((hx102 13 (by decide)).2.1).trans (show τ89.2.1 13 = (σ.2.1 13) from ((hx92 13 (by decide)).2.1).trans (show τ4.2.1 13 = (σ.2.1 13) from ((hx7 13 (by decide)).2.1).trans rfl))))))))
    have C14 : ((sA (sA τ150 16 (upd (τ150.2.1 16) (Int32.toNatClampNeg z3) z151)) 11 (upd (τ150.2.1 11) (Int32.toNatClampNeg (σ.1 30)) z162))).2.1 14 = (upd (σ.2.1 14) (Int32.toNatClampNeg z3) z109) := (show τ150.2.1 14 = (upd (σ.2.1 14) (Int32.toNatClampNeg z3) z109) from ((hx153 14 (by decide)).2.1).trans (show τ141.2.1 14 = (upd (σ.2.1 14) (Int32.toNatClampNeg z3) z109) from ((hx144 14 (by decide)).2.1).trans (show τ129.2.1 14 = (upd (σ.2.1 14) (Int32.toNatClampNeg z3) z109) from ((hx132 14 (by decide)).2.1).trans (show τ120.2.1 14 = (upd (σ.2.1 14) (Int32.toNatClampNeg z3) z109) from ((hx123 14 (by decide)).2.1).trans (congrArg (fun f9 => upd f9 (Int32.toNatClampNeg z3) z109) (show τ108.2.1 14 = (σ.2.1 14) from ((hx111 14 (by decide)).2.1).trans (show τ99.2.1 14 = (σ.2.1 14) from ((hx102 14 (by decide)).2.1).trans (show τ89.2.1 14 = (σ.2.1 14) from ((hx92 14 (by decide)).2.1).trans (show τ4.2.1 14 = (σ.2.1 14) from ((hx7 14 (by decide)).2.1).trans rfl)))))))))
    have C15 : ((sA (sA τ150 16 (upd (τ150.2.1 16) (Int32.toNatClampNeg z3) z151)) 11 (upd (τ150.2.1 11) (Int32.toNatClampNeg (σ.1 30)) z162))).2.1 15 = (upd (σ.2.1 15) (Int32.toNatClampNeg z3) z130) := (show τ150.2.1 15 = (upd (σ.2.1 15) (Int32.toNatClampNeg z3) z130) from ((hx153 15 (by decide)).2.1).trans (show τ141.2.1 15 = (upd (σ.2.1 15) (Int32.toNatClampNeg z3) z130) from ((hx144 15 (by decide)).2.1).trans (congrArg (fun f9 => upd f9 (Int32.toNatClampNeg z3) z130) (show τ129.2.1 15 = (σ.2.1 15) from ((hx132 15 (by decide)).2.1).trans (show τ120.2.1 15 = (σ.2.1 15) from ((hx123 15 (by decide)).2.1).trans (show τ108.2.1 15 = (σ.2.1 15) from ((hx111 15 (by decide)).2.1).trans (show τ99.2.1 15 = (σ.2.1 15) from ((hx102 15 (by decide)).2.1).trans (show τ89.2.1 15 = (σ.2.1 15) from ((hx92 15 (by decide)).2.1).trans (show τ4.2.1 15 = (σ.2.1 15) from ((hx7 15 (by decide)).2.1).trans rfl)))))))))
    have C16 : ((sA (sA τ150 16 (upd (τ150.2.1 16) (Int32.toNatClampNeg z3) z151)) 11 (upd (τ150.2.1 11) (Int32.toNatClampNeg (σ.1 30)) z162))).2.1 16 = (upd (σ.2.1 16) (Int32.toNatClampNeg z3) z151) := (congrArg (fun f9 => upd f9 (Int32.toNatClampNeg z3) z151) (show τ150.2.1 16 = (σ.2.1 16) from ((hx153 16 (by decide)).2.1).trans (show τ141.2.1 16 = (σ.2.1 16) from ((hx144 16 (by decide)).2.1).trans (show τ129.2.1 16 = (σ.2.1 16) from ((hx132 16 (by decide)).2.1).trans (show τ120.2.1 16 = (σ.2.1 16) from ((hx123 16 (by decide)).2.1).trans (show τ108.2.1 16 = (σ.2.1 16) from ((hx111 16 (by decide)).2.1).trans (show τ99.2.1 16 = (σ.2.1 16) from ((hx102 16 (by decide)).2.1).trans (show τ89.2.1 16 = (σ.2.1 16) from ((hx92 16 (by decide)).2.1).trans (show τ4.2.1 16 = (σ.2.1 16) from ((hx7 16 (by decide)).2.1).trans rfl)))))))))
    have C17 : ((sA (sA τ150 16 (upd (τ150.2.1 16) (Int32.toNatClampNeg z3) z151)) 11 (upd (τ150.2.1 11) (Int32.toNatClampNeg (σ.1 30)) z162))).2.1 17 = (σ.2.1 17) := (show τ150.2.1 17 = (σ.2.1 17) from ((hx153 17 (by decide)).2.1).trans (show τ141.2.1 17 = (σ.2.1 17) from ((hx144 17 (by decide)).2.1).trans (show τ129.2.1 17 = (σ.2.1 17) from ((hx132 17 (by decide)).2.1).trans (show τ120.2.1 17 = (σ.2.1 17) from ((hx123 17 (by decide)).2.1).trans (show τ108.2.1 17 = (σ.2.1 17) from ((hx111 17 (by decide)).2.1).trans (show τ99.2.1 17 = (σ.2.1 17) from ((hx102 17 (by decide)).2.1).trans (show τ89.2.1 17 = (σ.2.1 17) from ((hx92 17 (by decide)).2.1).trans (show τ4.2.1 17 = (σ.2.1 17) from ((hx7 17 (by decide)).2.1).trans rfl))))))))
    have C18 : ((sA (sA τ150 16 (upd (τ150.2.1 16) (Int32.toNatClampNeg z3) z151)) 11 (upd (τ150.2.1 11) (Int32.toNatClampNeg (σ.1 30)) z162))).2.1 18 = (σ.2.1 18) := (show τ150.2.1 18 = (σ.2.1 18) from ((hx153 18 (by decide)).2.1).trans (show τ141.2.1 18 = (σ.2.1 18) from ((hx144 18 (by decide)).2.1).trans (show τ129.2.1 18 = (σ.2.1 18) from ((hx132 18 (by decide)).2.1).trans (show τ120.2.1 18 = (σ.2.1 18) from ((hx123 18 (by decide)).2.1).trans (show τ108.2.1 18 = (σ.2.1 18) from ((hx111 18 (by decide)).2.1).trans (show τ99.2.1 18 = (σ.2.1 18) from ((hx102 18 (by decide)).2.1).trans (show τ89.2.1 18 = (σ.2.1 18) from ((hx92 18 (by decide)).2.1).trans (show τ4.2.1 18 = (σ.2.1 18) from ((hx7 18 (by decide)).2.1).trans rfl))))))))
    have C19 : ((sA (sA τ150 16 (upd (τ150.2.1 16) (Int32.toNatClampNeg z3) z151)) 11 (upd (τ150.2.1 11) (Int32.toNatClampNeg (σ.1 30)) z162))).2.1 19 = (σ.2.1 19) := (show τ150.2.1 19 = (σ.2.1 19) from ((hx153 19 (by decide)).2.1).trans (show τ141.2.1 19 = (σ.2.1 19) from ((hx144 19 (by decide)).2.1).trans (show τ129.2.1 19 = (σ.2.1 19) from ((hx132 19 (by decide)).2.1).trans (show τ120.2.1 19 = (σ.2.1 19) from ((hx123 19 (by decide)).2.1).trans (show τ108.2.1 19 = (σ.2.1 19) from ((hx111 19 (by decide)).2.1).trans (show τ99.2.1 19 = (σ.2.1 19) from ((hx102 19 (by decide)).2.1).trans (show τ89.2.1 19 = (σ.2.1 19) from ((hx92 19 (by decide)).2.1).trans (show τ4.2.1 19 = (σ.2.1 19) from ((hx7 19 (by decide)).2.1).trans rfl))))))))
    have C20 : ((sA (sA τ150 16 (upd (τ150.2.1 16) (Int32.toNatClampNeg z3) z151)) 11 (upd (τ150.2.1 11) (Int32.toNatClampNeg (σ.1 30)) z162))).2.1 20 = (σ.2.1 20) := (show τ150.2.1 20 = (σ.2.1 20) from ((hx153 20 (by decide)).2.1).trans (show τ141.2.1 20 = (σ.2.1 20) from ((hx144 20 (by decide)).2.1).trans (show τ129.2.1 20 = (σ.2.1 20) from ((hx132 20 (by decide)).2.1).trans (show τ120.2.1 20 = (σ.2.1 20) from ((hx123 20 (by decide)).2.1).trans (show τ108.2.1 20 = (σ.2.1 20) from ((hx111 20 (by decide)).2.1).trans (show τ99.2.1 20 = (σ.2.1 20) from ((hx102 20 (by decide)).2.1).trans (show τ89.2.1 20 = (σ.2.1 20) from ((hx92 20 (by decide)).2.1).trans (show τ4.2.1 20 = (σ.2.1 20) from ((hx7 20 (by decide)).2.1).trans rfl))))))))
    have C21 : ((sA (sA τ150 16 (upd (τ150.2.1 16) (Int32.toNatClampNeg z3) z151)) 11 (upd (τ150.2.1 11) (Int32.toNatClampNeg (σ.1 30)) z162))).2.1 21 = (σ.2.1 21) := (show τ150.2.1 21 = (σ.2.1 21) from ((hx153 21 (by decide)).2.1).trans (show τ141.2.1 21 = (σ.2.1 21) from ((hx144 21 (by decide)).2.1).trans (show τ129.2.1 21 = (σ.2.1 21) from ((hx132 21 (by decide)).2.1).trans (show τ120.2.1 21 = (σ.2.1 21) from ((hx123 21 (by decide)).2.1).trans (show τ108.2.1 21 = (σ.2.1 21) from ((hx111 21 (by decide)).2.1).trans (show τ99.2.1 21 = (σ.2.1 21) from ((hx102 21 (by decide)).2.1).trans (show τ89.2.1 21 = (σ.2.1 21) from ((hx92 21 (by decide)).2.1).trans (show τ4.2.1 21 = (σ.2.1 21) from ((hx7 21 (by decide)).2.1).trans rfl))))))))
    have C22 : ((sA (sA τ150 16 (upd (τ150.2.1 16) (Int32.toNatClampNeg z3) z151)) 11 (upd (τ150.2.1 11) (Int32.toNatClampNeg (σ.1 30)) z162))).2.1 22 = (σ.2.1 22) := (show τ150.2.1 22 = (σ.2.1 22) from ((hx153 22 (by decide)).2.1).trans (show τ141.2.1 22 = (σ.2.1 22) from ((hx144 22 (by decide)).2.1).trans (show τ129.2.1 22 = (σ.2.1 22) from ((hx132 22 (by decide)).2.1).trans (show τ120.2.1 22 = (σ.2.1 22) from ((hx123 22 (by decide)).2.1).trans (show τ108.2.1 22 = (σ.2.1 22) from ((hx111 22 (by decide)).2.1).trans (show τ99.2.1 22 = (σ.2.1 22) from ((hx102 22 (by decide)).2.1).trans (show τ89.2.1 22 = (σ.2.1 22) from ((hx92 22 (by decide)).2.1).trans (show τ4.2.1 22 = (σ.2.1 22) from ((hx7 22 (by decide)).2.1).trans rfl))))))))
    have CS : ∀ p9, 17 ≤ p9 → p9 ≤ 22 → ((sA (sA τ150 16 (upd (τ150.2.1 16) (Int32.toNatClampNeg z3) z151)) 11 (upd (τ150.2.1 11) (Int32.toNatClampNeg (σ.1 30)) z162))).2.1 p9 = σ.2.1 p9 := fun p9 h1 h2 => by rcases (show p9 = 17 ∨ p9 = 18 ∨ p9 = 19 ∨ p9 = 20 ∨ p9 = 21 ∨ p9 = 22 by omega) with rfl | rfl | rfl | rfl | rfl | rfl; exacts [C17, C18, C19, C20, C21, C22]
    have RR := rel_row hI (by omega) ez2 (by omega) (by omega) (by omega) C11 C12 C13 C14 C15 C16 CS (by omega) (by omega) (by omega) (by omega)
    exact W.vret hx hb hr (fun t ht hW => ⟨⟨(sA (sA τ150 16 (upd (τ150.2.1 16) (Int32.toNatClampNeg z3) z151)) 11 (upd (τ150.2.1 11) (Int32.toNatClampNeg (σ.1 30)) z162)), rfl, ⟨(Inv_sA1 (Inv_sA1 hI152 (fun j _ => Inv.any _)) (rgu (hI152.2 11) (show (0 : Int) ≤ (z162 : Int32).toInt ∧ (z162 : Int32).toInt ≤ 2 by omega))), (eqx.sA (eqx.sA (eqx.tr hx153 (eqx.tr hx144 (eqx.sA (eqx.tr hx132 (eqx.tr hx123 (eqx.sA (eqx.tr hx111 (eqx.tr hx102 (eqx.tr hx92 (eqx.sJ (eqx.tr hx7 eqx.rf (by decide)) (by decide)) (by decide)) (by decide)) (by decide)) (by decide)) (by decide)) (by decide)) (by decide)) (by decide)) (by decide)) (by decide)) (by decide)), RR.1, RR.2, (fun h9 => by have h8 : (τ150.1 4).toInt = 0 := h9; omega), (show (σ.1 7).toInt ≤ (τ150.1 7).toInt ∧ (τ150.1 7).toInt ≤ (σ.1 3).toInt by omega)⟩, wEn_of hP (hK.sub [] rfl) hD ht hW⟩, hS.F ht⟩) hS.2.2 dX12_readRow_142
