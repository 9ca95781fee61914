theorem dX12_readRow_0 : decode cX12_readRow 0 = .ok (.iconst 2, 1) := by decide +kernel
theorem dX12_readRow_1 : decode cX12_readRow 1 = .ok (.aload_n 0, 1) := by decide +kernel
theorem dX12_readRow_2 : decode cX12_readRow 2 = .ok (.getfield 243, 3) := by decide +kernel
theorem dX12_readRow_5 : decode cX12_readRow 5 = .ok (.imul, 1) := by decide +kernel
theorem dX12_readRow_6 : decode cX12_readRow 6 = .ok (.aload_n 0, 1) := by decide +kernel
theorem dX12_readRow_7 : decode cX12_readRow 7 = .ok (.getfield 20, 3) := by decide +kernel
theorem dX12_readRow_10 : decode cX12_readRow 10 = .ok (.aload_n 0, 1) := by decide +kernel
theorem dX12_readRow_11 : decode cX12_readRow 11 = .ok (.getfield 243, 3) := by decide +kernel
theorem dX12_readRow_14 : decode cX12_readRow 14 = .ok (.iaload, 1) := by decide +kernel
theorem dX12_readRow_15 : decode cX12_readRow 15 = .ok (.iadd, 1) := by decide +kernel
theorem dX12_readRow_16 : decode cX12_readRow 16 = .ok (.istore_n 1, 1) := by decide +kernel
theorem dX12_readRow_17 : decode cX12_readRow 17 = .ok (.aload_n 0, 1) := by decide +kernel
theorem dX12_readRow_18 : decode cX12_readRow 18 = .ok (.invokevirtual 288, 3) := by decide +kernel
theorem dX12_readRow_21 : decode cX12_readRow 21 = .ok (.aload_n 0, 1) := by decide +kernel
theorem dX12_readRow_22 : decode cX12_readRow 22 = .ok (.getfield 63, 3) := by decide +kernel
theorem dX12_readRow_25 : decode cX12_readRow 25 = .ok (.iload_n 1, 1) := by decide +kernel
theorem dX12_readRow_26 : decode cX12_readRow 26 = .ok (.aload_n 0, 1) := by decide +kernel
theorem dX12_readRow_27 : decode cX12_readRow 27 = .ok (.getfield 206, 3) := by decide +kernel
theorem dX12_readRow_30 : decode cX12_readRow 30 = .ok (.lastore, 1) := by decide +kernel
theorem dX12_readRow_31 : decode cX12_readRow 31 = .ok (.aload_n 0, 1) := by decide +kernel
theorem dX12_readRow_32 : decode cX12_readRow 32 = .ok (.aload_n 0, 1) := by decide +kernel
theorem dX12_readRow_33 : decode cX12_readRow 33 = .ok (.getfield 199, 3) := by decide +kernel
theorem dX12_readRow_36 : decode cX12_readRow 36 = .ok (.iconst 2, 1) := by decide +kernel
theorem dX12_readRow_37 : decode cX12_readRow 37 = .ok (.if_icmp .ne 7, 3) := by decide +kernel
theorem dX12_readRow_44 : decode cX12_readRow 44 = .ok (.iconst 0, 1) := by decide +kernel
theorem dX12_readRow_45 : decode cX12_readRow 45 = .ok (.invokevirtual 278, 3) := by decide +kernel
theorem dX12_readRow_48 : decode cX12_readRow 48 = .ok (.aload_n 0, 1) := by decide +kernel
theorem dX12_readRow_49 : decode cX12_readRow 49 = .ok (.aload_n 0, 1) := by decide +kernel
theorem dX12_readRow_50 : decode cX12_readRow 50 = .ok (.ldc2_w 145, 3) := by decide +kernel
theorem dX12_readRow_53 : decode cX12_readRow 53 = .ok (.invokevirtual 261, 3) := by decide +kernel
theorem dX12_readRow_56 : decode cX12_readRow 56 = .ok (.invokevirtual 278, 3) := by decide +kernel
theorem dX12_readRow_59 : decode cX12_readRow 59 = .ok (.aload_n 0, 1) := by decide +kernel
theorem dX12_readRow_60 : decode cX12_readRow 60 = .ok (.getfield 30, 3) := by decide +kernel
theorem dX12_readRow_63 : decode cX12_readRow 63 = .ok (.iload_n 1, 1) := by decide +kernel
theorem dX12_readRow_64 : decode cX12_readRow 64 = .ok (.aload_n 0, 1) := by decide +kernel
theorem dX12_readRow_65 : decode cX12_readRow 65 = .ok (.iconst 1, 1) := by decide +kernel
theorem dX12_readRow_66 : decode cX12_readRow 66 = .ok (.bipush 6, 2) := by decide +kernel
theorem dX12_readRow_68 : decode cX12_readRow 68 = .ok (.invokevirtual 291, 3) := by decide +kernel
theorem dX12_readRow_71 : decode cX12_readRow 71 = .ok (.iastore, 1) := by decide +kernel
theorem dX12_readRow_72 : decode cX12_readRow 72 = .ok (.aload_n 0, 1) := by decide +kernel
theorem dX12_readRow_73 : decode cX12_readRow 73 = .ok (.aload_n 0, 1) := by decide +kernel
theorem dX12_readRow_74 : decode cX12_readRow 74 = .ok (.ldc2_w 147, 3) := by decide +kernel
theorem dX12_readRow_77 : decode cX12_readRow 77 = .ok (.invokevirtual 261, 3) := by decide +kernel
theorem dX12_readRow_80 : decode cX12_readRow 80 = .ok (.invokevirtual 278, 3) := by decide +kernel
theorem dX12_readRow_83 : decode cX12_readRow 83 = .ok (.aload_n 0, 1) := by decide +kernel
theorem dX12_readRow_84 : decode cX12_readRow 84 = .ok (.getfield 33, 3) := by decide +kernel
theorem dX12_readRow_87 : decode cX12_readRow 87 = .ok (.iload_n 1, 1) := by decide +kernel
theorem dX12_readRow_88 : decode cX12_readRow 88 = .ok (.aload_n 0, 1) := by decide +kernel
theorem dX12_readRow_89 : decode cX12_readRow 89 = .ok (.sipush (-999), 3) := by decide +kernel
theorem dX12_readRow_92 : decode cX12_readRow 92 = .ok (.sipush 999, 3) := by decide +kernel
theorem dX12_readRow_95 : decode cX12_readRow 95 = .ok (.invokevirtual 295, 3) := by decide +kernel
theorem dX12_readRow_98 : decode cX12_readRow 98 = .ok (.iastore, 1) := by decide +kernel
theorem dX12_readRow_99 : decode cX12_readRow 99 = .ok (.aload_n 0, 1) := by decide +kernel
theorem dX12_readRow_100 : decode cX12_readRow 100 = .ok (.aload_n 0, 1) := by decide +kernel
theorem dX12_readRow_101 : decode cX12_readRow 101 = .ok (.ldc2_w 149, 3) := by decide +kernel
theorem dX12_readRow_104 : decode cX12_readRow 104 = .ok (.invokevirtual 261, 3) := by decide +kernel
theorem dX12_readRow_107 : decode cX12_readRow 107 = .ok (.invokevirtual 278, 3) := by decide +kernel
theorem dX12_readRow_110 : decode cX12_readRow 110 = .ok (.aload_n 0, 1) := by decide +kernel
theorem dX12_readRow_111 : decode cX12_readRow 111 = .ok (.getfield 36, 3) := by decide +kernel
theorem dX12_readRow_114 : decode cX12_readRow 114 = .ok (.iload_n 1, 1) := by decide +kernel
theorem dX12_readRow_115 : decode cX12_readRow 115 = .ok (.aload_n 0, 1) := by decide +kernel
theorem dX12_readRow_116 : decode cX12_readRow 116 = .ok (.aload_n 0, 1) := by decide +kernel
theorem dX12_readRow_117 : decode cX12_readRow 117 = .ok (.getfield 33, 3) := by decide +kernel
theorem dX12_readRow_120 : decode cX12_readRow 120 = .ok (.iload_n 1, 1) := by decide +kernel
theorem dX12_readRow_121 : decode cX12_readRow 121 = .ok (.iaload, 1) := by decide +kernel
theorem dX12_readRow_122 : decode cX12_readRow 122 = .ok (.sipush 999, 3) := by decide +kernel
theorem dX12_readRow_125 : decode cX12_readRow 125 = .ok (.invokevirtual 295, 3) := by decide +kernel
theorem dX12_readRow_128 : decode cX12_readRow 128 = .ok (.iastore, 1) := by decide +kernel
theorem dX12_readRow_129 : decode cX12_readRow 129 = .ok (.aload_n 0, 1) := by decide +kernel
theorem dX12_readRow_130 : decode cX12_readRow 130 = .ok (.getfield 20, 3) := by decide +kernel
theorem dX12_readRow_133 : decode cX12_readRow 133 = .ok (.aload_n 0, 1) := by decide +kernel
theorem dX12_readRow_134 : decode cX12_readRow 134 = .ok (.getfield 243, 3) := by decide +kernel
theorem dX12_readRow_137 : decode cX12_readRow 137 = .ok (.dup2, 1) := by decide +kernel
theorem dX12_readRow_138 : decode cX12_readRow 138 = .ok (.iaload, 1) := by decide +kernel
theorem dX12_readRow_139 : decode cX12_readRow 139 = .ok (.iconst 1, 1) := by decide +kernel
theorem dX12_readRow_140 : decode cX12_readRow 140 = .ok (.iadd, 1) := by decide +kernel
theorem dX12_readRow_141 : decode cX12_readRow 141 = .ok (.iastore, 1) := by decide +kernel
theorem dX12_readRow_142 : decode cX12_readRow 142 = .ok (.return_, 1) := by decide +kernel
theorem dX12_readRow_40 : decode cX12_readRow 40 = .ok (.iconst 1, 1) := by decide +kernel
theorem dX12_readRow_41 : decode cX12_readRow 41 = .ok (.goto 4, 3) := by decide +kernel
def ow_n_readRow : List Cond := [.fieldLink RX12 243 "NearEnoughModel" "rb" "I", .fieldLink RX12 20 "NearEnoughModel" "rowMany" "[I", .fieldLink RX12 63 "NearEnoughModel" "rName" "[J", .fieldLink RX12 206 "NearEnoughModel" "name" "J", .fieldLink RX12 199 "NearEnoughModel" "token" "I", .constantLong RX12 145 (6840691), .fieldLink RX12 30 "NearEnoughModel" "rHas" "[I", .constantLong RX12 147 (1718775661), .fieldLink RX12 33 "NearEnoughModel" "rLeast" "[I", .constantLong RX12 149 (29807), .fieldLink RX12 36 "NearEnoughModel" "rMost" "[I"]
def vs_n_readRow : List Cond := .code yX12_readRow cX12_readRow 2 none :: (ow_n_readRow ++ (([.methodLink RX12 288 yX12_fresh, .instanceMethod yX12_fresh, .selects RX12 yX12_fresh yX12_fresh, .initialized RX12] : List Cond) ++ (vs_n_fresh ++ (([.methodLink RX12 278 yX12_must, .instanceMethod yX12_must, .selects RX12 yX12_must yX12_must, .initialized RX12] : List Cond) ++ (vs_n_must ++ (([.methodLink RX12 261 yX12_isWord, .instanceMethod yX12_isWord, .selects RX12 yX12_isWord yX12_isWord, .initialized RX12] : List Cond) ++ (vs_n_isWord ++ (([.methodLink RX12 291 yX12_numeral, .instanceMethod yX12_numeral, .selects RX12 yX12_numeral yX12_numeral, .initialized RX12] : List Cond) ++ (vs_n_numeral ++ (([.methodLink RX12 295 yX12_signed, .instanceMethod yX12_signed, .selects RX12 yX12_signed yX12_signed, .initialized RX12] : List Cond) ++ (vs_n_signed ++ (wsX120))))))))))))
theorem vg_n_readRow : vs_n_readRow.all goodWord = true := by decide +kernel
def rm_n_readRow : Room := { frames := 3, cells := 0, slots := 0, locals := 69 }
theorem gd_n_readRow_288_n_fresh : GoodIn vs_n_readRow (wsV RX12 288 RX12 yX12_fresh vs_n_fresh) := goodIn_app (goodIn_sub (fun w h => (List.mem_cons_of_mem _ (List.mem_append_right _ (List.mem_append_left _ h)))) (by decide +kernel)) (goodIn_sub (fun w h => (List.mem_cons_of_mem _ (List.mem_append_right _ (List.mem_append_right _ (List.mem_append_left _ h))))) vg_n_fresh)
theorem gd_n_readRow_278_n_must : GoodIn vs_n_readRow (wsV RX12 278 RX12 yX12_must vs_n_must) := goodIn_app (goodIn_sub (fun w h => (List.mem_cons_of_mem _ (List.mem_append_right _ (List.mem_append_right _ (List.mem_append_right _ (List.mem_append_left _ h)))))) (by decide +kernel)) (goodIn_sub (fun w h => (List.mem_cons_of_mem _ (List.mem_append_right _ (List.mem_append_right _ (List.mem_append_right _ (List.mem_append_right _ (List.mem_append_left _ h))))))) vg_n_must)
theorem gd_n_readRow_261_n_isWord : GoodIn vs_n_readRow (wsV RX12 261 RX12 yX12_isWord vs_n_isWord) := goodIn_app (goodIn_sub (fun w h => (List.mem_cons_of_mem _ (List.mem_append_right _ (List.mem_append_right _ (List.mem_append_right _ (List.mem_append_right _ (List.mem_append_right _ (List.mem_append_left _ h)))))))) (by decide +kernel)) (goodIn_sub (fun w h => (List.mem_cons_of_mem _ (List.mem_append_right _ (List.mem_append_right _ (List.mem_append_right _ (List.mem_append_right _ (List.mem_append_right _ (List.mem_append_right _ (List.mem_append_left _ h))))))))) vg_n_isWord)
theorem gd_n_readRow_291_n_numeral : GoodIn vs_n_readRow (wsV RX12 291 RX12 yX12_numeral vs_n_numeral) := goodIn_app (goodIn_sub (fun w h => (List.mem_cons_of_mem _ (List.mem_append_right _ (List.mem_append_right _ (List.mem_append_right _ (List.mem_append_right _ (List.mem_append_right _ (List.mem_append_right _ (List.mem_append_right _ (List.mem_append_left _ h)))))))))) (by decide +kernel)) (goodIn_sub (fun w h => (List.mem_cons_of_mem _ (List.mem_append_right _ (List.mem_append_right _ (List.mem_append_right _ (List.mem_append_right _ (List.mem_append_right _ (List.mem_append_right _ (List.mem_append_right _ (List.mem_append_right _ (List.mem_append_left _ h))))))))))) vg_n_numeral)
theorem gd_n_readRow_295_n_signed : GoodIn vs_n_readRow (wsV RX12 295 RX12 yX12_signed vs_n_signed) := goodIn_app (goodIn_sub (fun w h => (List.mem_cons_of_mem _ (List.mem_append_right _ (List.mem_append_right _ (List.mem_append_right _ (List.mem_append_right _ (List.mem_append_right _ (List.mem_append_right _ (List.mem_append_right _ (List.mem_append_right _ (List.mem_append_right _ (List.mem_append_left _ h)))))))))))) (by decide +kernel)) (goodIn_sub (fun w h => (List.mem_cons_of_mem _ (List.mem_append_right _ (List.mem_append_right _ (List.mem_append_right _ (List.mem_append_right _ (List.mem_append_right _ (List.mem_append_right _ (List.mem_append_right _ (List.mem_append_right _ (List.mem_append_right _ (List.mem_append_right _ (List.mem_append_left _ h))))))))))))) vg_n_signed)
set_option maxHeartbeats 4000000 in
set_option maxRecDepth 100000 in
theorem n_readRow (l : Launch) (dC : Nat → ClassId) (dI : Nat → Nat → Nat) (h : Nat) (ad : Nat → Nat) (cl : Nat → ClassId) (sz : Nat) (σ : MS)  (hI : Inv σ) (hrm : (σ.2.1 11 (σ.1 30).toNatClampNeg).toInt ≤ 1) (hes : (σ.1 7).toInt ≤ (σ.1 3).toInt) : Met l yX12_readRow vs_n_readRow rm_n_readRow (va_Pc [.ref h] (wSt dC dI (mW h ad cl σ) (mT cl) sz)) (va_Qv (fun (τ : MS) => Inv τ ∧ eqx [6, 7, 8, 9, 10, 4, 5, 25, 14, 15, 16, 11] τ σ ∧ (RelP σ (σ.1 30).toNatClampNeg → RelP τ (σ.1 30).toNatClampNeg) ∧ (∀ bk, bk < 2 → bk ≠ (σ.1 30).toNatClampNeg → RelP σ bk → RelP τ bk) ∧ Mo τ σ ∧ ((σ.1 7).toInt ≤ (τ.1 7).toInt ∧ (τ.1 7).toInt ≤ (σ.1 3).toInt)) (fun (τ : MS) => wEn dC dI (va_A (mW h ad cl σ) sz) (mW h ad cl τ) []) (va_A (mW h ad cl σ) sz)) 0 0 (va_A (mW h ad cl σ) sz) := by
  refine Met.ofW (cc := cX12_readRow) (maxL := 2) (ret := none) (by decide) rfl ?_
  intro p e s m args below meth c s₁ B hml hv
  obtain ⟨rfl, hsz, hP, hK, hD0, hE⟩ := hv
  have hx := B.exec
  have hb := B.bytes
  have hr := B.returns
  have hts := atoms_spec (ws := vs_n_readRow) B.pre
  have hown : s.vm.findClass RX12 = some m.cls := findClass_of_methodNamed B.named
  have hlocks := B.notSynchronized
  subst hsz
  have hD := hD0.self (sz := s.heap.size)
  generalize hAe : va_A (mW h ad cl σ) s.heap.size = A at hD ⊢
  have hA : ∀ q : Nat, s.heap.size ≤ q → A q := fun q h => by rw [← hAe]; exact Or.inr h
  have hl := lv_entry ([.ref h]) (n := 2) (Nat.le_of_ble_eq_true rfl)
  rw [lg_entry_eq]
  generalize (lg_sl ([.ref h]) ++ List.replicate (2 - (lg_sl ([.ref h])).length) Slot.unset).toArray = ls at hl ⊢
  have hl : lv_has ls 2 [(0, .ref h)] := hl
  have ho := fun w (h : w ∈ ow_n_readRow) => hts w (List.mem_cons_of_mem _ (List.mem_append_left _ h))
  have hin12 : ∀ w ∈ u_ws RX12 TX12 59, w ∈ vs_n_readRow := fun w h => (List.mem_cons_of_mem _ (List.mem_append_right _ (List.mem_append_right _ (List.mem_append_right _ (List.mem_append_right _ (List.mem_append_right _ (List.mem_append_right _ (List.mem_append_right _ (List.mem_append_right _ (List.mem_append_right _ (List.mem_append_right _ (List.mem_append_right _ h))))))))))))
  refine zQ (fun Q hQ => ?_)
  refine zH (A := A) (ws := mW h ad cl σ) (fun H hP hS => ?_) hP
  have bσ_30 : 0 ≤ (σ.1 30).toInt ∧ (σ.1 30).toInt ≤ 1 := hI.1 30
  refine lv_iconst (v := 2) hx hb dX12_readRow_0 (by decide) ?_
  refine lv_aload_n hx hb dX12_readRow_1 rfl (lv_at hl 0 rfl) ?_
  refine va_get (D := (dC, dI)) (ci := 12) (v := .int (σ.1 30)) (C := RX12) (T := TX12) (N := 59) hx hb hts hin12 hown hK hP 0 rfl rfl 30 (by decide) (ho (.fieldLink RX12 243 "NearEnoughModel" "rb" "I") (List.mem_of_getElem? (i := 0) rfl)) (fun _ h9 => h9) rfl dX12_readRow_2 ?_
  have bσ_30 : 0 ≤ (σ.1 30).toInt ∧ (σ.1 30).toInt ≤ 1 := hI.1 30
  refine lv_imul hx hb dX12_readRow_5 ?_
  refine lv_topi (fun z1 ez1 => ?_)
  have tz1 : z1.toInt = 2 * (σ.1 30).toInt := ti_mul ez1 (by decide) rfl (by omega) (by omega)
  refine lv_aload_n hx hb dX12_readRow_6 rfl (lv_at hl 0 rfl) ?_
  refine va_get (D := (dC, dI)) (ci := 12) (v := .ref (ad 11)) (C := RX12) (T := TX12) (N := 59) hx hb hts hin12 hown hK hP 0 rfl rfl 11 (by decide) (ho (.fieldLink RX12 20 "NearEnoughModel" "rowMany" "[I") (List.mem_of_getElem? (i := 1) rfl)) (fun _ h9 => h9) rfl dX12_readRow_7 ?_
  refine lv_aload_n hx hb dX12_readRow_10 rfl (lv_at hl 0 rfl) ?_
  refine va_get (D := (dC, dI)) (ci := 12) (v := .int (σ.1 30)) (C := RX12) (T := TX12) (N := 59) hx hb hts hin12 hown hK hP 0 rfl rfl 30 (by decide) (ho (.fieldLink RX12 243 "NearEnoughModel" "rb" "I") (List.mem_of_getElem? (i := 0) rfl)) (fun _ h9 => h9) rfl dX12_readRow_11 ?_
  have bσ_30 : 0 ≤ (σ.1 30).toInt ∧ (σ.1 30).toInt ≤ 1 := hI.1 30
  refine va_iald hx hb hK hP 3 2 rfl rfl (ti_in rfl (by omega) (by omega)) dX12_readRow_14 ?_
  refine lv_topi (fun z2 ez2 => ?_)
  have gz2 : z2.toInt = ((σ.2.1 11) (Int32.toNatClampNeg (σ.1 30))).toInt := congrArg Int32.toInt (ez2.trans (congrFun rfl (Int32.toNatClampNeg (σ.1 30))))
  have bz2 : 0 ≤ z2.toInt ∧ z2.toInt ≤ 2 := by rw [ez2]; exact (hI.2 11) _ (by have := ti_cl (x := (σ.1 30)) rfl (by omega); show _ < 2; omega)
  refine lv_iadd hx hb dX12_readRow_15 ?_
  refine lv_topi (fun z3 ez3 => ?_)
  have tz3 : z3.toInt = z1.toInt + z2.toInt := ti_add ez3 rfl rfl (by omega) (by omega)
  refine lv_istore_n (lv' := [(1, .int z3), (0, .ref h)]) hx hb dX12_readRow_16 rfl hl (by decide) rfl (fun ls hl => ?_)
  refine lv_aload_n hx hb dX12_readRow_17 rfl (lv_at hl 1 rfl) ?_
  refine zy_v (va_runV (As := []) (rest := []) ⟨hx, hb, hml, hown, hts⟩ (n_fresh l dC dI h ad cl H.size σ  hI) (cwV 0 hts gd_n_readRow_288_n_fresh rfl rfl rfl (by decide +kernel) ⟨Nat.le_of_ble_eq_true rfl, Nat.le_of_ble_eq_true rfl⟩) (preV hP hK hD hE (ci := 12) (q0 := 0) rfl rfl) rfl rfl hl.1 rfl (lv_room (Nat.le_of_ble_eq_true rfl)) dX12_readRow_18 ⟨Nat.le_of_ble_eq_true rfl, Nat.le_of_ble_eq_true rfl⟩) hD hS hA (fun τ4 H locs hq hP hD hS => ?_)
  obtain ⟨hI6, hx7, mo8⟩ := hq
  have qq9 : (τ4.1 3).toInt = ((σ.1 3) : Int32).toInt := congrArg Int32.toInt ((show τ4.1 3 = (σ.1 3) from ((hx7 3 (by decide)).1).trans rfl))
  have qq10 : (τ4.1 7).toInt = ((σ.1 7) : Int32).toInt := congrArg Int32.toInt ((show τ4.1 7 = (σ.1 7) from ((hx7 7 (by decide)).1).trans rfl))
  refine W.widen (k := 0) (n := 0) (Nat.le_of_ble_eq_true rfl) (Nat.le_of_ble_eq_true rfl) ?_
  refine lv_aload_n hx hb dX12_readRow_21 rfl (lv_at hl 1 rfl) ?_
  refine va_get (D := (dC, dI)) (ci := 12) (v := .ref (ad 25)) (C := RX12) (T := TX12) (N := 59) hx hb hts hin12 hown hK hP 0 rfl rfl 25 (by decide) (ho (.fieldLink RX12 63 "NearEnoughModel" "rName" "[J") (List.mem_of_getElem? (i := 2) rfl)) (fun _ h9 => h9) rfl dX12_readRow_22 ?_
  refine lv_iload_n hx hb dX12_readRow_25 rfl (lv_at hl 0 rfl) ?_
  refine lv_aload_n hx hb dX12_readRow_26 rfl (lv_at hl 1 rfl) ?_
  refine va_get (D := (dC, dI)) (ci := 12) (v := .long (τ4.2.2.2 10)) (C := RX12) (T := TX12) (N := 59) hx hb hts hin12 hown hK hP 0 rfl rfl 10 (by decide) (ho (.fieldLink RX12 206 "NearEnoughModel" "name" "J") (List.mem_of_getElem? (i := 3) rfl)) (fun _ h9 => h9) rfl dX12_readRow_27 ?_
  refine va_last hx hb hK hP hD hS 17 16 rfl rfl (ti_in rfl (by omega) (by omega)) dX12_readRow_30 (fun H locs hP hD hS => ?_)
  have hP : va_P (dC, dI) vwCl (mW h ad cl (sJ τ4 25 (vp_updL (τ4.2.2.1 25) (Int32.toNatClampNeg z3) (τ4.2.2.2 10)))) H := hP
  have hD : va_D A (mW h ad cl (sJ τ4 25 (vp_updL (τ4.2.2.1 25) (Int32.toNatClampNeg z3) (τ4.2.2.2 10)))) := hD
  refine lv_aload_n hx hb dX12_readRow_31 rfl (lv_at hl 1 rfl) ?_
  refine lv_aload_n hx hb dX12_readRow_32 rfl (lv_at hl 1 rfl) ?_
  refine va_get (D := (dC, dI)) (ci := 12) (v := .int (τ4.1 8)) (C := RX12) (T := TX12) (N := 59) hx hb hts hin12 hown hK hP 0 rfl rfl 8 (by decide) (ho (.fieldLink RX12 199 "NearEnoughModel" "token" "I") (List.mem_of_getElem? (i := 4) rfl)) (fun _ h9 => h9) rfl dX12_readRow_33 ?_
  refine zi (v := (σ.1 8)) (show τ4.1 8 = (σ.1 8) from ((hx7 8 (by decide)).1).trans rfl) ?_
  have bb11 : 0 ≤ (σ.1 8).toInt ∧ (σ.1 8).toInt ≤ 5 := by have h9 := hI6.1 8; rw [show (τ4.1 8) = (σ.1 8) from (show τ4.1 8 = (σ.1 8) from ((hx7 8 (by decide)).1).trans rfl)] at h9; exact h9
  refine lv_iconst (v := 2) hx hb dX12_readRow_36 (by decide) ?_
  refine lv_icmp_ne (tgt := 44) hx hb dX12_readRow_37 (by decide) (fun c12 => ?_) (fun c12 => ?_)
  · have tc12 := (show (σ.1 8).toInt ≠ 2 from ti_ne rfl (by decide) c12)
    refine lv_iconst (v := 0) hx hb dX12_readRow_44 (by decide) ?_
    have kk13 : (0 : Int32).toInt = 0 := by decide
    refine zy_v (va_runV (As := [.int 0]) (rest := []) ⟨hx, hb, hml, hown, hts⟩ (n_must l dC dI h ad cl H.size (sJ τ4 25 (vp_updL (τ4.2.2.1 25) (Int32.toNatClampNeg z3) (τ4.2.2.2 10))) 0 (Inv.sJ hI6) (show (τ4.1 7).toInt ≤ (τ4.1 3).toInt by omega)) (cwV 1 hts gd_n_readRow_278_n_must rfl rfl rfl (by decide +kernel) ⟨Nat.le_of_ble_eq_true rfl, Nat.le_of_ble_eq_true rfl⟩) (preV hP hK hD hE (ci := 12) (q0 := 0) rfl rfl) rfl rfl hl.1 rfl (lv_room (Nat.le_of_ble_eq_true rfl)) dX12_readRow_45 ⟨Nat.le_of_ble_eq_true rfl, Nat.le_of_ble_eq_true rfl⟩) hD hS hA (fun τ14 H locs hq hP hD hS => ?_)
    obtain ⟨hI16, hx17, mo18, lx19⟩ := hq
    have lx19x : ((τ4.1 7) : Int32).toInt ≤ (τ14.1 7).toInt ∧ (τ14.1 7).toInt ≤ ((τ4.1 3) : Int32).toInt := lx19
    have qq20 : (τ14.1 3).toInt = ((σ.1 3) : Int32).toInt := congrArg Int32.toInt ((show τ14.1 3 = (σ.1 3) from ((hx17 3 (by decide)).1).trans (show τ4.1 3 = (σ.1 3) from ((hx7 3 (by decide)).1).trans rfl)))
    refine W.widen (k := 0) (n := 0) (Nat.le_of_ble_eq_true rfl) (Nat.le_of_ble_eq_true rfl) ?_
    refine lv_aload_n hx hb dX12_readRow_48 rfl (lv_at hl 1 rfl) ?_
    refine lv_aload_n hx hb dX12_readRow_49 rfl (lv_at hl 1 rfl) ?_
    refine lv_ldc2 (v := (6840691)) hx hb hown (ho (.constantLong RX12 145 (6840691)) (List.mem_of_getElem? (i := 5) rfl)) dX12_readRow_50 ?_
    refine zy_i (va_runV (As := [.long 6840691]) (rest := [.ref h]) ⟨hx, hb, hml, hown, hts⟩ (n_isWord l dC dI h ad cl H.size τ14 6840691 hI16) (cwV 1 hts gd_n_readRow_261_n_isWord rfl rfl rfl (by decide +kernel) ⟨Nat.le_of_ble_eq_true rfl, Nat.le_of_ble_eq_true rfl⟩) (preV hP hK hD hE (ci := 12) (q0 := 0) rfl rfl) rfl rfl hl.1 rfl (lv_room (Nat.le_of_ble_eq_true rfl)) dX12_readRow_53 ⟨Nat.le_of_ble_eq_true rfl, Nat.le_of_ble_eq_true rfl⟩) hD hS hA (fun z22 τ21 H locs hq hP hD hS => ?_)
    obtain ⟨rfl, f23⟩ := hq
    refine W.widen (k := 0) (n := 0) (Nat.le_of_ble_eq_true rfl) (Nat.le_of_ble_eq_true rfl) ?_
    refine zy_v (va_runV (As := [.int z22]) (rest := []) ⟨hx, hb, hml, hown, hts⟩ (n_must l dC dI h ad cl H.size τ14 z22 hI16 (show (τ14.1 7).toInt ≤ (τ14.1 3).toInt by omega)) (cwV 1 hts gd_n_readRow_278_n_must rfl rfl rfl (by decide +kernel) ⟨Nat.le_of_ble_eq_true rfl, Nat.le_of_ble_eq_true rfl⟩) (preV hP hK hD hE (ci := 12) (q0 := 0) rfl rfl) rfl rfl hl.1 rfl (lv_room (Nat.le_of_ble_eq_true rfl)) dX12_readRow_56 ⟨Nat.le_of_ble_eq_true rfl, Nat.le_of_ble_eq_true rfl⟩) hD hS hA (fun τ24 H locs hq hP hD hS => ?_)
    obtain ⟨hI26, hx27, mo28, lx29⟩ := hq
    have lx29x : ((τ14.1 7) : Int32).toInt ≤ (τ24.1 7).toInt ∧ (τ24.1 7).toInt ≤ ((τ14.1 3) : Int32).toInt := lx29
    have qq30 : (τ24.1 3).toInt = ((σ.1 3) : Int32).toInt := congrArg Int32.toInt ((show τ24.1 3 = (σ.1 3) from ((hx27 3 (by decide)).1).trans (show τ14.1 3 = (σ.1 3) from ((hx17 3 (by decide)).1).trans (show τ4.1 3 = (σ.1 3) from ((hx7 3 (by decide)).1).trans rfl))))
    refine W.widen (k := 0) (n := 0) (Nat.le_of_ble_eq_true rfl) (Nat.le_of_ble_eq_true rfl) ?_
    refine lv_aload_n hx hb dX12_readRow_59 rfl (lv_at hl 1 rfl) ?_
    refine va_get (D := (dC, dI)) (ci := 12) (v := .ref (ad 14)) (C := RX12) (T := TX12) (N := 59) hx hb hts hin12 hown hK hP 0 rfl rfl 14 (by decide) (ho (.fieldLink RX12 30 "NearEnoughModel" "rHas" "[I") (List.mem_of_getElem? (i := 6) rfl)) (fun _ h9 => h9) rfl dX12_readRow_60 ?_
    refine lv_iload_n hx hb dX12_readRow_63 rfl (lv_at hl 0 rfl) ?_
    refine lv_aload_n hx hb dX12_readRow_64 rfl (lv_at hl 1 rfl) ?_
    refine lv_iconst (v := 1) hx hb dX12_readRow_65 (by decide) ?_
    refine lv_bipush (v := 6) hx hb dX12_readRow_66 (by decide) ?_
    have kk31 : (1 : Int32).toInt = 1 := by decide
    have kk32 : (6 : Int32).toInt = 6 := by decide
    refine zy_i (va_runV (As := [.int 1, .int 6]) (rest := [.int z3, .ref (ad 14)]) ⟨hx, hb, hml, hown, hts⟩ (n_numeral l dC dI h ad cl H.size τ24 1 6 hI26 (by decide) (show (τ24.1 7).toInt ≤ (τ24.1 3).toInt by omega)) (cwV 2 hts gd_n_readRow_291_n_numeral rfl rfl rfl (by decide +kernel) ⟨Nat.le_of_ble_eq_true rfl, Nat.le_of_ble_eq_true rfl⟩) (preV hP hK hD hE (ci := 12) (q0 := 0) rfl rfl) rfl rfl hl.1 rfl (lv_room (Nat.le_of_ble_eq_true rfl)) dX12_readRow_68 ⟨Nat.le_of_ble_eq_true rfl, Nat.le_of_ble_eq_true rfl⟩) hD hS hA (fun z34 τ33 H locs hq hP hD hS => ?_)
    obtain ⟨hI35, hx36, f37, f38, mo39, lx40⟩ := hq
    have lx40x : ((τ24.1 7) : Int32).toInt ≤ (τ33.1 7).toInt ∧ (τ33.1 7).toInt ≤ ((τ24.1 3) : Int32).toInt := lx40
    have qq41 : (τ33.1 3).toInt = ((σ.1 3) : Int32).toInt := congrArg Int32.toInt ((show τ33.1 3 = (σ.1 3) from ((hx36 3 (by decide)).1).trans (show τ24.1 3 = (σ.1 3) from ((hx27 3 (by decide)).1).trans (show τ14.1 3 = (σ.1 3) from ((hx17 3 (by decide)).1).trans (show τ4.1 3 = (σ.1 3) from ((hx7 3 (by decide)).1).trans rfl)))))
    refine W.widen (k := 0) (n := 0) (Nat.le_of_ble_eq_true rfl) (Nat.le_of_ble_eq_true rfl) ?_
    refine va_iast hx hb hK hP hD hS 6 5 rfl rfl (ti_in rfl (by omega) (by omega)) dX12_readRow_71 (fun H locs hP hD hS => ?_)
    have hP : va_P (dC, dI) vwCl (mW h ad cl (sA τ33 14 (upd (τ33.2.1 14) (Int32.toNatClampNeg z3) z34))) H := hP
    have hD : va_D A (mW h ad cl (sA τ33 14 (upd (τ33.2.1 14) (Int32.toNatClampNeg z3) z34))) := hD
    refine lv_aload_n hx hb dX12_readRow_72 rfl (lv_at hl 1 rfl) ?_
    refine lv_aload_n hx hb dX12_readRow_73 rfl (lv_at hl 1 rfl) ?_
    refine lv_ldc2 (v := (1718775661)) hx hb hown (ho (.constantLong RX12 147 (1718775661)) (List.mem_of_getElem? (i := 7) rfl)) dX12_readRow_74 ?_
    refine zy_i (va_runV (As := [.long 1718775661]) (rest := [.ref h]) ⟨hx, hb, hml, hown, hts⟩ (n_isWord l dC dI h ad cl H.size (sA τ33 14 (upd (τ33.2.1 14) (Int32.toNatClampNeg z3) z34)) 1718775661 (Inv_sA1 hI35 (rgu (hI35.2 14) (show (0 : Int) ≤ (z34 : Int32).toInt ∧ (z34 : Int32).toInt ≤ 6 by omega)))) (cwV 1 hts gd_n_readRow_261_n_isWord rfl rfl rfl (by decide +kernel) ⟨Nat.le_of_ble_eq_true rfl, Nat.le_of_ble_eq_true rfl⟩) (preV hP hK hD hE (ci := 12) (q0 := 0) rfl rfl) rfl rfl hl.1 rfl (lv_room (Nat.le_of_ble_eq_true rfl)) dX12_readRow_77 ⟨Nat.le_of_ble_eq_true rfl, Nat.le_of_ble_eq_true rfl⟩) hD hS hA (fun z43 τ42 H locs hq hP hD hS => ?_)
    obtain ⟨rfl, f44⟩ := hq
    refine W.widen (k := 0) (n := 0) (Nat.le_of_ble_eq_true rfl) (Nat.le_of_ble_eq_true rfl) ?_
    refine zy_v (va_runV (As := [.int z43]) (rest := []) ⟨hx, hb, hml, hown, hts⟩ (n_must l dC dI h ad cl H.size (sA τ33 14 (upd (τ33.2.1 14) (Int32.toNatClampNeg z3) z34)) z43 (Inv_sA1 hI35 (rgu (hI35.2 14) (show (0 : Int) ≤ (z34 : Int32).toInt ∧ (z34 : Int32).toInt ≤ 6 by omega))) (show (τ33.1 7).toInt ≤ (τ33.1 3).toInt by omega)) (cwV 1 hts gd_n_readRow_278_n_must rfl rfl rfl (by decide +kernel) ⟨Nat.le_of_ble_eq_true rfl, Nat.le_of_ble_eq_true rfl⟩) (preV hP hK hD hE (ci := 12) (q0 := 0) rfl rfl) rfl rfl hl.1 rfl (lv_room (Nat.le_of_ble_eq_true rfl)) dX12_readRow_80 ⟨Nat.le_of_ble_eq_true rfl, Nat.le_of_ble_eq_true rfl⟩) hD hS hA (fun τ45 H locs hq hP hD hS => ?_)
    obtain ⟨hI47, hx48, mo49, lx50⟩ := hq
    have lx50x : ((τ33.1 7) : Int32).toInt ≤ (τ45.1 7).toInt ∧ (τ45.1 7).toInt ≤ ((τ33.1 3) : Int32).toInt := lx50
    have qq51 : (τ45.1 3).toInt = ((σ.1 3) : Int32).toInt := congrArg Int32.toInt ((show τ45.1 3 = (σ.1 3) from ((hx48 3 (by decide)).1).trans (show τ33.1 3 = (σ.1 3) from ((hx36 3 (by decide)).1).trans (show τ24.1 3 = (σ.1 3) from ((hx27 3 (by decide)).1).trans (show τ14.1 3 = (σ.1 3) from ((hx17 3 (by decide)).1).trans (show τ4.1 3 = (σ.1 3) from ((hx7 3 (by decide)).1).trans rfl))))))
    refine W.widen (k := 0) (n := 0) (Nat.le_of_ble_eq_true rfl) (Nat.le_of_ble_eq_true rfl) ?_
    refine lv_aload_n hx hb dX12_readRow_83 rfl (lv_at hl 1 rfl) ?_
    refine va_get (D := (dC, dI)) (ci := 12) (v := .ref (ad 15)) (C := RX12) (T := TX12) (N := 59) hx hb hts hin12 hown hK hP 0 rfl rfl 15 (by decide) (ho (.fieldLink RX12 33 "NearEnoughModel" "rLeast" "[I") (List.mem_of_getElem? (i := 8) rfl)) (fun _ h9 => h9) rfl dX12_readRow_84 ?_
    refine lv_iload_n hx hb dX12_readRow_87 rfl (lv_at hl 0 rfl) ?_
    refine lv_aload_n hx hb dX12_readRow_88 rfl (lv_at hl 1 rfl) ?_
    refine lv_sipush (v := (-999)) hx hb dX12_readRow_89 (by decide) ?_
    refine lv_sipush (v := 999) hx hb dX12_readRow_92 (by decide) ?_
    have kk52 : ((-999) : Int32).toInt = (-999) := by decide
    have kk53 : (999 : Int32).toInt = 999 := by decide
    refine zy_i (va_runV (As := [.int (-999), .int 999]) (rest := [.int z3, .ref (ad 15)]) ⟨hx, hb, hml, hown, hts⟩ (n_signed l dC dI h ad cl H.size τ45 (-999) 999 hI47 (by decide) (show (τ45.1 7).toInt ≤ (τ45.1 3).toInt by omega)) (cwV 2 hts gd_n_readRow_295_n_signed rfl rfl rfl (by decide +kernel) ⟨Nat.le_of_ble_eq_true rfl, Nat.le_of_ble_eq_true rfl⟩) (preV hP hK hD hE (ci := 12) (q0 := 0) rfl rfl) rfl rfl hl.1 rfl (lv_room (Nat.le_of_ble_eq_true rfl)) dX12_readRow_95 ⟨Nat.le_of_ble_eq_true rfl, Nat.le_of_ble_eq_true rfl⟩) hD hS hA (fun z55 τ54 H locs hq hP hD hS => ?_)
    obtain ⟨hI56, hx57, f58, f59, mo60, lx61⟩ := hq
    have lx61x : ((τ45.1 7) : Int32).toInt ≤ (τ54.1 7).toInt ∧ (τ54.1 7).toInt ≤ ((τ45.1 3) : Int32).toInt := lx61
    have qq62 : (τ54.1 3).toInt = ((σ.1 3) : Int32).toInt := congrArg Int32.toInt ((show τ54.1 3 = (σ.1 3) from ((hx57 3 (by decide)).1).trans (show τ45.1 3 = (σ.1 3) from ((hx48 3 (by decide)).1).trans (show τ33.1 3 = (σ.1 3) from ((hx36 3 (by decide)).1).trans (show τ24.1 3 = (σ.1 3) from ((hx27 3 (by decide)).1).trans (show τ14.1 3 = (σ.1 3) from ((hx17 3 (by decide)).1).trans (show τ4.1 3 = (σ.1 3) from ((hx7 3 (by decide)).1).trans rfl)))))))
    refine W.widen (k := 0) (n := 0) (Nat.le_of_ble_eq_true rfl) (Nat.le_of_ble_eq_true rfl) ?_
    refine va_iast hx hb hK hP hD hS 7 6 rfl rfl (ti_in rfl (by omega) (by omega)) dX12_readRow_98 (fun H locs hP hD hS => ?_)
    have hP : va_P (dC, dI) vwCl (mW h ad cl (sA τ54 15 (upd (τ54.2.1 15) (Int32.toNatClampNeg z3) z55))) H := hP
    have hD : va_D A (mW h ad cl (sA τ54 15 (upd (τ54.2.1 15) (Int32.toNatClampNeg z3) z55))) := hD
    refine lv_aload_n hx hb dX12_readRow_99 rfl (lv_at hl 1 rfl) ?_
    refine lv_aload_n hx hb dX12_readRow_100 rfl (lv_at hl 1 rfl) ?_
    refine lv_ldc2 (v := (29807)) hx hb hown (ho (.constantLong RX12 149 (29807)) (List.mem_of_getElem? (i := 9) rfl)) dX12_readRow_101 ?_
    refine zy_i (va_runV (As := [.long 29807]) (rest := [.ref h]) ⟨hx, hb, hml, hown, hts⟩ (n_isWord l dC dI h ad cl H.size (sA τ54 15 (upd (τ54.2.1 15) (Int32.toNatClampNeg z3) z55)) 29807 (Inv_sA1 hI56 (fun j _ => Inv.any _))) (cwV 1 hts gd_n_readRow_261_n_isWord rfl rfl rfl (by decide +kernel) ⟨Nat.le_of_ble_eq_true rfl, Nat.le_of_ble_eq_true rfl⟩) (preV hP hK hD hE (ci := 12) (q0 := 0) rfl rfl) rfl rfl hl.1 rfl (lv_room (Nat.le_of_ble_eq_true rfl)) dX12_readRow_104 ⟨Nat.le_of_ble_eq_true rfl, Nat.le_of_ble_eq_true rfl⟩) hD hS hA (fun z64 τ63 H locs hq hP hD hS => ?_)
    obtain ⟨rfl, f65⟩ := hq
    refine W.widen (k := 0) (n := 0) (Nat.le_of_ble_eq_true rfl) (Nat.le_of_ble_eq_true rfl) ?_
    refine zy_v (va_runV (As := [.int z64]) (rest := []) ⟨hx, hb, hml, hown, hts⟩ (n_must l dC dI h ad cl H.size (sA τ54 15 (upd (τ54.2.1 15) (Int32.toNatClampNeg z3) z55)) z64 (Inv_sA1 hI56 (fun j _ => Inv.any _)) (show (τ54.1 7).toInt ≤ (τ54.1 3).toInt by omega)) (cwV 1 hts gd_n_readRow_278_n_must rfl rfl rfl (by decide +kernel) ⟨Nat.le_of_ble_eq_true rfl, Nat.le_of_ble_eq_true rfl⟩) (preV hP hK hD hE (ci := 12) (q0 := 0) rfl rfl) rfl rfl hl.1 rfl (lv_room (Nat.le_of_ble_eq_true rfl)) dX12_readRow_107 ⟨Nat.le_of_ble_eq_true rfl, Nat.le_of_ble_eq_true rfl⟩) hD hS hA (fun τ66 H locs hq hP hD hS => ?_)
    obtain ⟨hI68, hx69, mo70, lx71⟩ := hq
    have lx71x : ((τ54.1 7) : Int32).toInt ≤ (τ66.1 7).toInt ∧ (τ66.1 7).toInt ≤ ((τ54.1 3) : Int32).toInt := lx71
    have qq72 : (τ66.1 3).toInt = ((σ.1 3) : Int32).toInt := congrArg Int32.toInt ((show τ66.1 3 = (σ.1 3) from ((hx69 3 (by decide)).1).trans (show τ54.1 3 = (σ.1 3) from ((hx57 3 (by decide)).1).trans (show τ45.1 3 = (σ.1 3) from ((hx48 3 (by decide)).1).trans (show τ33.1 3 = (σ.1 3) from ((hx36 3 (by decide)).1).trans (show τ24.1 3 = (σ.1 3) from ((hx27 3 (by decide)).1).trans (show τ14.1 3 = (σ.1 3) from ((hx17 3 (by decide)).1).trans (show τ4.1 3 = (σ.1 3) from ((hx7 3 (by decide)).1).trans rfl))))))))
    refine W.widen (k := 0) (n := 0) (Nat.le_of_ble_eq_true rfl) (Nat.le_of_ble_eq_true rfl) ?_
    refine lv_aload_n hx hb dX12_readRow_110 rfl (lv_at hl 1 rfl) ?_
    refine va_get (D := (dC, dI)) (ci := 12) (v := .ref (ad 16)) (C := RX12) (T := TX12) (N := 59) hx hb hts hin12 hown hK hP 0 rfl rfl 16 (by decide) (ho (.fieldLink RX12 36 "NearEnoughModel" "rMost" "[I") (List.mem_of_getElem? (i := 10) rfl)) (fun _ h9 => h9) rfl dX12_readRow_111 ?_
    refine lv_iload_n hx hb dX12_readRow_114 rfl (lv_at hl 0 rfl) ?_
    refine lv_aload_n hx hb dX12_readRow_115 rfl (lv_at hl 1 rfl) ?_
    refine lv_aload_n hx hb dX12_readRow_116 rfl (lv_at hl 1 rfl) ?_
    refine va_get (D := (dC, dI)) (ci := 12) (v := .ref (ad 15)) (C := RX12) (T := TX12) (N := 59) hx hb hts hin12 hown hK hP 0 rfl rfl 15 (by decide) (ho (.fieldLink RX12 33 "NearEnoughModel" "rLeast" "[I") (List.mem_of_getElem? (i := 8) rfl)) (fun _ h9 => h9) rfl dX12_readRow_117 ?_
    refine lv_iload_n hx hb dX12_readRow_120 rfl (lv_at hl 0 rfl) ?_
    refine va_iald hx hb hK hP 7 6 rfl rfl (ti_in rfl (by omega) (by omega)) dX12_readRow_121 ?_
    refine lv_topi (fun z73 ez73 => ?_)
    have gz73 : z73.toInt = ((upd (σ.2.1 15) (Int32.toNatClampNeg z3) z55) (Int32.toNatClampNeg z3)).toInt := congrArg Int32.toInt (ez73.trans (congrFun (((hx69 15 (by decide)).2.1).trans (tAe.trans (congrArg (fun f9 => (upd f9 (Int32.toNatClampNeg z3) z55)) (((hx57 15 (by decide)).2.1).trans (((hx48 15 (by decide)).2.1).trans ((tA (by decide)).trans (((hx36 15 (by decide)).2.1).trans (((hx27 15 (by decide)).2.1).trans (((hx17 15 (by decide)).2.1).trans (tJ.trans (((hx7 15 (by decide)).2.1).trans rfl))))))))))) (Int32.toNatClampNeg z3)))
    have qq74 : z73.toInt = (z55 : Int32).toInt := gz73.trans (congrArg Int32.toInt pk_us)
    refine lv_sipush (v := 999) hx hb dX12_readRow_122 (by decide) ?_
    have kk75 : (999 : Int32).toInt = 999 := by decide
    refine zy_i (va_runV (As := [.int z73, .int 999]) (rest := [.int z3, .ref (ad 16)]) ⟨hx, hb, hml, hown, hts⟩ (n_signed l dC dI h ad cl H.size τ66 z73 999 hI68 (by omega) (show (τ66.1 7).toInt ≤ (τ66.1 3).toInt by omega)) (cwV 2 hts gd_n_readRow_295_n_signed rfl rfl rfl (by decide +kernel) ⟨Nat.le_of_ble_eq_true rfl, Nat.le_of_ble_eq_true rfl⟩) (preV hP hK hD hE (ci := 12) (q0 := 0) rfl rfl) rfl rfl hl.1 rfl (lv_room (Nat.le_of_ble_eq_true rfl)) dX12_readRow_125 ⟨Nat.le_of_ble_eq_true rfl, Nat.le_of_ble_eq_true rfl⟩) hD hS hA (fun z77 τ76 H locs hq hP hD hS => ?_)
    obtain ⟨hI78, hx79, f80, f81, mo82, lx83⟩ := hq
    have lx83x : ((τ66.1 7) : Int32).toInt ≤ (τ76.1 7).toInt ∧ (τ76.1 7).toInt ≤ ((τ66.1 3) : Int32).toInt := lx83
    have qq84 : (τ76.1 3).toInt = ((σ.1 3) : Int32).toInt := congrArg Int32.toInt ((show τ76.1 3 = (σ.1 3) from ((hx79 3 (by decide)).1).trans (show τ66.1 3 = (σ.1 3) from ((hx69 3 (by decide)).1).trans (show τ54.1 3 = (σ.1 3) from ((hx57 3 (by decide)).1).trans (show τ45.1 3 = (σ.1 3) from ((hx48 3 (by decide)).1).trans (show τ33.1 3 = (σ.1 3) from ((hx36 3 (by decide)).1).trans (show τ24.1 3 = (σ.1 3) from ((hx27 3 (by decide)).1).trans (show τ14.1 3 = (σ.1 3) from ((hx17 3 (by decide)).1).trans (show τ4.1 3 = (σ.1 3) from ((hx7 3 (by decide)).1).trans rfl)))))))))
    refine W.widen (k := 0) (n := 0) (Nat.le_of_ble_eq_true rfl) (Nat.le_of_ble_eq_true rfl) ?_
    refine va_iast hx hb hK hP hD hS 8 7 rfl rfl (ti_in rfl (by omega) (by omega)) dX12_readRow_128 (fun H locs hP hD hS => ?_)
    have hP : va_P (dC, dI) vwCl (mW h ad cl (sA τ76 16 (upd (τ76.2.1 16) (Int32.toNatClampNeg z3) z77))) H := hP
    have hD : va_D A (mW h ad cl (sA τ76 16 (upd (τ76.2.1 16) (Int32.toNatClampNeg z3) z77))) := hD
    refine lv_aload_n hx hb dX12_readRow_129 rfl (lv_at hl 1 rfl) ?_
    refine va_get (D := (dC, dI)) (ci := 12) (v := .ref (ad 11)) (C := RX12) (T := TX12) (N := 59) hx hb hts hin12 hown hK hP 0 rfl rfl 11 (by decide) (ho (.fieldLink RX12 20 "NearEnoughModel" "rowMany" "[I") (List.mem_of_getElem? (i := 1) rfl)) (fun _ h9 => h9) rfl dX12_readRow_130 ?_
    refine lv_aload_n hx hb dX12_readRow_133 rfl (lv_at hl 1 rfl) ?_
    refine va_get (D := (dC, dI)) (ci := 12) (v := .int (τ76.1 30)) (C := RX12) (T := TX12) (N := 59) hx hb hts hin12 hown hK hP 0 rfl rfl 30 (by decide) (ho (.fieldLink RX12 243 "NearEnoughModel" "rb" "I") (List.mem_of_getElem? (i := 0) rfl)) (fun _ h9 => h9) rfl dX12_readRow_134 ?_
    refine zi (v := (σ.1 30)) (show τ76.1 30 = (σ.1 30) from ((hx79 30 (by decide)).1).trans (show τ66.1 30 = (σ.1 30) from ((hx69 30 (by decide)).1).trans (show τ54.1 30 = (σ.1 30) from ((hx57 30 (by decide)).1).trans (show τ45.1 30 = (σ.1 30) from ((hx48 30 (by decide)).1).trans (show τ33.1 30 = (σ.1 30) from ((hx36 30 (by decide)).1).trans (show τ24.1 30 = (σ.1 30) from ((hx27 30 (by decide)).1).trans (show τ14.1 30 = (σ.1 30) from ((hx17 30 (by decide)).1).trans (show τ4.1 30 = (σ.1 30) from ((hx7 30 (by decide)).1).trans rfl)))))))) ?_
    have bb85 : 0 ≤ (σ.1 30).toInt ∧ (σ.1 30).toInt ≤ 1 := by have h9 := hI78.1 30; rw [show (τ76.1 30) = (σ.1 30) from (show τ76.1 30 = (σ.1 30) from ((hx79 30 (by decide)).1).trans (show τ66.1 30 = (σ.1 30) from ((hx69 30 (by decide)).1).trans (show τ54.1 30 = (σ.1 30) from ((hx57 30 (by decide)).1).trans (show τ45.1 30 = (σ.1 30) from ((hx48 30 (by decide)).1).trans (show τ33.1 30 = (σ.1 30) from ((hx36 30 (by decide)).1).trans (show τ24.1 30 = (σ.1 30) from ((hx27 30 (by decide)).1).trans (show τ14.1 30 = (σ.1 30) from ((hx17 30 (by decide)).1).trans (show τ4.1 30 = (σ.1 30) from ((hx7 30 (by decide)).1).trans rfl))))))))] at h9; exact h9
    refine lv_dup2_11 hx hb dX12_readRow_137 rfl rfl ?_
    refine va_iald hx hb hK hP 3 2 rfl rfl (ti_in rfl (by omega) (by omega)) dX12_readRow_138 ?_
    refine lv_topi (fun z86 ez86 => ?_)
    have qq87 : z86.toInt = z2.toInt := congrArg Int32.toInt ((ez86.trans (congrFun ((tA (by decide)).trans (((hx79 11 (by decide)).2.1).trans (((hx69 11 (by decide)).2.1).trans ((tA (by decide)).trans (((hx57 11 (by decide)).2.1).trans (((hx48 11 (by decide)).2.1).trans ((tA (by decide)).trans (((hx36 11 (by decide)).2.1).trans (((hx27 11 (by decide)).2.1).trans (((hx17 11 (by decide)).2.1).trans (tJ.trans (((hx7 11 (by decide)).2.1).trans rfl)))))))))))) (Int32.toNatClampNeg (σ.1 30)))).trans ((ez2.trans (congrFun rfl (Int32.toNatClampNeg (σ.1 30))))).symm)
    have gz86 : z86.toInt = ((σ.2.1 11) (Int32.toNatClampNeg (σ.1 30))).toInt := congrArg Int32.toInt (ez86.trans (congrFun ((tA (by decide)).trans (((hx79 11 (by decide)).2.1).trans (((hx69 11 (by decide)).2.1).trans ((tA (by decide)).trans (((hx57 11 (by decide)).2.1).trans (((hx48 11 (by decide)).2.1).trans ((tA (by decide)).trans (((hx36 11 (by decide)).2.1).trans (((hx27 11 (by decide)).2.1).trans (((hx17 11 (by decide)).2.1).trans (tJ.trans (((hx7 11 (by decide)).2.1).trans rfl)))))))))))) (Int32.toNatClampNeg (σ.1 30))))
    have bz86 : 0 ≤ z86.toInt ∧ z86.toInt ≤ 2 := by rw [ez86]; exact (hI78.2 11) _ (by have := ti_cl (x := (σ.1 30)) rfl (by omega); show _ < 2; omega)
    refine lv_iconst (v := 1) hx hb dX12_readRow_139 (by decide) ?_
    refine lv_iadd hx hb dX12_readRow_140 ?_
    refine lv_topi (fun z88 ez88 => ?_)
    have tz88 : z88.toInt = z86.toInt + 1 := ti_add ez88 rfl (by decide) (by omega) (by omega)
    refine va_iast hx hb hK hP hD hS 3 2 rfl rfl (ti_in rfl (by omega) (by omega)) dX12_readRow_141 (fun H locs hP hD hS => ?_)
    have hP : va_P (dC, dI) vwCl (mW h ad cl (sA (sA τ76 16 (upd (τ76.2.1 16) (Int32.toNatClampNeg z3) z77)) 11 (upd (τ76.2.1 11) (Int32.toNatClampNeg (σ.1 30)) z88))) H := hP
    have hD : va_D A (mW h ad cl (sA (sA τ76 16 (upd (τ76.2.1 16) (Int32.toNatClampNeg z3) z77)) 11 (upd (τ76.2.1 11) (Int32.toNatClampNeg (σ.1 30)) z88))) := hD
    rw [hQ]
    have C11 : ((sA (sA τ76 16 (upd (τ76.2.1 16) (Int32.toNatClampNeg z3) z77)) 11 (upd (τ76.2.1 11) (Int32.toNatClampNeg (σ.1 30)) z88))).2.1 11 = (upd (σ.2.1 11) (Int32.toNatClampNeg (σ.1 30)) z88) := (tAe.trans (congrArg (fun f9 => (upd f9 (Int32.toNatClampNeg (σ.1 30)) z88)) (((hx79 11 (by decide)).2.1).trans (((hx69 11 (by decide)).2.1).trans ((tA (by decide)).trans (((hx57 11 (by decide)).2.1).trans (((hx48 11 (by decide)).2.1).trans ((tA (by decide)).trans (((hx36 11 (by decide)).2.1).trans (((hx27 11 (by decide)).2.1).trans (((hx17 11 (by decide)).2.1).trans (tJ.trans (((hx7 11 (by decide)).2.1).trans rfl)))))))))))))
    have C12 : ((sA (sA τ76 16 (upd (τ76.2.1 16) (Int32.toNatClampNeg z3) z77)) 11 (upd (τ76.2.1 11) (Int32.toNatClampNeg (σ.1 30)) z88))).2.1 12 = (σ.2.1 12) := ((tA (by decide)).trans ((tA (by decide)).trans (((hx79 12 (by decide)).2.1).trans (((hx69 12 (by decide)).2.1).trans ((tA (by decide)).trans (((hx57 12 (by decide)).2.1).trans (((hx48 12 (by decide)).2.1).trans ((tA (by decide)).trans (((hx36 12 (by decide)).2.1).trans (((hx27 12 (by decide)).2.1).trans (((hx17 12 (by decide)).2.1).trans (tJ.trans (((hx7 12 (by decide)).2.1).trans rfl)))))))))))))
    have C13 : ((sA (sA τ76 16 (upd (τ76.2.1 16) (Int32.toNatClampNeg z3) z77)) 11 (upd (τ76.2.1 11) (Int32.toNatClampNeg (σ.1 30)) z88))).2.1 13 = (σ.2.1 13) := ((tA (by decide)).trans ((tA (by decide)).trans (((hx79 13 (by decide)).2.1).trans (((hx69 13 (by decide)).2.1).trans ((tA (by decide)).trans (((hx57 13 (by decide)).2.1).trans (((hx48 13 (by decide)).2.1).trans ((tA (by decide)).trans (((hx36 13 (by decide)).2.1).trans (((hx27 13 (by decide)).2.1).trans (((hx17 13 (by decide)).2.1).trans (tJ.trans (((hx7 13 (by decide)).2.1).trans rfl)))))))))))))
    have C14 : ((sA (sA τ76 16 (upd (τ76.2.1 16) (Int32.toNatClampNeg z3) z77)) 11 (upd (τ76.2.1 11) (Int32.toNatClampNeg (σ.1 30)) z88))).2.1 14 = (upd (σ.2.1 14) (Int32.toNatClampNeg z3) z34) := ((tA (by decide)).trans ((tA (by decide)).trans (((hx79 14 (by decide)).2.1).trans (((hx69 14 (by decide)).2.1).trans ((tA (by decide)).trans (((hx57 14 (by decide)).2.1).trans (((hx48 14 (by decide)).2.1).trans (tAe.trans (congrArg (fun f9 => (upd f9 (Int32.toNatClampNeg z3) z34)) (((hx36 14 (by decide)).2.1).trans (((hx27 14 (by decide)).2.1).trans (((hx17 14 (by decide)).2.1).trans (tJ.trans (((hx7 14 (by decide)).2.1).trans rfl))))))))))))))
    have C15 : ((sA (sA τ76 16 (upd (τ76.2.1 16) (Int32.toNatClampNeg z3) z77)) 11 (upd (τ76.2.1 11) (Int32.toNatClampNeg (σ.1 30)) z88))).2.1 15 = (upd (σ.2.1 15) (Int32.toNatClampNeg z3) z55) := ((tA (by decide)).trans ((tA (by decide)).trans (((hx79 15 (by decide)).2.1).trans (((hx69 15 (by decide)).2.1).trans (tAe.trans (congrArg (fun f9 => (upd f9 (Int32.toNatClampNeg z3) z55)) (((hx57 15 (by decide)).2.1).trans (((hx48 15 (by decide)).2.1).trans ((tA (by decide)).trans (((hx36 15 (by decide)).2.1).trans (((hx27 15 (by decide)).2.1).trans (((hx17 15 (by decide)).2.1).trans (tJ.trans (((hx7 15 (by decide)).2.1).trans rfl))))))))))))))
    have C16 : ((sA (sA τ76 16 (upd (τ76.2.1 16) (Int32.toNatClampNeg z3) z77)) 11 (upd (τ76.2.1 11) (Int32.toNatClampNeg (σ.1 30)) z88))).2.1 16 = (upd (σ.2.1 16) (Int32.toNatClampNeg z3) z77) := ((tA (by decide)).trans (tAe.trans (congrArg (fun f9 => (upd f9 (Int32.toNatClampNeg z3) z77)) (((hx79 16 (by decide)).2.1).trans (((hx69 16 (by decide)).2.1).trans ((tA (by decide)).trans (((hx57 16 (by decide)).2.1).trans (((hx48 16 (by decide)).2.1).trans ((tA (by decide)).trans (((hx36 16 (by decide)).2.1).trans (((hx27 16 (by decide)).2.1).trans (((hx17 16 (by decide)).2.1).trans (tJ.trans (((hx7 16 (by decide)).2.1).trans rfl))))))))))))))
    have C17 : ((sA (sA τ76 16 (upd (τ76.2.1 16) (Int32.toNatClampNeg z3) z77)) 11 (upd (τ76.2.1 11) (Int32.toNatClampNeg (σ.1 30)) z88))).2.1 17 = (σ.2.1 17) := ((tA (by decide)).trans ((tA (by decide)).trans (((hx79 17 (by decide)).2.1).trans (((hx69 17 (by decide)).2.1).trans ((tA (by decide)).trans (((hx57 17 (by decide)).2.1).trans (((hx48 17 (by decide)).2.1).trans ((tA (by decide)).trans (((hx36 17 (by decide)).2.1).trans (((hx27 17 (by decide)).2.1).trans (((hx17 17 (by decide)).2.1).trans (tJ.trans (((hx7 17 (by decide)).2.1).trans rfl)))))))))))))
    have C18 : ((sA (sA τ76 16 (upd (τ76.2.1 16) (Int32.toNatClampNeg z3) z77)) 11 (upd (τ76.2.1 11) (Int32.toNatClampNeg (σ.1 30)) z88))).2.1 18 = (σ.2.1 18) := ((tA (by decide)).trans ((tA (by decide)).trans (((hx79 18 (by decide)).2.1).trans (((hx69 18 (by decide)).2.1).trans ((tA (by decide)).trans (((hx57 18 (by decide)).2.1).trans (((hx48 18 (by decide)).2.1).trans ((tA (by decide)).trans (((hx36 18 (by decide)).2.1).trans (((hx27 18 (by decide)).2.1).trans (((hx17 18 (by decide)).2.1).trans (tJ.trans (((hx7 18 (by decide)).2.1).trans rfl)))))))))))))
    have C19 : ((sA (sA τ76 16 (upd (τ76.2.1 16) (Int32.toNatClampNeg z3) z77)) 11 (upd (τ76.2.1 11) (Int32.toNatClampNeg (σ.1 30)) z88))).2.1 19 = (σ.2.1 19) := ((tA (by decide)).trans ((tA (by decide)).trans (((hx79 19 (by decide)).2.1).trans (((hx69 19 (by decide)).2.1).trans ((tA (by decide)).trans (((hx57 19 (by decide)).2.1).trans (((hx48 19 (by decide)).2.1).trans ((tA (by decide)).trans (((hx36 19 (by decide)).2.1).trans (((hx27 19 (by decide)).2.1).trans (((hx17 19 (by decide)).2.1).trans (tJ.trans (((hx7 19 (by decide)).2.1).trans rfl)))))))))))))
    have C20 : ((sA (sA τ76 16 (upd (τ76.2.1 16) (Int32.toNatClampNeg z3) z77)) 11 (upd (τ76.2.1 11) (Int32.toNatClampNeg (σ.1 30)) z88))).2.1 20 = (σ.2.1 20) := ((tA (by decide)).trans ((tA (by decide)).trans (((hx79 20 (by decide)).2.1).trans (((hx69 20 (by decide)).2.1).trans ((tA (by decide)).trans (((hx57 20 (by decide)).2.1).trans (((hx48 20 (by decide)).2.1).trans ((tA (by decide)).trans (((hx36 20 (by decide)).2.1).trans (((hx27 20 (by decide)).2.1).trans (((hx17 20 (by decide)).2.1).trans (tJ.trans (((hx7 20 (by decide)).2.1).trans rfl)))))))))))))
    have C21 : ((sA (sA τ76 16 (upd (τ76.2.1 16) (Int32.toNatClampNeg z3) z77)) 11 (upd (τ76.2.1 11) (Int32.toNatClampNeg (σ.1 30)) z88))).2.1 21 = (σ.2.1 21) := ((tA (by decide)).trans ((tA (by decide)).trans (((hx79 21 (by decide)).2.1).trans (((hx69 21 (by decide)).2.1).trans ((tA (by decide)).trans (((hx57 21 (by decide)).2.1).trans (((hx48 21 (by decide)).2.1).trans ((tA (by decide)).trans (((hx36 21 (by decide)).2.1).trans (((hx27 21 (by decide)).2.1).trans (((hx17 21 (by decide)).2.1).trans (tJ.trans (((hx7 21 (by decide)).2.1).trans rfl)))))))))))))
    have C22 : ((sA (sA τ76 16 (upd (τ76.2.1 16) (Int32.toNatClampNeg z3) z77)) 11 (upd (τ76.2.1 11) (Int32.toNatClampNeg (σ.1 30)) z88))).2.1 22 = (σ.2.1 22) := ((tA (by decide)).trans ((tA (by decide)).trans (((hx79 22 (by decide)).2.1).trans (((hx69 22 (by decide)).2.1).trans ((tA (by decide)).trans (((hx57 22 (by decide)).2.1).trans (((hx48 22 (by decide)).2.1).trans ((tA (by decide)).trans (((hx36 22 (by decide)).2.1).trans (((hx27 22 (by decide)).2.1).trans (((hx17 22 (by decide)).2.1).trans (tJ.trans (((hx7 22 (by decide)).2.1).trans rfl)))))))))))))
    have CS : ∀ p9, 17 ≤ p9 → p9 ≤ 22 → ((sA (sA τ76 16 (upd (τ76.2.1 16) (Int32.toNatClampNeg z3) z77)) 11 (upd (τ76.2.1 11) (Int32.toNatClampNeg (σ.1 30)) z88))).2.1 p9 = σ.2.1 p9 := fun p9 h1 h2 => by rcases (show p9 = 17 ∨ p9 = 18 ∨ p9 = 19 ∨ p9 = 20 ∨ p9 = 21 ∨ p9 = 22 by omega) with rfl | rfl | rfl | rfl | rfl | rfl <;> first | exact C17 | exact C18 | exact C19 | exact C20 | exact C21 | exact C22
    have RR := rel_row hI (by omega) ez2 (by omega) (by omega) (by omega) C11 C12 C13 C14 C15 C16 CS (by omega) (by omega) (by omega) (by omega)
    exact W.vret hx hb hr (fun t ht hW => ⟨⟨(sA (sA τ76 16 (upd (τ76.2.1 16) (Int32.toNatClampNeg z3) z77)) 11 (upd (τ76.2.1 11) (Int32.toNatClampNeg (σ.1 30)) z88)), rfl, ⟨(Inv_sA1 (Inv_sA1 hI78 (fun j _ => Inv.any _)) (rgu (hI78.2 11) (show (0 : Int) ≤ (z88 : Int32).toInt ∧ (z88 : Int32).toInt ≤ 2 by omega))), (eqx.sA (eqx.sA (eqx.tr hx79 (eqx.tr hx69 (eqx.sA (eqx.tr hx57 (eqx.tr hx48 (eqx.sA (eqx.tr hx36 (eqx.tr hx27 (eqx.tr hx17 (eqx.sJ (eqx.tr hx7 eqx.rf (by decide)) (by decide)) (by decide)) (by decide)) (by decide)) (by decide)) (by decide)) (by decide)) (by decide)) (by decide)) (by decide)) (by decide)) (by decide)), RR.1, RR.2, (Mo.tr mo82 (fun h9 => (Mo.tr mo70 (fun h9 => (Mo.tr mo60 (fun h9 => (Mo.tr mo49 (fun h9 => (Mo.tr mo39 (fun h9 => (Mo.tr mo28 (fun h9 => (Mo.tr mo18 (fun h9 => (Mo.tr mo8 (fun h9 => Mo.rf h9)) h9)) h9)) h9)) h9)) h9)) h9)) h9)), (show (σ.1 7).toInt ≤ (τ76.1 7).toInt ∧ (τ76.1 7).toInt ≤ (σ.1 3).toInt by omega)⟩, wEn_of hP (hK.sub [] rfl) hD ht hW⟩, hS.F ht⟩) hS.2.2 dX12_readRow_142
  · have tc12 := (show (σ.1 8).toInt = 2 from ti_eq rfl (by decide) c12)
    refine lv_iconst (v := 1) hx hb dX12_readRow_40 (by decide) ?_
    refine lv_goto (tgt := 45) hx hb dX12_readRow_41 (by decide) ?_
    have kk89 : (1 : Int32).toInt = 1 := by decide
    refine zy_v (va_runV (As := [.int 1]) (rest := []) ⟨hx, hb, hml, hown, hts⟩ (n_must l dC dI h ad cl H.size (sJ τ4 25 (vp_updL (τ4.2.2.1 25) (Int32.toNatClampNeg z3) (τ4.2.2.2 10))) 1 (Inv.sJ hI6) (show (τ4.1 7).toInt ≤ (τ4.1 3).toInt by omega)) (cwV 1 hts gd_n_readRow_278_n_must rfl rfl rfl (by decide +kernel) ⟨Nat.le_of_ble_eq_true rfl, Nat.le_of_ble_eq_true rfl⟩) (preV hP hK hD hE (ci := 12) (q0 := 0) rfl rfl) rfl rfl hl.1 rfl (lv_room (Nat.le_of_ble_eq_true rfl)) dX12_readRow_45 ⟨Nat.le_of_ble_eq_true rfl, Nat.le_of_ble_eq_true rfl⟩) hD hS hA (fun τ90 H locs hq hP hD hS => ?_)
    obtain ⟨hI92, hx93, mo94, lx95⟩ := hq
    have lx95x : ((τ4.1 7) : Int32).toInt ≤ (τ90.1 7).toInt ∧ (τ90.1 7).toInt ≤ ((τ4.1 3) : Int32).toInt := lx95
    have qq96 : (τ90.1 3).toInt = ((σ.1 3) : Int32).toInt := congrArg Int32.toInt ((show τ90.1 3 = (σ.1 3) from ((hx93 3 (by decide)).1).trans (show τ4.1 3 = (σ.1 3) from ((hx7 3 (by decide)).1).trans rfl)))
    refine W.widen (k := 0) (n := 0) (Nat.le_of_ble_eq_true rfl) (Nat.le_of_ble_eq_true rfl) ?_
    refine lv_aload_n hx hb dX12_readRow_48 rfl (lv_at hl 1 rfl) ?_
    refine lv_aload_n hx hb dX12_readRow_49 rfl (lv_at hl 1 rfl) ?_
    refine lv_ldc2 (v := (6840691)) hx hb hown (ho (.constantLong RX12 145 (6840691)) (List.mem_of_getElem? (i := 5) rfl)) dX12_readRow_50 ?_
    refine zy_i (va_runV (As := [.long 6840691]) (rest := [.ref h]) ⟨hx, hb, hml, hown, hts⟩ (n_isWord l dC dI h ad cl H.size τ90 6840691 hI92) (cwV 1 hts gd_n_readRow_261_n_isWord rfl rfl rfl (by decide +kernel) ⟨Nat.le_of_ble_eq_true rfl, Nat.le_of_ble_eq_true rfl⟩) (preV hP hK hD hE (ci := 12) (q0 := 0) rfl rfl) rfl rfl hl.1 rfl (lv_room (Nat.le_of_ble_eq_true rfl)) dX12_readRow_53 ⟨Nat.le_of_ble_eq_true rfl, Nat.le_of_ble_eq_true rfl⟩) hD hS hA (fun z98 τ97 H locs hq hP hD hS => ?_)
    obtain ⟨rfl, f99⟩ := hq
    refine W.widen (k := 0) (n := 0) (Nat.le_of_ble_eq_true rfl) (Nat.le_of_ble_eq_true rfl) ?_
    refine zy_v (va_runV (As := [.int z98]) (rest := []) ⟨hx, hb, hml, hown, hts⟩ (n_must l dC dI h ad cl H.size τ90 z98 hI92 (show (τ90.1 7).toInt ≤ (τ90.1 3).toInt by omega)) (cwV 1 hts gd_n_readRow_278_n_must rfl rfl rfl (by decide +kernel) ⟨Nat.le_of_ble_eq_true rfl, Nat.le_of_ble_eq_true rfl⟩) (preV hP hK hD hE (ci := 12) (q0 := 0) rfl rfl) rfl rfl hl.1 rfl (lv_room (Nat.le_of_ble_eq_true rfl)) dX12_readRow_56 ⟨Nat.le_of_ble_eq_true rfl, Nat.le_of_ble_eq_true rfl⟩) hD hS hA (fun τ100 H locs hq hP hD hS => ?_)
    obtain ⟨hI102, hx103, mo104, lx105⟩ := hq
    have lx105x : ((τ90.1 7) : Int32).toInt ≤ (τ100.1 7).toInt ∧ (τ100.1 7).toInt ≤ ((τ90.1 3) : Int32).toInt := lx105
    have qq106 : (τ100.1 3).toInt = ((σ.1 3) : Int32).toInt := congrArg Int32.toInt ((show τ100.1 3 = (σ.1 3) from ((hx103 3 (by decide)).1).trans (show τ90.1 3 = (σ.1 3) from ((hx93 3 (by decide)).1).trans (show τ4.1 3 = (σ.1 3) from ((hx7 3 (by decide)).1).trans rfl))))
    refine W.widen (k := 0) (n := 0) (Nat.le_of_ble_eq_true rfl) (Nat.le_of_ble_eq_true rfl) ?_
    refine lv_aload_n hx hb dX12_readRow_59 rfl (lv_at hl 1 rfl) ?_
    refine va_get (D := (dC, dI)) (ci := 12) (v := .ref (ad 14)) (C := RX12) (T := TX12) (N := 59) hx hb hts hin12 hown hK hP 0 rfl rfl 14 (by decide) (ho (.fieldLink RX12 30 "NearEnoughModel" "rHas" "[I") (List.mem_of_getElem? (i := 6) rfl)) (fun _ h9 => h9) rfl dX12_readRow_60 ?_
    refine lv_iload_n hx hb dX12_readRow_63 rfl (lv_at hl 0 rfl) ?_
    refine lv_aload_n hx hb dX12_readRow_64 rfl (lv_at hl 1 rfl) ?_
    refine lv_iconst (v := 1) hx hb dX12_readRow_65 (by decide) ?_
    refine lv_bipush (v := 6) hx hb dX12_readRow_66 (by decide) ?_
    have kk107 : (1 : Int32).toInt = 1 := by decide
    have kk108 : (6 : Int32).toInt = 6 := by decide
    refine zy_i (va_runV (As := [.int 1, .int 6]) (rest := [.int z3, .ref (ad 14)]) ⟨hx, hb, hml, hown, hts⟩ (n_numeral l dC dI h ad cl H.size τ100 1 6 hI102 (by decide) (show (τ100.1 7).toInt ≤ (τ100.1 3).toInt by omega)) (cwV 2 hts gd_n_readRow_291_n_numeral rfl rfl rfl (by decide +kernel) ⟨Nat.le_of_ble_eq_true rfl, Nat.le_of_ble_eq_true rfl⟩) (preV hP hK hD hE (ci := 12) (q0 := 0) rfl rfl) rfl rfl hl.1 rfl (lv_room (Nat.le_of_ble_eq_true rfl)) dX12_readRow_68 ⟨Nat.le_of_ble_eq_true rfl, Nat.le_of_ble_eq_true rfl⟩) hD hS hA (fun z110 τ109 H locs hq hP hD hS => ?_)
    obtain ⟨hI111, hx112, f113, f114, mo115, lx116⟩ := hq
    have lx116x : ((τ100.1 7) : Int32).toInt ≤ (τ109.1 7).toInt ∧ (τ109.1 7).toInt ≤ ((τ100.1 3) : Int32).toInt := lx116
    have qq117 : (τ109.1 3).toInt = ((σ.1 3) : Int32).toInt := congrArg Int32.toInt ((show τ109.1 3 = (σ.1 3) from ((hx112 3 (by decide)).1).trans (show τ100.1 3 = (σ.1 3) from ((hx103 3 (by decide)).1).trans (show τ90.1 3 = (σ.1 3) from ((hx93 3 (by decide)).1).trans (show τ4.1 3 = (σ.1 3) from ((hx7 3 (by decide)).1).trans rfl)))))
    refine W.widen (k := 0) (n := 0) (Nat.le_of_ble_eq_true rfl) (Nat.le_of_ble_eq_true rfl) ?_
    refine va_iast hx hb hK hP hD hS 6 5 rfl rfl (ti_in rfl (by omega) (by omega)) dX12_readRow_71 (fun H locs hP hD hS => ?_)
    have hP : va_P (dC, dI) vwCl (mW h ad cl (sA τ109 14 (upd (τ109.2.1 14) (Int32.toNatClampNeg z3) z110))) H := hP
    have hD : va_D A (mW h ad cl (sA τ109 14 (upd (τ109.2.1 14) (Int32.toNatClampNeg z3) z110))) := hD
    refine lv_aload_n hx hb dX12_readRow_72 rfl (lv_at hl 1 rfl) ?_
    refine lv_aload_n hx hb dX12_readRow_73 rfl (lv_at hl 1 rfl) ?_
    refine lv_ldc2 (v := (1718775661)) hx hb hown (ho (.constantLong RX12 147 (1718775661)) (List.mem_of_getElem? (i := 7) rfl)) dX12_readRow_74 ?_
    refine zy_i (va_runV (As := [.long 1718775661]) (rest := [.ref h]) ⟨hx, hb, hml, hown, hts⟩ (n_isWord l dC dI h ad cl H.size (sA τ109 14 (upd (τ109.2.1 14) (Int32.toNatClampNeg z3) z110)) 1718775661 (Inv_sA1 hI111 (rgu (hI111.2 14) (show (0 : Int) ≤ (z110 : Int32).toInt ∧ (z110 : Int32).toInt ≤ 6 by omega)))) (cwV 1 hts gd_n_readRow_261_n_isWord rfl rfl rfl (by decide +kernel) ⟨Nat.le_of_ble_eq_true rfl, Nat.le_of_ble_eq_true rfl⟩) (preV hP hK hD hE (ci := 12) (q0 := 0) rfl rfl) rfl rfl hl.1 rfl (lv_room (Nat.le_of_ble_eq_true rfl)) dX12_readRow_77 ⟨Nat.le_of_ble_eq_true rfl, Nat.le_of_ble_eq_true rfl⟩) hD hS hA (fun z119 τ118 H locs hq hP hD hS => ?_)
    obtain ⟨rfl, f120⟩ := hq
    refine W.widen (k := 0) (n := 0) (Nat.le_of_ble_eq_true rfl) (Nat.le_of_ble_eq_true rfl) ?_
    refine zy_v (va_runV (As := [.int z119]) (rest := []) ⟨hx, hb, hml, hown, hts⟩ (n_must l dC dI h ad cl H.size (sA τ109 14 (upd (τ109.2.1 14) (Int32.toNatClampNeg z3) z110)) z119 (Inv_sA1 hI111 (rgu (hI111.2 14) (show (0 : Int) ≤ (z110 : Int32).toInt ∧ (z110 : Int32).toInt ≤ 6 by omega))) (show (τ109.1 7).toInt ≤ (τ109.1 3).toInt by omega)) (cwV 1 hts gd_n_readRow_278_n_must rfl rfl rfl (by decide +kernel) ⟨Nat.le_of_ble_eq_true rfl, Nat.le_of_ble_eq_true rfl⟩) (preV hP hK hD hE (ci := 12) (q0 := 0) rfl rfl) rfl rfl hl.1 rfl (lv_room (Nat.le_of_ble_eq_true rfl)) dX12_readRow_80 ⟨Nat.le_of_ble_eq_true rfl, Nat.le_of_ble_eq_true rfl⟩) hD hS hA (fun τ121 H locs hq hP hD hS => ?_)
    obtain ⟨hI123, hx124, mo125, lx126⟩ := hq
    have lx126x : ((τ109.1 7) : Int32).toInt ≤ (τ121.1 7).toInt ∧ (τ121.1 7).toInt ≤ ((τ109.1 3) : Int32).toInt := lx126
    have qq127 : (τ121.1 3).toInt = ((σ.1 3) : Int32).toInt := congrArg Int32.toInt ((show τ121.1 3 = (σ.1 3) from ((hx124 3 (by decide)).1).trans (show τ109.1 3 = (σ.1 3) from ((hx112 3 (by decide)).1).trans (show τ100.1 3 = (σ.1 3) from ((hx103 3 (by decide)).1).trans (show τ90.1 3 = (σ.1 3) from ((hx93 3 (by decide)).1).trans (show τ4.1 3 = (σ.1 3) from ((hx7 3 (by decide)).1).trans rfl))))))
    refine W.widen (k := 0) (n := 0) (Nat.le_of_ble_eq_true rfl) (Nat.le_of_ble_eq_true rfl) ?_
    refine lv_aload_n hx hb dX12_readRow_83 rfl (lv_at hl 1 rfl) ?_
    refine va_get (D := (dC, dI)) (ci := 12) (v := .ref (ad 15)) (C := RX12) (T := TX12) (N := 59) hx hb hts hin12 hown hK hP 0 rfl rfl 15 (by decide) (ho (.fieldLink RX12 33 "NearEnoughModel" "rLeast" "[I") (List.mem_of_getElem? (i := 8) rfl)) (fun _ h9 => h9) rfl dX12_readRow_84 ?_
    refine lv_iload_n hx hb dX12_readRow_87 rfl (lv_at hl 0 rfl) ?_
    refine lv_aload_n hx hb dX12_readRow_88 rfl (lv_at hl 1 rfl) ?_
    refine lv_sipush (v := (-999)) hx hb dX12_readRow_89 (by decide) ?_
    refine lv_sipush (v := 999) hx hb dX12_readRow_92 (by decide) ?_
    have kk128 : ((-999) : Int32).toInt = (-999) := by decide
    have kk129 : (999 : Int32).toInt = 999 := by decide
    refine zy_i (va_runV (As := [.int (-999), .int 999]) (rest := [.int z3, .ref (ad 15)]) ⟨hx, hb, hml, hown, hts⟩ (n_signed l dC dI h ad cl H.size τ121 (-999) 999 hI123 (by decide) (show (τ121.1 7).toInt ≤ (τ121.1 3).toInt by omega)) (cwV 2 hts gd_n_readRow_295_n_signed rfl rfl rfl (by decide +kernel) ⟨Nat.le_of_ble_eq_true rfl, Nat.le_of_ble_eq_true rfl⟩) (preV hP hK hD hE (ci := 12) (q0 := 0) rfl rfl) rfl rfl hl.1 rfl (lv_room (Nat.le_of_ble_eq_true rfl)) dX12_readRow_95 ⟨Nat.le_of_ble_eq_true rfl, Nat.le_of_ble_eq_true rfl⟩) hD hS hA (fun z131 τ130 H locs hq hP hD hS => ?_)
    obtain ⟨hI132, hx133, f134, f135, mo136, lx137⟩ := hq
    have lx137x : ((τ121.1 7) : Int32).toInt ≤ (τ130.1 7).toInt ∧ (τ130.1 7).toInt ≤ ((τ121.1 3) : Int32).toInt := lx137
    have qq138 : (τ130.1 3).toInt = ((σ.1 3) : Int32).toInt := congrArg Int32.toInt ((show τ130.1 3 = (σ.1 3) from ((hx133 3 (by decide)).1).trans (show τ121.1 3 = (σ.1 3) from ((hx124 3 (by decide)).1).trans (show τ109.1 3 = (σ.1 3) from ((hx112 3 (by decide)).1).trans (show τ100.1 3 = (σ.1 3) from ((hx103 3 (by decide)).1).trans (show τ90.1 3 = (σ.1 3) from ((hx93 3 (by decide)).1).trans (show τ4.1 3 = (σ.1 3) from ((hx7 3 (by decide)).1).trans rfl)))))))
    refine W.widen (k := 0) (n := 0) (Nat.le_of_ble_eq_true rfl) (Nat.le_of_ble_eq_true rfl) ?_
    refine va_iast hx hb hK hP hD hS 7 6 rfl rfl (ti_in rfl (by omega) (by omega)) dX12_readRow_98 (fun H locs hP hD hS => ?_)
    have hP : va_P (dC, dI) vwCl (mW h ad cl (sA τ130 15 (upd (τ130.2.1 15) (Int32.toNatClampNeg z3) z131))) H := hP
    have hD : va_D A (mW h ad cl (sA τ130 15 (upd (τ130.2.1 15) (Int32.toNatClampNeg z3) z131))) := hD
    refine lv_aload_n hx hb dX12_readRow_99 rfl (lv_at hl 1 rfl) ?_
    refine lv_aload_n hx hb dX12_readRow_100 rfl (lv_at hl 1 rfl) ?_
    refine lv_ldc2 (v := (29807)) hx hb hown (ho (.constantLong RX12 149 (29807)) (List.mem_of_getElem? (i := 9) rfl)) dX12_readRow_101 ?_
    refine zy_i (va_runV (As := [.long 29807]) (rest := [.ref h]) ⟨hx, hb, hml, hown, hts⟩ (n_isWord l dC dI h ad cl H.size (sA τ130 15 (upd (τ130.2.1 15) (Int32.toNatClampNeg z3) z131)) 29807 (Inv_sA1 hI132 (fun j _ => Inv.any _))) (cwV 1 hts gd_n_readRow_261_n_isWord rfl rfl rfl (by decide +kernel) ⟨Nat.le_of_ble_eq_true rfl, Nat.le_of_ble_eq_true rfl⟩) (preV hP hK hD hE (ci := 12) (q0 := 0) rfl rfl) rfl rfl hl.1 rfl (lv_room (Nat.le_of_ble_eq_true rfl)) dX12_readRow_104 ⟨Nat.le_of_ble_eq_true rfl, Nat.le_of_ble_eq_true rfl⟩) hD hS hA (fun z140 τ139 H locs hq hP hD hS => ?_)
    obtain ⟨rfl, f141⟩ := hq
    refine W.widen (k := 0) (n := 0) (Nat.le_of_ble_eq_true rfl) (Nat.le_of_ble_eq_true rfl) ?_
    refine zy_v (va_runV (As := [.int z140]) (rest := []) ⟨hx, hb, hml, hown, hts⟩ (n_must l dC dI h ad cl H.size (sA τ130 15 (upd (τ130.2.1 15) (Int32.toNatClampNeg z3) z131)) z140 (Inv_sA1 hI132 (fun j _ => Inv.any _)) (show (τ130.1 7).toInt ≤ (τ130.1 3).toInt by omega)) (cwV 1 hts gd_n_readRow_278_n_must rfl rfl rfl (by decide +kernel) ⟨Nat.le_of_ble_eq_true rfl, Nat.le_of_ble_eq_true rfl⟩) (preV hP hK hD hE (ci := 12) (q0 := 0) rfl rfl) rfl rfl hl.1 rfl (lv_room (Nat.le_of_ble_eq_true rfl)) dX12_readRow_107 ⟨Nat.le_of_ble_eq_true rfl, Nat.le_of_ble_eq_true rfl⟩) hD hS hA (fun τ142 H locs hq hP hD hS => ?_)
    obtain ⟨hI144, hx145, mo146, lx147⟩ := hq
    have lx147x : ((τ130.1 7) : Int32).toInt ≤ (τ142.1 7).toInt ∧ (τ142.1 7).toInt ≤ ((τ130.1 3) : Int32).toInt := lx147
    have qq148 : (τ142.1 3).toInt = ((σ.1 3) : Int32).toInt := congrArg Int32.toInt ((show τ142.1 3 = (σ.1 3) from ((hx145 3 (by decide)).1).trans (show τ130.1 3 = (σ.1 3) from ((hx133 3 (by decide)).1).trans (show τ121.1 3 = (σ.1 3) from ((hx124 3 (by decide)).1).trans (show τ109.1 3 = (σ.1 3) from ((hx112 3 (by decide)).1).trans (show τ100.1 3 = (σ.1 3) from ((hx103 3 (by decide)).1).trans (show τ90.1 3 = (σ.1 3) from ((hx93 3 (by decide)).1).trans (show τ4.1 3 = (σ.1 3) from ((hx7 3 (by decide)).1).trans rfl))))))))
    refine W.widen (k := 0) (n := 0) (Nat.le_of_ble_eq_true rfl) (Nat.le_of_ble_eq_true rfl) ?_
    refine lv_aload_n hx hb dX12_readRow_110 rfl (lv_at hl 1 rfl) ?_
    refine va_get (D := (dC, dI)) (ci := 12) (v := .ref (ad 16)) (C := RX12) (T := TX12) (N := 59) hx hb hts hin12 hown hK hP 0 rfl rfl 16 (by decide) (ho (.fieldLink RX12 36 "NearEnoughModel" "rMost" "[I") (List.mem_of_getElem? (i := 10) rfl)) (fun _ h9 => h9) rfl dX12_readRow_111 ?_
    refine lv_iload_n hx hb dX12_readRow_114 rfl (lv_at hl 0 rfl) ?_
    refine lv_aload_n hx hb dX12_readRow_115 rfl (lv_at hl 1 rfl) ?_
    refine lv_aload_n hx hb dX12_readRow_116 rfl (lv_at hl 1 rfl) ?_
    refine va_get (D := (dC, dI)) (ci := 12) (v := .ref (ad 15)) (C := RX12) (T := TX12) (N := 59) hx hb hts hin12 hown hK hP 0 rfl rfl 15 (by decide) (ho (.fieldLink RX12 33 "NearEnoughModel" "rLeast" "[I") (List.mem_of_getElem? (i := 8) rfl)) (fun _ h9 => h9) rfl dX12_readRow_117 ?_
    refine lv_iload_n hx hb dX12_readRow_120 rfl (lv_at hl 0 rfl) ?_
    refine va_iald hx hb hK hP 7 6 rfl rfl (ti_in rfl (by omega) (by omega)) dX12_readRow_121 ?_
    refine lv_topi (fun z149 ez149 => ?_)
    have gz149 : z149.toInt = ((upd (σ.2.1 15) (Int32.toNatClampNeg z3) z131) (Int32.toNatClampNeg z3)).toInt := congrArg Int32.toInt (ez149.trans (congrFun (((hx145 15 (by decide)).2.1).trans (tAe.trans (congrArg (fun f9 => (upd f9 (Int32.toNatClampNeg z3) z131)) (((hx133 15 (by decide)).2.1).trans (((hx124 15 (by decide)).2.1).trans ((tA (by decide)).trans (((hx112 15 (by decide)).2.1).trans (((hx103 15 (by decide)).2.1).trans (((hx93 15 (by decide)).2.1).trans (tJ.trans (((hx7 15 (by decide)).2.1).trans rfl))))))))))) (Int32.toNatClampNeg z3)))
    have qq150 : z149.toInt = (z131 : Int32).toInt := gz149.trans (congrArg Int32.toInt pk_us)
    refine lv_sipush (v := 999) hx hb dX12_readRow_122 (by decide) ?_
    have kk151 : (999 : Int32).toInt = 999 := by decide
    refine zy_i (va_runV (As := [.int z149, .int 999]) (rest := [.int z3, .ref (ad 16)]) ⟨hx, hb, hml, hown, hts⟩ (n_signed l dC dI h ad cl H.size τ142 z149 999 hI144 (by omega) (show (τ142.1 7).toInt ≤ (τ142.1 3).toInt by omega)) (cwV 2 hts gd_n_readRow_295_n_signed rfl rfl rfl (by decide +kernel) ⟨Nat.le_of_ble_eq_true rfl, Nat.le_of_ble_eq_true rfl⟩) (preV hP hK hD hE (ci := 12) (q0 := 0) rfl rfl) rfl rfl hl.1 rfl (lv_room (Nat.le_of_ble_eq_true rfl)) dX12_readRow_125 ⟨Nat.le_of_ble_eq_true rfl, Nat.le_of_ble_eq_true rfl⟩) hD hS hA (fun z153 τ152 H locs hq hP hD hS => ?_)
    obtain ⟨hI154, hx155, f156, f157, mo158, lx159⟩ := hq
    have lx159x : ((τ142.1 7) : Int32).toInt ≤ (τ152.1 7).toInt ∧ (τ152.1 7).toInt ≤ ((τ142.1 3) : Int32).toInt := lx159
    have qq160 : (τ152.1 3).toInt = ((σ.1 3) : Int32).toInt := congrArg Int32.toInt ((show τ152.1 3 = (σ.1 3) from ((hx155 3 (by decide)).1).trans (show τ142.1 3 = (σ.1 3) from ((hx145 3 (by decide)).1).trans (show τ130.1 3 = (σ.1 3) from ((hx133 3 (by decide)).1).trans (show τ121.1 3 = (σ.1 3) from ((hx124 3 (by decide)).1).trans (show τ109.1 3 = (σ.1 3) from ((hx112 3 (by decide)).1).trans (show τ100.1 3 = (σ.1 3) from ((hx103 3 (by decide)).1).trans (show τ90.1 3 = (σ.1 3) from ((hx93 3 (by decide)).1).trans (show τ4.1 3 = (σ.1 3) from ((hx7 3 (by decide)).1).trans rfl)))))))))
    refine W.widen (k := 0) (n := 0) (Nat.le_of_ble_eq_true rfl) (Nat.le_of_ble_eq_true rfl) ?_
    refine va_iast hx hb hK hP hD hS 8 7 rfl rfl (ti_in rfl (by omega) (by omega)) dX12_readRow_128 (fun H locs hP hD hS => ?_)
    have hP : va_P (dC, dI) vwCl (mW h ad cl (sA τ152 16 (upd (τ152.2.1 16) (Int32.toNatClampNeg z3) z153))) H := hP
    have hD : va_D A (mW h ad cl (sA τ152 16 (upd (τ152.2.1 16) (Int32.toNatClampNeg z3) z153))) := hD
    refine lv_aload_n hx hb dX12_readRow_129 rfl (lv_at hl 1 rfl) ?_
    refine va_get (D := (dC, dI)) (ci := 12) (v := .ref (ad 11)) (C := RX12) (T := TX12) (N := 59) hx hb hts hin12 hown hK hP 0 rfl rfl 11 (by decide) (ho (.fieldLink RX12 20 "NearEnoughModel" "rowMany" "[I") (List.mem_of_getElem? (i := 1) rfl)) (fun _ h9 => h9) rfl dX12_readRow_130 ?_
    refine lv_aload_n hx hb dX12_readRow_133 rfl (lv_at hl 1 rfl) ?_
    refine va_get (D := (dC, dI)) (ci := 12) (v := .int (τ152.1 30)) (C := RX12) (T := TX12) (N := 59) hx hb hts hin12 hown hK hP 0 rfl rfl 30 (by decide) (ho (.fieldLink RX12 243 "NearEnoughModel" "rb" "I") (List.mem_of_getElem? (i := 0) rfl)) (fun _ h9 => h9) rfl dX12_readRow_134 ?_
    refine zi (v := (σ.1 30)) (show τ152.1 30 = (σ.1 30) from ((hx155 30 (by decide)).1).trans (show τ142.1 30 = (σ.1 30) from ((hx145 30 (by decide)).1).trans (show τ130.1 30 = (σ.1 30) from ((hx133 30 (by decide)).1).trans (show τ121.1 30 = (σ.1 30) from ((hx124 30 (by decide)).1).trans (show τ109.1 30 = (σ.1 30) from ((hx112 30 (by decide)).1).trans (show τ100.1 30 = (σ.1 30) from ((hx103 30 (by decide)).1).trans (show τ90.1 30 = (σ.1 30) from ((hx93 30 (by decide)).1).trans (show τ4.1 30 = (σ.1 30) from ((hx7 30 (by decide)).1).trans rfl)))))))) ?_
    have bb161 : 0 ≤ (σ.1 30).toInt ∧ (σ.1 30).toInt ≤ 1 := by have h9 := hI154.1 30; rw [show (τ152.1 30) = (σ.1 30) from (show τ152.1 30 = (σ.1 30) from ((hx155 30 (by decide)).1).trans (show τ142.1 30 = (σ.1 30) from ((hx145 30 (by decide)).1).trans (show τ130.1 30 = (σ.1 30) from ((hx133 30 (by decide)).1).trans (show τ121.1 30 = (σ.1 30) from ((hx124 30 (by decide)).1).trans (show τ109.1 30 = (σ.1 30) from ((hx112 30 (by decide)).1).trans (show τ100.1 30 = (σ.1 30) from ((hx103 30 (by decide)).1).trans (show τ90.1 30 = (σ.1 30) from ((hx93 30 (by decide)).1).trans (show τ4.1 30 = (σ.1 30) from ((hx7 30 (by decide)).1).trans rfl))))))))] at h9; exact h9
    refine lv_dup2_11 hx hb dX12_readRow_137 rfl rfl ?_
    refine va_iald hx hb hK hP 3 2 rfl rfl (ti_in rfl (by omega) (by omega)) dX12_readRow_138 ?_
    refine lv_topi (fun z162 ez162 => ?_)
    have qq163 : z162.toInt = z2.toInt := congrArg Int32.toInt ((ez162.trans (congrFun ((tA (by decide)).trans (((hx155 11 (by decide)).2.1).trans (((hx145 11 (by decide)).2.1).trans ((tA (by decide)).trans (((hx133 11 (by decide)).2.1).trans (((hx124 11 (by decide)).2.1).trans ((tA (by decide)).trans (((hx112 11 (by decide)).2.1).trans (((hx103 11 (by decide)).2.1).trans (((hx93 11 (by decide)).2.1).trans (tJ.trans (((hx7 11 (by decide)).2.1).trans rfl)))))))))))) (Int32.toNatClampNeg (σ.1 30)))).trans ((ez2.trans (congrFun rfl (Int32.toNatClampNeg (σ.1 30))))).symm)
    have gz162 : z162.toInt = ((σ.2.1 11) (Int32.toNatClampNeg (σ.1 30))).toInt := congrArg Int32.toInt (ez162.trans (congrFun ((tA (by decide)).trans (((hx155 11 (by decide)).2.1).trans (((hx145 11 (by decide)).2.1).trans ((tA (by decide)).trans (((hx133 11 (by decide)).2.1).trans (((hx124 11 (by decide)).2.1).trans ((tA (by decide)).trans (((hx112 11 (by decide)).2.1).trans (((hx103 11 (by decide)).2.1).trans (((hx93 11 (by decide)).2.1).trans (tJ.trans (((hx7 11 (by decide)).2.1).trans rfl)))))))))))) (Int32.toNatClampNeg (σ.1 30))))
    have bz162 : 0 ≤ z162.toInt ∧ z162.toInt ≤ 2 := by rw [ez162]; exact (hI154.2 11) _ (by have := ti_cl (x := (σ.1 30)) rfl (by omega); show _ < 2; omega)
    refine lv_iconst (v := 1) hx hb dX12_readRow_139 (by decide) ?_
    refine lv_iadd hx hb dX12_readRow_140 ?_
    refine lv_topi (fun z164 ez164 => ?_)
    have tz164 : z164.toInt = z162.toInt + 1 := ti_add ez164 rfl (by decide) (by omega) (by omega)
    refine va_iast hx hb hK hP hD hS 3 2 rfl rfl (ti_in rfl (by omega) (by omega)) dX12_readRow_141 (fun H locs hP hD hS => ?_)
    have hP : va_P (dC, dI) vwCl (mW h ad cl (sA (sA τ152 16 (upd (τ152.2.1 16) (Int32.toNatClampNeg z3) z153)) 11 (upd (τ152.2.1 11) (Int32.toNatClampNeg (σ.1 30)) z164))) H := hP
    have hD : va_D A (mW h ad cl (sA (sA τ152 16 (upd (τ152.2.1 16) (Int32.toNatClampNeg z3) z153)) 11 (upd (τ152.2.1 11) (Int32.toNatClampNeg (σ.1 30)) z164))) := hD
    rw [hQ]
    have C11 : ((sA (sA τ152 16 (upd (τ152.2.1 16) (Int32.toNatClampNeg z3) z153)) 11 (upd (τ152.2.1 11) (Int32.toNatClampNeg (σ.1 30)) z164))).2.1 11 = (upd (σ.2.1 11) (Int32.toNatClampNeg (σ.1 30)) z164) := (tAe.trans (congrArg (fun f9 => (upd f9 (Int32.toNatClampNeg (σ.1 30)) z164)) (((hx155 11 (by decide)).2.1).trans (((hx145 11 (by decide)).2.1).trans ((tA (by decide)).trans (((hx133 11 (by decide)).2.1).trans (((hx124 11 (by decide)).2.1).trans ((tA (by decide)).trans (((hx112 11 (by decide)).2.1).trans (((hx103 11 (by decide)).2.1).trans (((hx93 11 (by decide)).2.1).trans (tJ.trans (((hx7 11 (by decide)).2.1).trans rfl)))))))))))))
    have C12 : ((sA (sA τ152 16 (upd (τ152.2.1 16) (Int32.toNatClampNeg z3) z153)) 11 (upd (τ152.2.1 11) (Int32.toNatClampNeg (σ.1 30)) z164))).2.1 12 = (σ.2.1 12) := ((tA (by decide)).trans ((tA (by decide)).trans (((hx155 12 (by decide)).2.1).trans (((hx145 12 (by decide)).2.1).trans ((tA (by decide)).trans (((hx133 12 (by decide)).2.1).trans (((hx124 12 (by decide)).2.1).trans ((tA (by decide)).trans (((hx112 12 (by decide)).2.1).trans (((hx103 12 (by decide)).2.1).trans (((hx93 12 (by decide)).2.1).trans (tJ.trans (((hx7 12 (by decide)).2.1).trans rfl)))))))))))))
    have C13 : ((sA (sA τ152 16 (upd (τ152.2.1 16) (Int32.toNatClampNeg z3) z153)) 11 (upd (τ152.2.1 11) (Int32.toNatClampNeg (σ.1 30)) z164))).2.1 13 = (σ.2.1 13) := ((tA (by decide)).trans ((tA (by decide)).trans (((hx155 13 (by decide)).2.1).trans (((hx145 13 (by decide)).2.1).trans ((tA (by decide)).trans (((hx133 13 (by decide)).2.1).trans (((hx124 13 (by decide)).2.1).trans ((tA (by decide)).trans (((hx112 13 (by decide)).2.1).trans (((hx103 13 (by decide)).2.1).trans (((hx93 13 (by decide)).2.1).trans (tJ.trans (((hx7 13 (by decide)).2.1).trans rfl)))))))))))))
    have C14 : ((sA (sA τ152 16 (upd (τ152.2.1 16) (Int32.toNatClampNeg z3) z153)) 11 (upd (τ152.2.1 11) (Int32.toNatClampNeg (σ.1 30)) z164))).2.1 14 = (upd (σ.2.1 14) (Int32.toNatClampNeg z3) z110) := ((tA (by decide)).trans ((tA (by decide)).trans (((hx155 14 (by decide)).2.1).trans (((hx145 14 (by decide)).2.1).trans ((tA (by decide)).trans (((hx133 14 (by decide)).2.1).trans (((hx124 14 (by decide)).2.1).trans (tAe.trans (congrArg (fun f9 => (upd f9 (Int32.toNatClampNeg z3) z110)) (((hx112 14 (by decide)).2.1).trans (((hx103 14 (by decide)).2.1).trans (((hx93 14 (by decide)).2.1).trans (tJ.trans (((hx7 14 (by decide)).2.1).trans rfl))))))))))))))
    have C15 : ((sA (sA τ152 16 (upd (τ152.2.1 16) (Int32.toNatClampNeg z3) z153)) 11 (upd (τ152.2.1 11) (Int32.toNatClampNeg (σ.1 30)) z164))).2.1 15 = (upd (σ.2.1 15) (Int32.toNatClampNeg z3) z131) := ((tA (by decide)).trans ((tA (by decide)).trans (((hx155 15 (by decide)).2.1).trans (((hx145 15 (by decide)).2.1).trans (tAe.trans (congrArg (fun f9 => (upd f9 (Int32.toNatClampNeg z3) z131)) (((hx133 15 (by decide)).2.1).trans (((hx124 15 (by decide)).2.1).trans ((tA (by decide)).trans (((hx112 15 (by decide)).2.1).trans (((hx103 15 (by decide)).2.1).trans (((hx93 15 (by decide)).2.1).trans (tJ.trans (((hx7 15 (by decide)).2.1).trans rfl))))))))))))))
    have C16 : ((sA (sA τ152 16 (upd (τ152.2.1 16) (Int32.toNatClampNeg z3) z153)) 11 (upd (τ152.2.1 11) (Int32.toNatClampNeg (σ.1 30)) z164))).2.1 16 = (upd (σ.2.1 16) (Int32.toNatClampNeg z3) z153) := ((tA (by decide)).trans (tAe.trans (congrArg (fun f9 => (upd f9 (Int32.toNatClampNeg z3) z153)) (((hx155 16 (by decide)).2.1).trans (((hx145 16 (by decide)).2.1).trans ((tA (by decide)).trans (((hx133 16 (by decide)).2.1).trans (((hx124 16 (by decide)).2.1).trans ((tA (by decide)).trans (((hx112 16 (by decide)).2.1).trans (((hx103 16 (by decide)).2.1).trans (((hx93 16 (by decide)).2.1).trans (tJ.trans (((hx7 16 (by decide)).2.1).trans rfl))))))))))))))
    have C17 : ((sA (sA τ152 16 (upd (τ152.2.1 16) (Int32.toNatClampNeg z3) z153)) 11 (upd (τ152.2.1 11) (Int32.toNatClampNeg (σ.1 30)) z164))).2.1 17 = (σ.2.1 17) := ((tA (by decide)).trans ((tA (by decide)).trans (((hx155 17 (by decide)).2.1).trans (((hx145 17 (by decide)).2.1).trans ((tA (by decide)).trans (((hx133 17 (by decide)).2.1).trans (((hx124 17 (by decide)).2.1).trans ((tA (by decide)).trans (((hx112 17 (by decide)).2.1).trans (((hx103 17 (by decide)).2.1).trans (((hx93 17 (by decide)).2.1).trans (tJ.trans (((hx7 17 (by decide)).2.1).trans rfl)))))))))))))
    have C18 : ((sA (sA τ152 16 (upd (τ152.2.1 16) (Int32.toNatClampNeg z3) z153)) 11 (upd (τ152.2.1 11) (Int32.toNatClampNeg (σ.1 30)) z164))).2.1 18 = (σ.2.1 18) := ((tA (by decide)).trans ((tA (by decide)).trans (((hx155 18 (by decide)).2.1).trans (((hx145 18 (by decide)).2.1).trans ((tA (by decide)).trans (((hx133 18 (by decide)).2.1).trans (((hx124 18 (by decide)).2.1).trans ((tA (by decide)).trans (((hx112 18 (by decide)).2.1).trans (((hx103 18 (by decide)).2.1).trans (((hx93 18 (by decide)).2.1).trans (tJ.trans (((hx7 18 (by decide)).2.1).trans rfl)))))))))))))
    have C19 : ((sA (sA τ152 16 (upd (τ152.2.1 16) (Int32.toNatClampNeg z3) z153)) 11 (upd (τ152.2.1 11) (Int32.toNatClampNeg (σ.1 30)) z164))).2.1 19 = (σ.2.1 19) := ((tA (by decide)).trans ((tA (by decide)).trans (((hx155 19 (by decide)).2.1).trans (((hx145 19 (by decide)).2.1).trans ((tA (by decide)).trans (((hx133 19 (by decide)).2.1).trans (((hx124 19 (by decide)).2.1).trans ((tA (by decide)).trans (((hx112 19 (by decide)).2.1).trans (((hx103 19 (by decide)).2.1).trans (((hx93 19 (by decide)).2.1).trans (tJ.trans (((hx7 19 (by decide)).2.1).trans rfl)))))))))))))
    have C20 : ((sA (sA τ152 16 (upd (τ152.2.1 16) (Int32.toNatClampNeg z3) z153)) 11 (upd (τ152.2.1 11) (Int32.toNatClampNeg (σ.1 30)) z164))).2.1 20 = (σ.2.1 20) := ((tA (by decide)).trans ((tA (by decide)).trans (((hx155 20 (by decide)).2.1).trans (((hx145 20 (by decide)).2.1).trans ((tA (by decide)).trans (((hx133 20 (by decide)).2.1).trans (((hx124 20 (by decide)).2.1).trans ((tA (by decide)).trans (((hx112 20 (by decide)).2.1).trans (((hx103 20 (by decide)).2.1).trans (((hx93 20 (by decide)).2.1).trans (tJ.trans (((hx7 20 (by decide)).2.1).trans rfl)))))))))))))
    have C21 : ((sA (sA τ152 16 (upd (τ152.2.1 16) (Int32.toNatClampNeg z3) z153)) 11 (upd (τ152.2.1 11) (Int32.toNatClampNeg (σ.1 30)) z164))).2.1 21 = (σ.2.1 21) := ((tA (by decide)).trans ((tA (by decide)).trans (((hx155 21 (by decide)).2.1).trans (((hx145 21 (by decide)).2.1).trans ((tA (by decide)).trans (((hx133 21 (by decide)).2.1).trans (((hx124 21 (by decide)).2.1).trans ((tA (by decide)).trans (((hx112 21 (by decide)).2.1).trans (((hx103 21 (by decide)).2.1).trans (((hx93 21 (by decide)).2.1).trans (tJ.trans (((hx7 21 (by decide)).2.1).trans rfl)))))))))))))
    have C22 : ((sA (sA τ152 16 (upd (τ152.2.1 16) (Int32.toNatClampNeg z3) z153)) 11 (upd (τ152.2.1 11) (Int32.toNatClampNeg (σ.1 30)) z164))).2.1 22 = (σ.2.1 22) := ((tA (by decide)).trans ((tA (by decide)).trans (((hx155 22 (by decide)).2.1).trans (((hx145 22 (by decide)).2.1).trans ((tA (by decide)).trans (((hx133 22 (by decide)).2.1).trans (((hx124 22 (by decide)).2.1).trans ((tA (by decide)).trans (((hx112 22 (by decide)).2.1).trans (((hx103 22 (by decide)).2.1).trans (((hx93 22 (by decide)).2.1).trans (tJ.trans (((hx7 22 (by decide)).2.1).trans rfl)))))))))))))
    have CS : ∀ p9, 17 ≤ p9 → p9 ≤ 22 → ((sA (sA τ152 16 (upd (τ152.2.1 16) (Int32.toNatClampNeg z3) z153)) 11 (upd (τ152.2.1 11) (Int32.toNatClampNeg (σ.1 30)) z164))).2.1 p9 = σ.2.1 p9 := fun p9 h1 h2 => by rcases (show p9 = 17 ∨ p9 = 18 ∨ p9 = 19 ∨ p9 = 20 ∨ p9 = 21 ∨ p9 = 22 by omega) with rfl | rfl | rfl | rfl | rfl | rfl <;> first | exact C17 | exact C18 | exact C19 | exact C20 | exact C21 | exact C22
    have RR := rel_row hI (by omega) ez2 (by omega) (by omega) (by omega) C11 C12 C13 C14 C15 C16 CS (by omega) (by omega) (by omega) (by omega)
    exact W.vret hx hb hr (fun t ht hW => ⟨⟨(sA (sA τ152 16 (upd (τ152.2.1 16) (Int32.toNatClampNeg z3) z153)) 11 (upd (τ152.2.1 11) (Int32.toNatClampNeg (σ.1 30)) z164)), rfl, ⟨(Inv_sA1 (Inv_sA1 hI154 (fun j _ => Inv.any _)) (rgu (hI154.2 11) (show (0 : Int) ≤ (z164 : Int32).toInt ∧ (z164 : Int32).toInt ≤ 2 by omega))), (eqx.sA (eqx.sA (eqx.tr hx155 (eqx.tr hx145 (eqx.sA (eqx.tr hx133 (eqx.tr hx124 (eqx.sA (eqx.tr hx112 (eqx.tr hx103 (eqx.tr hx93 (eqx.sJ (eqx.tr hx7 eqx.rf (by decide)) (by decide)) (by decide)) (by decide)) (by decide)) (by decide)) (by decide)) (by decide)) (by decide)) (by decide)) (by decide)) (by decide)) (by decide)), RR.1, RR.2, (Mo.tr mo158 (fun h9 => (Mo.tr mo146 (fun h9 => (Mo.tr mo136 (fun h9 => (Mo.tr mo125 (fun h9 => (Mo.tr mo115 (fun h9 => (Mo.tr mo104 (fun h9 => (Mo.tr mo94 (fun h9 => (Mo.tr mo8 (fun h9 => Mo.rf h9)) h9)) h9)) h9)) h9)) h9)) h9)) h9)), (show (σ.1 7).toInt ≤ (τ152.1 7).toInt ∧ (τ152.1 7).toInt ≤ (σ.1 3).toInt by omega)⟩, wEn_of hP (hK.sub [] rfl) hD ht hW⟩, hS.F ht⟩) hS.2.2 dX12_readRow_142
