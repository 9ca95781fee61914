
theorem rg_559 : ∀ q, q = 27 ∨ q = 28 → q ∉ [6, 7, 8, 9, 10, 4, 5] := by intro q h1 h; simp at h; omega
theorem rg_558 : ∀ q, q = 27 ∨ q = 28 → q ∉ [4, 5] := by intro q h1 h; simp at h; omega
def ow_n_readRowV : List Cond := [.fieldLink RX12 243 "NearEnoughModel" "rb" "I", .fieldLink RX12 20 "NearEnoughModel" "rowMany" "[I", .fieldLink RX12 63 "NearEnoughModel" "rName" "[J", .fieldLink RX12 206 "NearEnoughModel" "name" "J", .fieldLink RX12 199 "NearEnoughModel" "token" "I", .constantLong RX12 145 (6840691), .fieldLink RX12 30 "NearEnoughModel" "rHas" "[I", .constantLong RX12 147 (1718775661), .fieldLink RX12 33 "NearEnoughModel" "rLeast" "[I", .constantLong RX12 149 (29807), .fieldLink RX12 36 "NearEnoughModel" "rMost" "[I"]
def vs_n_readRowV : List Cond := .code yX12_readRow cX12_readRow 2 none :: (ow_n_readRowV ++ (([.methodLink RX12 288 yX12_fresh, .instanceMethod yX12_fresh, .selects RX12 yX12_fresh yX12_fresh, .initialized RX12] : List Cond) ++ (vs_n_fresh ++ (([.methodLink RX12 278 yX12_must, .instanceMethod yX12_must, .selects RX12 yX12_must yX12_must, .initialized RX12] : List Cond) ++ (vs_n_must ++ (([.methodLink RX12 261 yX12_isWord, .instanceMethod yX12_isWord, .selects RX12 yX12_isWord yX12_isWord, .initialized RX12] : List Cond) ++ (vs_n_isWord ++ (([.methodLink RX12 291 yX12_numeral, .instanceMethod yX12_numeral, .selects RX12 yX12_numeral yX12_numeral, .initialized RX12] : List Cond) ++ (vs_n_numeral ++ (([.methodLink RX12 295 yX12_signed, .instanceMethod yX12_signed, .selects RX12 yX12_signed yX12_signed, .initialized RX12] : List Cond) ++ (vs_n_signed ++ (wsX120))))))))))))
theorem vg_n_readRowV : vs_n_readRowV.all goodWord = true := by decide +kernel
theorem dd_n_readRowV : yX12_readRow.cls = RX12 ∧ yX12_readRow.cls ≠ "java/lang/invoke/MethodHandle" ∧ yX12_readRow.cls ≠ "java/lang/invoke/VarHandle" ∧ (parseMethodDescriptor yX12_readRow.desc).map (fun d => d.parameters.length) = some 0 := by decide +kernel
def rm_n_readRowV : Room := { frames := 3, cells := 0, slots := 0, locals := 69 }
theorem gd_n_readRowV_288_n_fresh : GoodIn vs_n_readRowV (wsV RX12 288 RX12 yX12_fresh vs_n_fresh) := goodIn_app (goodIn_sub (fun w h => (List.mem_cons_of_mem _ (List.mem_append_right _ (List.mem_append_left _ h)))) (by decide +kernel)) (goodIn_sub (fun w h => (List.mem_cons_of_mem _ (List.mem_append_right _ (List.mem_append_right _ (List.mem_append_left _ h))))) vg_n_fresh)
theorem gd_n_readRowV_278_n_must : GoodIn vs_n_readRowV (wsV RX12 278 RX12 yX12_must vs_n_must) := goodIn_app (goodIn_sub (fun w h => (List.mem_cons_of_mem _ (List.mem_append_right _ (List.mem_append_right _ (List.mem_append_right _ (List.mem_append_left _ h)))))) (by decide +kernel)) (goodIn_sub (fun w h => (List.mem_cons_of_mem _ (List.mem_append_right _ (List.mem_append_right _ (List.mem_append_right _ (List.mem_append_right _ (List.mem_append_left _ h))))))) vg_n_must)
theorem gd_n_readRowV_261_n_isWord : GoodIn vs_n_readRowV (wsV RX12 261 RX12 yX12_isWord vs_n_isWord) := goodIn_app (goodIn_sub (fun w h => (List.mem_cons_of_mem _ (List.mem_append_right _ (List.mem_append_right _ (List.mem_append_right _ (List.mem_append_right _ (List.mem_append_right _ (List.mem_append_left _ h)))))))) (by decide +kernel)) (goodIn_sub (fun w h => (List.mem_cons_of_mem _ (List.mem_append_right _ (List.mem_append_right _ (List.mem_append_right _ (List.mem_append_right _ (List.mem_append_right _ (List.mem_append_right _ (List.mem_append_left _ h))))))))) vg_n_isWord)
theorem gd_n_readRowV_291_n_numeral : GoodIn vs_n_readRowV (wsV RX12 291 RX12 yX12_numeral vs_n_numeral) := goodIn_app (goodIn_sub (fun w h => (List.mem_cons_of_mem _ (List.mem_append_right _ (List.mem_append_right _ (List.mem_append_right _ (List.mem_append_right _ (List.mem_append_right _ (List.mem_append_right _ (List.mem_append_right _ (List.mem_append_left _ h)))))))))) (by decide +kernel)) (goodIn_sub (fun w h => (List.mem_cons_of_mem _ (List.mem_append_right _ (List.mem_append_right _ (List.mem_append_right _ (List.mem_append_right _ (List.mem_append_right _ (List.mem_append_right _ (List.mem_append_right _ (List.mem_append_right _ (List.mem_append_left _ h))))))))))) vg_n_numeral)
theorem gd_n_readRowV_295_n_signed : GoodIn vs_n_readRowV (wsV RX12 295 RX12 yX12_signed vs_n_signed) := goodIn_app (goodIn_sub (fun w h => (List.mem_cons_of_mem _ (List.mem_append_right _ (List.mem_append_right _ (List.mem_append_right _ (List.mem_append_right _ (List.mem_append_right _ (List.mem_append_right _ (List.mem_append_right _ (List.mem_append_right _ (List.mem_append_right _ (List.mem_append_left _ h)))))))))))) (by decide +kernel)) (goodIn_sub (fun w h => (List.mem_cons_of_mem _ (List.mem_append_right _ (List.mem_append_right _ (List.mem_append_right _ (List.mem_append_right _ (List.mem_append_right _ (List.mem_append_right _ (List.mem_append_right _ (List.mem_append_right _ (List.mem_append_right _ (List.mem_append_right _ (List.mem_append_left _ h))))))))))))) vg_n_signed)
set_option maxHeartbeats 4000000 in
set_option maxRecDepth 100000 in
theorem n_readRowV (l : Launch) (dC : Nat → ClassId) (dI : Nat → Nat → Nat) (h : Nat) (ad : Nat → Nat) (cl : Nat → ClassId) (sz : Nat) (σ : MS)  (hI : Inv σ) (hrm : (σ.2.1 11 (σ.1 30).toNatClampNeg).toInt ≤ 1) (hes : Es σ) : Met l yX12_readRow vs_n_readRowV rm_n_readRowV (va_Pc [.ref h] (wSt dC dI (mW h ad cl σ) (mT cl) sz)) (va_Qv (fun (τ : MS) => Inv τ ∧ eqx [6, 7, 8, 9, 10, 4, 5, 25, 14, 15, 16, 11] τ σ ∧ (RelP σ (σ.1 30).toNatClampNeg → RelP τ (σ.1 30).toNatClampNeg) ∧ (∀ bk, bk < 2 → bk ≠ (σ.1 30).toNatClampNeg → SameB τ σ bk) ∧ (RelP σ (σ.1 30).toNatClampNeg → RelJ σ (σ.1 30).toNatClampNeg → RelJ τ (σ.1 30).toNatClampNeg) ∧ (∀ bk, bk < 2 → bk ≠ (σ.1 30).toNatClampNeg → SameJ τ σ bk) ∧ Mo τ σ ∧ Lx τ σ) (fun (τ : MS) => wEn dC dI (va_A (mW h ad cl σ) sz) (mW h ad cl τ) []) (va_A (mW h ad cl σ) sz)) 0 0 (va_A (mW h ad cl σ) sz) := by
  refine Met.ofW (cc := cX12_readRow) (maxL := 2) (ret := none) (by decide) rfl ?_
  intro p e s m args below meth c s₁ B hml hv
  obtain ⟨rfl, hsz, hP, hK, hD0, hE⟩ := hv
  have hx := B.exec
  have hb := B.bytes
  have hr := B.returns
  have hts := atoms_spec (ws := vs_n_readRowV) B.pre
  have hown : s.vm.findClass RX12 = some m.cls := findClass_of_methodNamed B.named
  have hlocks := B.notSynchronized
  subst hsz
  have hD := hD0.self (sz := s.heap.size)
  generalize hAe : va_A (mW h ad cl σ) s.heap.size = A at hD ⊢
  have hA : ∀ q : Nat, s.heap.size ≤ q → A q := fun q h => by rw [← hAe]; exact Or.inr h
  have hl := lv_entry ([.ref h]) (n := 2) (Nat.le_of_ble_eq_true rfl)
  rw [lg_entry_eq]
  generalize (lg_sl ([.ref h]) ++ List.replicate (2 - (lg_sl ([.ref h])).length) Slot.unset).toArray = ls at hl ⊢
  have hl : lv_has ls 2 [(0, .ref h)] := hl
  have ho := fun w (h : w ∈ ow_n_readRowV) => hts w (List.mem_cons_of_mem _ (List.mem_append_left _ h))
  have hin12 : ∀ w ∈ u_ws RX12 TX12 59, w ∈ vs_n_readRowV := fun w h => (List.mem_cons_of_mem _ (List.mem_append_right _ (List.mem_append_right _ (List.mem_append_right _ (List.mem_append_right _ (List.mem_append_right _ (List.mem_append_right _ (List.mem_append_right _ (List.mem_append_right _ (List.mem_append_right _ (List.mem_append_right _ (List.mem_append_right _ h))))))))))))
  refine zQ (fun Q hQ => ?_)
  refine zH (A := A) (ws := mW h ad cl σ) (fun H hP hS => ?_) hP
  have bσ_30 : 0 ≤ (σ.1 30).toInt ∧ (σ.1 30).toInt ≤ 1 := hI.1 30
  refine lv_iconst (v := 2) hx hb dX12_readRow_0 rg_19 ?_
  refine lv_aload_n hx hb dX12_readRow_1 rfl (lv_at hl 0 rfl) ?_
  refine va_get (D := (dC, dI)) (ci := 12) (v := .int (σ.1 30)) (C := RX12) (T := TX12) (N := 59) hx hb hts hin12 hown hK hP 0 rfl rfl 30 (Nat.le_of_ble_eq_true rfl) (ho (.fieldLink RX12 243 "NearEnoughModel" "rb" "I") (List.mem_of_getElem? (i := 0) rfl)) (fun _ h9 => h9) rfl dX12_readRow_2 ?_
  have bσ_30 : 0 ≤ (σ.1 30).toInt ∧ (σ.1 30).toInt ≤ 1 := hI.1 30
  refine lv_imul hx hb dX12_readRow_5 ?_
  refine lv_topi (fun z1 ez1 => ?_)
  have o1 : -2147483648 ≤ 2 * (σ.1 30).toInt := by omega
  have o2 : 2 * (σ.1 30).toInt ≤ 2147483647 := by omega
  have tz1 : z1.toInt = 2 * (σ.1 30).toInt := ti_mul ez1 rg_20 rfl o1 o2
  refine lv_aload_n hx hb dX12_readRow_6 rfl (lv_at hl 0 rfl) ?_
  refine va_get (D := (dC, dI)) (ci := 12) (v := .ref (ad 11)) (C := RX12) (T := TX12) (N := 59) hx hb hts hin12 hown hK hP 0 rfl rfl 11 (Nat.le_of_ble_eq_true rfl) (ho (.fieldLink RX12 20 "NearEnoughModel" "rowMany" "[I") (List.mem_of_getElem? (i := 1) rfl)) (fun _ h9 => h9) rfl dX12_readRow_7 ?_
  refine lv_aload_n hx hb dX12_readRow_10 rfl (lv_at hl 0 rfl) ?_
  refine va_get (D := (dC, dI)) (ci := 12) (v := .int (σ.1 30)) (C := RX12) (T := TX12) (N := 59) hx hb hts hin12 hown hK hP 0 rfl rfl 30 (Nat.le_of_ble_eq_true rfl) (ho (.fieldLink RX12 243 "NearEnoughModel" "rb" "I") (List.mem_of_getElem? (i := 0) rfl)) (fun _ h9 => h9) rfl dX12_readRow_11 ?_
  have bσ_30 : 0 ≤ (σ.1 30).toInt ∧ (σ.1 30).toInt ≤ 1 := hI.1 30
  have o3 : 0 ≤ (σ.1 30).toInt := by omega
  have o4 : (σ.1 30).toInt < ((2 : Nat) : Int) := by omega
  refine va_iald hx hb hK hP 3 2 rfl rfl (ti_inx o3 o4) dX12_readRow_14 ?_
  refine lv_topi (fun z2 ez2 => ?_)
  have gz2 : z2.toInt = ((σ.2.1 11) (Int32.toNatClampNeg (σ.1 30))).toInt := congrArg Int32.toInt (ez2.trans (congrFun rfl (Int32.toNatClampNeg (σ.1 30))))
  have bz2 : 0 ≤ z2.toInt ∧ z2.toInt ≤ 2 := by rw [ez2]; exact (hI.2 11) _ (cl_lt (n := 2) o3 o4)
  refine lv_iadd hx hb dX12_readRow_15 ?_
  refine lv_topi (fun z3 ez3 => ?_)
  have o5 : -2147483648 ≤ z1.toInt + z2.toInt := by omega
  have o6 : z1.toInt + z2.toInt ≤ 2147483647 := by omega
  have tz3 : z3.toInt = z1.toInt + z2.toInt := ti_add ez3 rfl rfl o5 o6
  refine lv_istore_n (lv' := [(1, .int z3), (0, .ref h)]) hx hb dX12_readRow_16 rfl hl (Nat.le_of_ble_eq_true rfl) rfl (fun ls hl => ?_)
  refine lv_aload_n hx hb dX12_readRow_17 rfl (lv_at hl 1 rfl) ?_
  refine zy_v (va_runV (As := []) (rest := []) ⟨hx, hb, hml, hown, hts⟩ (n_fresh l dC dI h ad cl H.size σ  hI) (cwV 0 hts gd_n_readRowV_288_n_fresh rfl rfl rfl dd_n_fresh ⟨Nat.le_of_ble_eq_true rfl, Nat.le_of_ble_eq_true rfl⟩) (preV hP hK hD hE (ci := 12) (q0 := 0) rfl rfl) rfl rfl hl.1 rfl (lv_room (Nat.le_of_ble_eq_true rfl)) dX12_readRow_18 ⟨Nat.le_of_ble_eq_true rfl, Nat.le_of_ble_eq_true rfl⟩) hD hS hA (fun τ4 H locs hq hP hD hS => ?_)
  obtain ⟨hI6, hx7, mo8⟩ := hq
  have Xτ4 : eqx [6, 7, 8, 9, 10, 4, 5, 25, 14, 15, 16, 11] τ4 σ := eqx.tr hx7 eqx.rf rg_90
  have Mτ4 : Mo τ4 σ := Mo.tr mo8 (fun h9 => Mo.rf h9)
  have Lτ4 : Lx τ4 σ := Lx.tr (Lx.of hx7 (Lx.es (Lx.rf hes)) rg_47 rg_48 rg_49) (Lx.rf hes)
  have qq9 : (τ4.1 30).toInt = ((σ.1 30) : Int32).toInt := congrArg Int32.toInt ((show τ4.1 30 = (σ.1 30) from ((hx7 30 rg_91).1).trans rfl))
  refine W.widen (k := 0) (n := 0) (Nat.le_of_ble_eq_true rfl) (Nat.le_of_ble_eq_true rfl) ?_
  refine lv_aload_n hx hb dX12_readRow_21 rfl (lv_at hl 1 rfl) ?_
  refine va_get (D := (dC, dI)) (ci := 12) (v := .ref (ad 25)) (C := RX12) (T := TX12) (N := 59) hx hb hts hin12 hown hK hP 0 rfl rfl 25 (Nat.le_of_ble_eq_true rfl) (ho (.fieldLink RX12 63 "NearEnoughModel" "rName" "[J") (List.mem_of_getElem? (i := 2) rfl)) (fun _ h9 => h9) rfl dX12_readRow_22 ?_
  refine lv_iload_n hx hb dX12_readRow_25 rfl (lv_at hl 0 rfl) ?_
  refine lv_aload_n hx hb dX12_readRow_26 rfl (lv_at hl 1 rfl) ?_
  refine va_get (D := (dC, dI)) (ci := 12) (v := .long (τ4.2.2.2 10)) (C := RX12) (T := TX12) (N := 59) hx hb hts hin12 hown hK hP 0 rfl rfl 10 (Nat.le_of_ble_eq_true rfl) (ho (.fieldLink RX12 206 "NearEnoughModel" "name" "J") (List.mem_of_getElem? (i := 3) rfl)) (fun _ h9 => h9) rfl dX12_readRow_27 ?_
  have o7 : 0 ≤ z3.toInt := by omega
  have o8 : z3.toInt < ((4 : Nat) : Int) := by omega
  refine va_last hx hb hK hP hD hS 17 16 rfl rfl (ti_inx o7 o8) dX12_readRow_30 (fun H locs hP hD hS => ?_)
  rw [wS25] at hP hD
  obtain ⟨τ10, eτ10⟩ : ∃ x9 : MS, x9 = sJ τ4 25 (vp_updL (τ4.2.2.1 25) (Int32.toNatClampNeg z3) (τ4.2.2.2 10)) := ⟨_, rfl⟩
  have hP : va_P (dC, dI) vwCl (mW h ad cl τ10) H := by rw [eτ10]; exact hP
  have hD : va_D A (mW h ad cl τ10) := by rw [eτ10]; exact hD
  have hIτ10 : Inv τ10 := by rw [eτ10]; exact (Inv.sJ hI6)
  have Xτ10 : eqx [6, 7, 8, 9, 10, 4, 5, 25, 14, 15, 16, 11] τ10 σ := (eqx.eq eτ10 (eqx.sJ Xτ4 rg_92))
  have Mτ10 : Mo τ10 σ := Mo.eq eτ10 (fun h9 => Mτ4 h9)
  have Lτ10 : Lx τ10 σ := Lx.eq eτ10 Lτ4
  have qq11 : (τ10.1 30).toInt = ((σ.1 30) : Int32).toInt := congrArg Int32.toInt ((show τ10.1 30 = (σ.1 30) from (congrArg (fun x9 : MS => x9.1 30) eτ10).trans (show τ4.1 30 = (σ.1 30) from ((hx7 30 rg_91).1).trans rfl)))
  refine lv_aload_n hx hb dX12_readRow_31 rfl (lv_at hl 1 rfl) ?_
  refine lv_aload_n hx hb dX12_readRow_32 rfl (lv_at hl 1 rfl) ?_
  refine va_get (D := (dC, dI)) (ci := 12) (v := .int (τ10.1 8)) (C := RX12) (T := TX12) (N := 59) hx hb hts hin12 hown hK hP 0 rfl rfl 8 (Nat.le_of_ble_eq_true rfl) (ho (.fieldLink RX12 199 "NearEnoughModel" "token" "I") (List.mem_of_getElem? (i := 4) rfl)) (fun _ h9 => h9) rfl dX12_readRow_33 ?_
  refine zi (v := (σ.1 8)) (show τ10.1 8 = (σ.1 8) from (congrArg (fun x9 : MS => x9.1 8) eτ10).trans (show τ4.1 8 = (σ.1 8) from ((hx7 8 rg_49).1).trans rfl)) ?_
  have bb12 : 0 ≤ (σ.1 8).toInt ∧ (σ.1 8).toInt ≤ 5 := by have h9 := hIτ10.1 8; rw [show (τ10.1 8) = (σ.1 8) from (show τ10.1 8 = (σ.1 8) from (congrArg (fun x9 : MS => x9.1 8) eτ10).trans (show τ4.1 8 = (σ.1 8) from ((hx7 8 rg_49).1).trans rfl))] at h9; exact h9
  refine lv_iconst (v := 2) hx hb dX12_readRow_36 rg_19 ?_
  refine lv_icmp_ne (tgt := 44) hx hb dX12_readRow_37 rfl (fun c13 => ?_) (fun c13 => ?_)
  · have tc13 := (show (σ.1 8).toInt ≠ 2 from ti_ne rfl rg_20 c13)
    refine lv_iconst (v := 0) hx hb dX12_readRow_44 rg_0 ?_
    have kk14 : (0 : Int32).toInt = 0 := rg_11
    refine zy_v (va_runV (As := [.int 0]) (rest := []) ⟨hx, hb, hml, hown, hts⟩ (n_must l dC dI h ad cl H.size τ10 0 hIτ10 (Lx.es Lτ10)) (cwV 1 hts gd_n_readRowV_278_n_must rfl rfl rfl dd_n_must ⟨Nat.le_of_ble_eq_true rfl, Nat.le_of_ble_eq_true rfl⟩) (preV hP hK hD hE (ci := 12) (q0 := 0) rfl rfl) rfl rfl hl.1 rfl (lv_room (Nat.le_of_ble_eq_true rfl)) dX12_readRow_45 ⟨Nat.le_of_ble_eq_true rfl, Nat.le_of_ble_eq_true rfl⟩) hD hS hA (fun τ15 H locs hq hP hD hS => ?_)
    obtain ⟨hI17, hx18, mo19, lx20⟩ := hq
    have Xτ15 : eqx [6, 7, 8, 9, 10, 4, 5, 25, 14, 15, 16, 11] τ15 σ := eqx.tr hx18 Xτ10 rg_93
    have Mτ15 : Mo τ15 σ := Mo.tr mo19 (fun h9 => Mτ10 h9)
    have Lτ15 : Lx τ15 σ := Lx.tr lx20 Lτ10
    have qq21 : (τ15.1 30).toInt = ((σ.1 30) : Int32).toInt := congrArg Int32.toInt ((show τ15.1 30 = (σ.1 30) from ((hx18 30 rg_94).1).trans (show τ10.1 30 = (σ.1 30) from (congrArg (fun x9 : MS => x9.1 30) eτ10).trans (show τ4.1 30 = (σ.1 30) from ((hx7 30 rg_91).1).trans rfl))))
    refine W.widen (k := 0) (n := 0) (Nat.le_of_ble_eq_true rfl) (Nat.le_of_ble_eq_true rfl) ?_
    refine lv_aload_n hx hb dX12_readRow_48 rfl (lv_at hl 1 rfl) ?_
    refine lv_aload_n hx hb dX12_readRow_49 rfl (lv_at hl 1 rfl) ?_
    refine lv_ldc2 (v := (6840691)) hx hb hown (ho (.constantLong RX12 145 (6840691)) (List.mem_of_getElem? (i := 5) rfl)) dX12_readRow_50 ?_
    refine zy_i (va_runV (As := [.long 6840691]) (rest := [.ref h]) ⟨hx, hb, hml, hown, hts⟩ (n_isWord l dC dI h ad cl H.size τ15 6840691 hI17) (cwV 1 hts gd_n_readRowV_261_n_isWord rfl rfl rfl dd_n_isWord ⟨Nat.le_of_ble_eq_true rfl, Nat.le_of_ble_eq_true rfl⟩) (preV hP hK hD hE (ci := 12) (q0 := 0) rfl rfl) rfl rfl hl.1 rfl (lv_room (Nat.le_of_ble_eq_true rfl)) dX12_readRow_53 ⟨Nat.le_of_ble_eq_true rfl, Nat.le_of_ble_eq_true rfl⟩) hD hS hA (fun z23 τ22 H locs hq hP hD hS => ?_)
    obtain ⟨rfl, f24⟩ := hq
    refine W.widen (k := 0) (n := 0) (Nat.le_of_ble_eq_true rfl) (Nat.le_of_ble_eq_true rfl) ?_
    refine zy_v (va_runV (As := [.int z23]) (rest := []) ⟨hx, hb, hml, hown, hts⟩ (n_must l dC dI h ad cl H.size τ15 z23 hI17 (Lx.es Lτ15)) (cwV 1 hts gd_n_readRowV_278_n_must rfl rfl rfl dd_n_must ⟨Nat.le_of_ble_eq_true rfl, Nat.le_of_ble_eq_true rfl⟩) (preV hP hK hD hE (ci := 12) (q0 := 0) rfl rfl) rfl rfl hl.1 rfl (lv_room (Nat.le_of_ble_eq_true rfl)) dX12_readRow_56 ⟨Nat.le_of_ble_eq_true rfl, Nat.le_of_ble_eq_true rfl⟩) hD hS hA (fun τ25 H locs hq hP hD hS => ?_)
    obtain ⟨hI27, hx28, mo29, lx30⟩ := hq
    have Xτ25 : eqx [6, 7, 8, 9, 10, 4, 5, 25, 14, 15, 16, 11] τ25 σ := eqx.tr hx28 Xτ15 rg_93
    have Mτ25 : Mo τ25 σ := Mo.tr mo29 (fun h9 => Mτ15 h9)
    have Lτ25 : Lx τ25 σ := Lx.tr lx30 Lτ15
    have qq31 : (τ25.1 30).toInt = ((σ.1 30) : Int32).toInt := congrArg Int32.toInt ((show τ25.1 30 = (σ.1 30) from ((hx28 30 rg_94).1).trans (show τ15.1 30 = (σ.1 30) from ((hx18 30 rg_94).1).trans (show τ10.1 30 = (σ.1 30) from (congrArg (fun x9 : MS => x9.1 30) eτ10).trans (show τ4.1 30 = (σ.1 30) from ((hx7 30 rg_91).1).trans rfl)))))
    refine W.widen (k := 0) (n := 0) (Nat.le_of_ble_eq_true rfl) (Nat.le_of_ble_eq_true rfl) ?_
    refine lv_aload_n hx hb dX12_readRow_59 rfl (lv_at hl 1 rfl) ?_
    refine va_get (D := (dC, dI)) (ci := 12) (v := .ref (ad 14)) (C := RX12) (T := TX12) (N := 59) hx hb hts hin12 hown hK hP 0 rfl rfl 14 (Nat.le_of_ble_eq_true rfl) (ho (.fieldLink RX12 30 "NearEnoughModel" "rHas" "[I") (List.mem_of_getElem? (i := 6) rfl)) (fun _ h9 => h9) rfl dX12_readRow_60 ?_
    refine lv_iload_n hx hb dX12_readRow_63 rfl (lv_at hl 0 rfl) ?_
    refine lv_aload_n hx hb dX12_readRow_64 rfl (lv_at hl 1 rfl) ?_
    refine lv_iconst (v := 1) hx hb dX12_readRow_65 rg_6 ?_
    refine lv_bipush (v := 6) hx hb dX12_readRow_66 rg_55 ?_
    have kk32 : (1 : Int32).toInt = 1 := rg_18
    have kk33 : (6 : Int32).toInt = 6 := rg_70
    refine zy_i (va_runV (As := [.int 1, .int 6]) (rest := [.int z3, .ref (ad 14)]) ⟨hx, hb, hml, hown, hts⟩ (n_numeral l dC dI h ad cl H.size τ25 1 6 hI27 (by decide) (Lx.es Lτ25)) (cwV 2 hts gd_n_readRowV_291_n_numeral rfl rfl rfl dd_n_numeral ⟨Nat.le_of_ble_eq_true rfl, Nat.le_of_ble_eq_true rfl⟩) (preV hP hK hD hE (ci := 12) (q0 := 0) rfl rfl) rfl rfl hl.1 rfl (lv_room (Nat.le_of_ble_eq_true rfl)) dX12_readRow_68 ⟨Nat.le_of_ble_eq_true rfl, Nat.le_of_ble_eq_true rfl⟩) hD hS hA (fun z35 τ34 H locs hq hP hD hS => ?_)
    obtain ⟨hI36, hx37, f38, f39, mo40, lx41⟩ := hq
    have Xτ34 : eqx [6, 7, 8, 9, 10, 4, 5, 25, 14, 15, 16, 11] τ34 σ := eqx.tr hx37 Xτ25 rg_93
    have Mτ34 : Mo τ34 σ := Mo.tr mo40 (fun h9 => Mτ25 h9)
    have Lτ34 : Lx τ34 σ := Lx.tr lx41 Lτ25
    have qq42 : (τ34.1 30).toInt = ((σ.1 30) : Int32).toInt := congrArg Int32.toInt ((show τ34.1 30 = (σ.1 30) from ((hx37 30 rg_94).1).trans (show τ25.1 30 = (σ.1 30) from ((hx28 30 rg_94).1).trans (show τ15.1 30 = (σ.1 30) from ((hx18 30 rg_94).1).trans (show τ10.1 30 = (σ.1 30) from (congrArg (fun x9 : MS => x9.1 30) eτ10).trans (show τ4.1 30 = (σ.1 30) from ((hx7 30 rg_91).1).trans rfl))))))
    refine W.widen (k := 0) (n := 0) (Nat.le_of_ble_eq_true rfl) (Nat.le_of_ble_eq_true rfl) ?_
    refine va_iast hx hb hK hP hD hS 6 5 rfl rfl (ti_inx o7 o8) dX12_readRow_71 (fun H locs hP hD hS => ?_)
    rw [wS14] at hP hD
    obtain ⟨τ43, eτ43⟩ : ∃ x9 : MS, x9 = sA τ34 14 (upd (τ34.2.1 14) (Int32.toNatClampNeg z3) z35) := ⟨_, rfl⟩
    have hP : va_P (dC, dI) vwCl (mW h ad cl τ43) H := by rw [eτ43]; exact hP
    have hD : va_D A (mW h ad cl τ43) := by rw [eτ43]; exact hD
    have o9 : (0 : Int) ≤ (z35 : Int32).toInt := by omega
    have o10 : (z35 : Int32).toInt ≤ 6 := by omega
    have hIτ43 : Inv τ43 := by rw [eτ43]; exact (Inv_sA1 hI36 (rgu (hI36.2 14) (show (0 : Int) ≤ (z35 : Int32).toInt ∧ (z35 : Int32).toInt ≤ 6 from ⟨o9, o10⟩)))
    have Xτ43 : eqx [6, 7, 8, 9, 10, 4, 5, 25, 14, 15, 16, 11] τ43 σ := (eqx.eq eτ43 (eqx.sA Xτ34 rg_95))
    have Mτ43 : Mo τ43 σ := Mo.eq eτ43 (fun h9 => Mτ34 h9)
    have Lτ43 : Lx τ43 σ := Lx.eq eτ43 Lτ34
    have qq44 : (τ43.1 30).toInt = ((σ.1 30) : Int32).toInt := congrArg Int32.toInt ((show τ43.1 30 = (σ.1 30) from (congrArg (fun x9 : MS => x9.1 30) eτ43).trans (show τ34.1 30 = (σ.1 30) from ((hx37 30 rg_94).1).trans (show τ25.1 30 = (σ.1 30) from ((hx28 30 rg_94).1).trans (show τ15.1 30 = (σ.1 30) from ((hx18 30 rg_94).1).trans (show τ10.1 30 = (σ.1 30) from (congrArg (fun x9 : MS => x9.1 30) eτ10).trans (show τ4.1 30 = (σ.1 30) from ((hx7 30 rg_91).1).trans rfl)))))))
    refine lv_aload_n hx hb dX12_readRow_72 rfl (lv_at hl 1 rfl) ?_
    refine lv_aload_n hx hb dX12_readRow_73 rfl (lv_at hl 1 rfl) ?_
    refine lv_ldc2 (v := (1718775661)) hx hb hown (ho (.constantLong RX12 147 (1718775661)) (List.mem_of_getElem? (i := 7) rfl)) dX12_readRow_74 ?_
    refine zy_i (va_runV (As := [.long 1718775661]) (rest := [.ref h]) ⟨hx, hb, hml, hown, hts⟩ (n_isWord l dC dI h ad cl H.size τ43 1718775661 hIτ43) (cwV 1 hts gd_n_readRowV_261_n_isWord rfl rfl rfl dd_n_isWord ⟨Nat.le_of_ble_eq_true rfl, Nat.le_of_ble_eq_true rfl⟩) (preV hP hK hD hE (ci := 12) (q0 := 0) rfl rfl) rfl rfl hl.1 rfl (lv_room (Nat.le_of_ble_eq_true rfl)) dX12_readRow_77 ⟨Nat.le_of_ble_eq_true rfl, Nat.le_of_ble_eq_true rfl⟩) hD hS hA (fun z46 τ45 H locs hq hP hD hS => ?_)
    obtain ⟨rfl, f47⟩ := hq
    refine W.widen (k := 0) (n := 0) (Nat.le_of_ble_eq_true rfl) (Nat.le_of_ble_eq_true rfl) ?_
    refine zy_v (va_runV (As := [.int z46]) (rest := []) ⟨hx, hb, hml, hown, hts⟩ (n_must l dC dI h ad cl H.size τ43 z46 hIτ43 (Lx.es Lτ43)) (cwV 1 hts gd_n_readRowV_278_n_must rfl rfl rfl dd_n_must ⟨Nat.le_of_ble_eq_true rfl, Nat.le_of_ble_eq_true rfl⟩) (preV hP hK hD hE (ci := 12) (q0 := 0) rfl rfl) rfl rfl hl.1 rfl (lv_room (Nat.le_of_ble_eq_true rfl)) dX12_readRow_80 ⟨Nat.le_of_ble_eq_true rfl, Nat.le_of_ble_eq_true rfl⟩) hD hS hA (fun τ48 H locs hq hP hD hS => ?_)
    obtain ⟨hI50, hx51, mo52, lx53⟩ := hq
    have Xτ48 : eqx [6, 7, 8, 9, 10, 4, 5, 25, 14, 15, 16, 11] τ48 σ := eqx.tr hx51 Xτ43 rg_93
    have Mτ48 : Mo τ48 σ := Mo.tr mo52 (fun h9 => Mτ43 h9)
    have Lτ48 : Lx τ48 σ := Lx.tr lx53 Lτ43
    have qq54 : (τ48.1 30).toInt = ((σ.1 30) : Int32).toInt := congrArg Int32.toInt ((show τ48.1 30 = (σ.1 30) from ((hx51 30 rg_94).1).trans (show τ43.1 30 = (σ.1 30) from (congrArg (fun x9 : MS => x9.1 30) eτ43).trans (show τ34.1 30 = (σ.1 30) from ((hx37 30 rg_94).1).trans (show τ25.1 30 = (σ.1 30) from ((hx28 30 rg_94).1).trans (show τ15.1 30 = (σ.1 30) from ((hx18 30 rg_94).1).trans (show τ10.1 30 = (σ.1 30) from (congrArg (fun x9 : MS => x9.1 30) eτ10).trans (show τ4.1 30 = (σ.1 30) from ((hx7 30 rg_91).1).trans rfl))))))))
    refine W.widen (k := 0) (n := 0) (Nat.le_of_ble_eq_true rfl) (Nat.le_of_ble_eq_true rfl) ?_
    refine lv_aload_n hx hb dX12_readRow_83 rfl (lv_at hl 1 rfl) ?_
    refine va_get (D := (dC, dI)) (ci := 12) (v := .ref (ad 15)) (C := RX12) (T := TX12) (N := 59) hx hb hts hin12 hown hK hP 0 rfl rfl 15 (Nat.le_of_ble_eq_true rfl) (ho (.fieldLink RX12 33 "NearEnoughModel" "rLeast" "[I") (List.mem_of_getElem? (i := 8) rfl)) (fun _ h9 => h9) rfl dX12_readRow_84 ?_
    refine lv_iload_n hx hb dX12_readRow_87 rfl (lv_at hl 0 rfl) ?_
    refine lv_aload_n hx hb dX12_readRow_88 rfl (lv_at hl 1 rfl) ?_
    refine lv_sipush (v := (-999)) hx hb dX12_readRow_89 rg_96 ?_
    refine lv_sipush (v := 999) hx hb dX12_readRow_92 rg_80 ?_
    have kk55 : ((-999) : Int32).toInt = (-999) := rg_97
    have kk56 : (999 : Int32).toInt = 999 := rg_81
    refine zy_i (va_runV (As := [.int (-999), .int 999]) (rest := [.int z3, .ref (ad 15)]) ⟨hx, hb, hml, hown, hts⟩ (n_signed l dC dI h ad cl H.size τ48 (-999) 999 hI50 (by decide) (Lx.es Lτ48)) (cwV 2 hts gd_n_readRowV_295_n_signed rfl rfl rfl dd_n_signed ⟨Nat.le_of_ble_eq_true rfl, Nat.le_of_ble_eq_true rfl⟩) (preV hP hK hD hE (ci := 12) (q0 := 0) rfl rfl) rfl rfl hl.1 rfl (lv_room (Nat.le_of_ble_eq_true rfl)) dX12_readRow_95 ⟨Nat.le_of_ble_eq_true rfl, Nat.le_of_ble_eq_true rfl⟩) hD hS hA (fun z58 τ57 H locs hq hP hD hS => ?_)
    obtain ⟨hI59, hx60, f61, f62, mo63, lx64⟩ := hq
    have Xτ57 : eqx [6, 7, 8, 9, 10, 4, 5, 25, 14, 15, 16, 11] τ57 σ := eqx.tr hx60 Xτ48 rg_93
    have Mτ57 : Mo τ57 σ := Mo.tr mo63 (fun h9 => Mτ48 h9)
    have Lτ57 : Lx τ57 σ := Lx.tr lx64 Lτ48
    have qq65 : (τ57.1 30).toInt = ((σ.1 30) : Int32).toInt := congrArg Int32.toInt ((show τ57.1 30 = (σ.1 30) from ((hx60 30 rg_94).1).trans (show τ48.1 30 = (σ.1 30) from ((hx51 30 rg_94).1).trans (show τ43.1 30 = (σ.1 30) from (congrArg (fun x9 : MS => x9.1 30) eτ43).trans (show τ34.1 30 = (σ.1 30) from ((hx37 30 rg_94).1).trans (show τ25.1 30 = (σ.1 30) from ((hx28 30 rg_94).1).trans (show τ15.1 30 = (σ.1 30) from ((hx18 30 rg_94).1).trans (show τ10.1 30 = (σ.1 30) from (congrArg (fun x9 : MS => x9.1 30) eτ10).trans (show τ4.1 30 = (σ.1 30) from ((hx7 30 rg_91).1).trans rfl)))))))))
    refine W.widen (k := 0) (n := 0) (Nat.le_of_ble_eq_true rfl) (Nat.le_of_ble_eq_true rfl) ?_
    refine va_iast hx hb hK hP hD hS 7 6 rfl rfl (ti_inx o7 o8) dX12_readRow_98 (fun H locs hP hD hS => ?_)
    rw [wS15] at hP hD
    obtain ⟨τ66, eτ66⟩ : ∃ x9 : MS, x9 = sA τ57 15 (upd (τ57.2.1 15) (Int32.toNatClampNeg z3) z58) := ⟨_, rfl⟩
    have hP : va_P (dC, dI) vwCl (mW h ad cl τ66) H := by rw [eτ66]; exact hP
    have hD : va_D A (mW h ad cl τ66) := by rw [eτ66]; exact hD
    have hIτ66 : Inv τ66 := by rw [eτ66]; exact (Inv_sA1 hI59 (fun j _ => Inv.any _))
    have Xτ66 : eqx [6, 7, 8, 9, 10, 4, 5, 25, 14, 15, 16, 11] τ66 σ := (eqx.eq eτ66 (eqx.sA Xτ57 rg_98))
    have Mτ66 : Mo τ66 σ := Mo.eq eτ66 (fun h9 => Mτ57 h9)
    have Lτ66 : Lx τ66 σ := Lx.eq eτ66 Lτ57
    have qq67 : (τ66.1 30).toInt = ((σ.1 30) : Int32).toInt := congrArg Int32.toInt ((show τ66.1 30 = (σ.1 30) from (congrArg (fun x9 : MS => x9.1 30) eτ66).trans (show τ57.1 30 = (σ.1 30) from ((hx60 30 rg_94).1).trans (show τ48.1 30 = (σ.1 30) from ((hx51 30 rg_94).1).trans (show τ43.1 30 = (σ.1 30) from (congrArg (fun x9 : MS => x9.1 30) eτ43).trans (show τ34.1 30 = (σ.1 30) from ((hx37 30 rg_94).1).trans (show τ25.1 30 = (σ.1 30) from ((hx28 30 rg_94).1).trans (show τ15.1 30 = (σ.1 30) from ((hx18 30 rg_94).1).trans (show τ10.1 30 = (σ.1 30) from (congrArg (fun x9 : MS => x9.1 30) eτ10).trans (show τ4.1 30 = (σ.1 30) from ((hx7 30 rg_91).1).trans rfl))))))))))
    refine lv_aload_n hx hb dX12_readRow_99 rfl (lv_at hl 1 rfl) ?_
    refine lv_aload_n hx hb dX12_readRow_100 rfl (lv_at hl 1 rfl) ?_
    refine lv_ldc2 (v := (29807)) hx hb hown (ho (.constantLong RX12 149 (29807)) (List.mem_of_getElem? (i := 9) rfl)) dX12_readRow_101 ?_
    refine zy_i (va_runV (As := [.long 29807]) (rest := [.ref h]) ⟨hx, hb, hml, hown, hts⟩ (n_isWord l dC dI h ad cl H.size τ66 29807 hIτ66) (cwV 1 hts gd_n_readRowV_261_n_isWord rfl rfl rfl dd_n_isWord ⟨Nat.le_of_ble_eq_true rfl, Nat.le_of_ble_eq_true rfl⟩) (preV hP hK hD hE (ci := 12) (q0 := 0) rfl rfl) rfl rfl hl.1 rfl (lv_room (Nat.le_of_ble_eq_true rfl)) dX12_readRow_104 ⟨Nat.le_of_ble_eq_true rfl, Nat.le_of_ble_eq_true rfl⟩) hD hS hA (fun z69 τ68 H locs hq hP hD hS => ?_)
    obtain ⟨rfl, f70⟩ := hq
    refine W.widen (k := 0) (n := 0) (Nat.le_of_ble_eq_true rfl) (Nat.le_of_ble_eq_true rfl) ?_
    refine zy_v (va_runV (As := [.int z69]) (rest := []) ⟨hx, hb, hml, hown, hts⟩ (n_must l dC dI h ad cl H.size τ66 z69 hIτ66 (Lx.es Lτ66)) (cwV 1 hts gd_n_readRowV_278_n_must rfl rfl rfl dd_n_must ⟨Nat.le_of_ble_eq_true rfl, Nat.le_of_ble_eq_true rfl⟩) (preV hP hK hD hE (ci := 12) (q0 := 0) rfl rfl) rfl rfl hl.1 rfl (lv_room (Nat.le_of_ble_eq_true rfl)) dX12_readRow_107 ⟨Nat.le_of_ble_eq_true rfl, Nat.le_of_ble_eq_true rfl⟩) hD hS hA (fun τ71 H locs hq hP hD hS => ?_)
    obtain ⟨hI73, hx74, mo75, lx76⟩ := hq
    have Xτ71 : eqx [6, 7, 8, 9, 10, 4, 5, 25, 14, 15, 16, 11] τ71 σ := eqx.tr hx74 Xτ66 rg_93
    have Mτ71 : Mo τ71 σ := Mo.tr mo75 (fun h9 => Mτ66 h9)
    have Lτ71 : Lx τ71 σ := Lx.tr lx76 Lτ66
    have qq77 : (τ71.1 30).toInt = ((σ.1 30) : Int32).toInt := congrArg Int32.toInt ((show τ71.1 30 = (σ.1 30) from ((hx74 30 rg_94).1).trans (show τ66.1 30 = (σ.1 30) from (congrArg (fun x9 : MS => x9.1 30) eτ66).trans (show τ57.1 30 = (σ.1 30) from ((hx60 30 rg_94).1).trans (show τ48.1 30 = (σ.1 30) from ((hx51 30 rg_94).1).trans (show τ43.1 30 = (σ.1 30) from (congrArg (fun x9 : MS => x9.1 30) eτ43).trans (show τ34.1 30 = (σ.1 30) from ((hx37 30 rg_94).1).trans (show τ25.1 30 = (σ.1 30) from ((hx28 30 rg_94).1).trans (show τ15.1 30 = (σ.1 30) from ((hx18 30 rg_94).1).trans (show τ10.1 30 = (σ.1 30) from (congrArg (fun x9 : MS => x9.1 30) eτ10).trans (show τ4.1 30 = (σ.1 30) from ((hx7 30 rg_91).1).trans rfl)))))))))))
    refine W.widen (k := 0) (n := 0) (Nat.le_of_ble_eq_true rfl) (Nat.le_of_ble_eq_true rfl) ?_
    refine lv_aload_n hx hb dX12_readRow_110 rfl (lv_at hl 1 rfl) ?_
    refine va_get (D := (dC, dI)) (ci := 12) (v := .ref (ad 16)) (C := RX12) (T := TX12) (N := 59) hx hb hts hin12 hown hK hP 0 rfl rfl 16 (Nat.le_of_ble_eq_true rfl) (ho (.fieldLink RX12 36 "NearEnoughModel" "rMost" "[I") (List.mem_of_getElem? (i := 10) rfl)) (fun _ h9 => h9) rfl dX12_readRow_111 ?_
    refine lv_iload_n hx hb dX12_readRow_114 rfl (lv_at hl 0 rfl) ?_
    refine lv_aload_n hx hb dX12_readRow_115 rfl (lv_at hl 1 rfl) ?_
    refine lv_aload_n hx hb dX12_readRow_116 rfl (lv_at hl 1 rfl) ?_
    refine va_get (D := (dC, dI)) (ci := 12) (v := .ref (ad 15)) (C := RX12) (T := TX12) (N := 59) hx hb hts hin12 hown hK hP 0 rfl rfl 15 (Nat.le_of_ble_eq_true rfl) (ho (.fieldLink RX12 33 "NearEnoughModel" "rLeast" "[I") (List.mem_of_getElem? (i := 8) rfl)) (fun _ h9 => h9) rfl dX12_readRow_117 ?_
    refine lv_iload_n hx hb dX12_readRow_120 rfl (lv_at hl 0 rfl) ?_
    refine va_iald hx hb hK hP 7 6 rfl rfl (ti_inx o7 o8) dX12_readRow_121 ?_
    refine lv_topi (fun z78 ez78 => ?_)
    have qq79 : z78.toInt = (z58 : Int32).toInt := congrArg Int32.toInt ((ez78.trans (congrFun (((hx74 15 rg_100).2.1).trans ((congrArg (fun x9 : MS => x9.2.1 15) eτ66).trans (tAe.trans (congrArg (fun f9 => (upd f9 (Int32.toNatClampNeg z3) z58)) (((hx60 15 rg_100).2.1).trans (((hx51 15 rg_100).2.1).trans ((congrArg (fun x9 : MS => x9.2.1 15) eτ43).trans ((tA rg_101).trans (((hx37 15 rg_100).2.1).trans (((hx28 15 rg_100).2.1).trans (((hx18 15 rg_100).2.1).trans ((congrArg (fun x9 : MS => x9.2.1 15) eτ10).trans (tJ.trans (((hx7 15 rg_99).2.1).trans rfl)))))))))))))) (Int32.toNatClampNeg z3))).trans pk_us)
    refine lv_sipush (v := 999) hx hb dX12_readRow_122 rg_80 ?_
    have kk80 : (999 : Int32).toInt = 999 := rg_81
    have o11 : z78.toInt ≤ (999 : Int32).toInt := by omega
    refine zy_i (va_runV (As := [.int z78, .int 999]) (rest := [.int z3, .ref (ad 16)]) ⟨hx, hb, hml, hown, hts⟩ (n_signed l dC dI h ad cl H.size τ71 z78 999 hI73 o11 (Lx.es Lτ71)) (cwV 2 hts gd_n_readRowV_295_n_signed rfl rfl rfl dd_n_signed ⟨Nat.le_of_ble_eq_true rfl, Nat.le_of_ble_eq_true rfl⟩) (preV hP hK hD hE (ci := 12) (q0 := 0) rfl rfl) rfl rfl hl.1 rfl (lv_room (Nat.le_of_ble_eq_true rfl)) dX12_readRow_125 ⟨Nat.le_of_ble_eq_true rfl, Nat.le_of_ble_eq_true rfl⟩) hD hS hA (fun z82 τ81 H locs hq hP hD hS => ?_)
    obtain ⟨hI83, hx84, f85, f86, mo87, lx88⟩ := hq
    have Xτ81 : eqx [6, 7, 8, 9, 10, 4, 5, 25, 14, 15, 16, 11] τ81 σ := eqx.tr hx84 Xτ71 rg_93
    have Mτ81 : Mo τ81 σ := Mo.tr mo87 (fun h9 => Mτ71 h9)
    have Lτ81 : Lx τ81 σ := Lx.tr lx88 Lτ71
    have qq89 : (τ81.1 30).toInt = ((σ.1 30) : Int32).toInt := congrArg Int32.toInt ((show τ81.1 30 = (σ.1 30) from ((hx84 30 rg_94).1).trans (show τ71.1 30 = (σ.1 30) from ((hx74 30 rg_94).1).trans (show τ66.1 30 = (σ.1 30) from (congrArg (fun x9 : MS => x9.1 30) eτ66).trans (show τ57.1 30 = (σ.1 30) from ((hx60 30 rg_94).1).trans (show τ48.1 30 = (σ.1 30) from ((hx51 30 rg_94).1).trans (show τ43.1 30 = (σ.1 30) from (congrArg (fun x9 : MS => x9.1 30) eτ43).trans (show τ34.1 30 = (σ.1 30) from ((hx37 30 rg_94).1).trans (show τ25.1 30 = (σ.1 30) from ((hx28 30 rg_94).1).trans (show τ15.1 30 = (σ.1 30) from ((hx18 30 rg_94).1).trans (show τ10.1 30 = (σ.1 30) from (congrArg (fun x9 : MS => x9.1 30) eτ10).trans (show τ4.1 30 = (σ.1 30) from ((hx7 30 rg_91).1).trans rfl))))))))))))
    refine W.widen (k := 0) (n := 0) (Nat.le_of_ble_eq_true rfl) (Nat.le_of_ble_eq_true rfl) ?_
    refine va_iast hx hb hK hP hD hS 8 7 rfl rfl (ti_inx o7 o8) dX12_readRow_128 (fun H locs hP hD hS => ?_)
    rw [wS16] at hP hD
    obtain ⟨τ90, eτ90⟩ : ∃ x9 : MS, x9 = sA τ81 16 (upd (τ81.2.1 16) (Int32.toNatClampNeg z3) z82) := ⟨_, rfl⟩
    have hP : va_P (dC, dI) vwCl (mW h ad cl τ90) H := by rw [eτ90]; exact hP
    have hD : va_D A (mW h ad cl τ90) := by rw [eτ90]; exact hD
    have hIτ90 : Inv τ90 := by rw [eτ90]; exact (Inv_sA1 hI83 (fun j _ => Inv.any _))
    have Xτ90 : eqx [6, 7, 8, 9, 10, 4, 5, 25, 14, 15, 16, 11] τ90 σ := (eqx.eq eτ90 (eqx.sA Xτ81 rg_102))
    have Mτ90 : Mo τ90 σ := Mo.eq eτ90 (fun h9 => Mτ81 h9)
    have Lτ90 : Lx τ90 σ := Lx.eq eτ90 Lτ81
    have qq91 : (τ90.1 30).toInt = ((σ.1 30) : Int32).toInt := congrArg Int32.toInt ((show τ90.1 30 = (σ.1 30) from (congrArg (fun x9 : MS => x9.1 30) eτ90).trans (show τ81.1 30 = (σ.1 30) from ((hx84 30 rg_94).1).trans (show τ71.1 30 = (σ.1 30) from ((hx74 30 rg_94).1).trans (show τ66.1 30 = (σ.1 30) from (congrArg (fun x9 : MS => x9.1 30) eτ66).trans (show τ57.1 30 = (σ.1 30) from ((hx60 30 rg_94).1).trans (show τ48.1 30 = (σ.1 30) from ((hx51 30 rg_94).1).trans (show τ43.1 30 = (σ.1 30) from (congrArg (fun x9 : MS => x9.1 30) eτ43).trans (show τ34.1 30 = (σ.1 30) from ((hx37 30 rg_94).1).trans (show τ25.1 30 = (σ.1 30) from ((hx28 30 rg_94).1).trans (show τ15.1 30 = (σ.1 30) from ((hx18 30 rg_94).1).trans (show τ10.1 30 = (σ.1 30) from (congrArg (fun x9 : MS => x9.1 30) eτ10).trans (show τ4.1 30 = (σ.1 30) from ((hx7 30 rg_91).1).trans rfl)))))))))))))
    refine lv_aload_n hx hb dX12_readRow_129 rfl (lv_at hl 1 rfl) ?_
    refine va_get (D := (dC, dI)) (ci := 12) (v := .ref (ad 11)) (C := RX12) (T := TX12) (N := 59) hx hb hts hin12 hown hK hP 0 rfl rfl 11 (Nat.le_of_ble_eq_true rfl) (ho (.fieldLink RX12 20 "NearEnoughModel" "rowMany" "[I") (List.mem_of_getElem? (i := 1) rfl)) (fun _ h9 => h9) rfl dX12_readRow_130 ?_
    refine lv_aload_n hx hb dX12_readRow_133 rfl (lv_at hl 1 rfl) ?_
    refine va_get (D := (dC, dI)) (ci := 12) (v := .int (τ90.1 30)) (C := RX12) (T := TX12) (N := 59) hx hb hts hin12 hown hK hP 0 rfl rfl 30 (Nat.le_of_ble_eq_true rfl) (ho (.fieldLink RX12 243 "NearEnoughModel" "rb" "I") (List.mem_of_getElem? (i := 0) rfl)) (fun _ h9 => h9) rfl dX12_readRow_134 ?_
    refine zi (v := (σ.1 30)) (show τ90.1 30 = (σ.1 30) from (congrArg (fun x9 : MS => x9.1 30) eτ90).trans (show τ81.1 30 = (σ.1 30) from ((hx84 30 rg_94).1).trans (show τ71.1 30 = (σ.1 30) from ((hx74 30 rg_94).1).trans (show τ66.1 30 = (σ.1 30) from (congrArg (fun x9 : MS => x9.1 30) eτ66).trans (show τ57.1 30 = (σ.1 30) from ((hx60 30 rg_94).1).trans (show τ48.1 30 = (σ.1 30) from ((hx51 30 rg_94).1).trans (show τ43.1 30 = (σ.1 30) from (congrArg (fun x9 : MS => x9.1 30) eτ43).trans (show τ34.1 30 = (σ.1 30) from ((hx37 30 rg_94).1).trans (show τ25.1 30 = (σ.1 30) from ((hx28 30 rg_94).1).trans (show τ15.1 30 = (σ.1 30) from ((hx18 30 rg_94).1).trans (show τ10.1 30 = (σ.1 30) from (congrArg (fun x9 : MS => x9.1 30) eτ10).trans (show τ4.1 30 = (σ.1 30) from ((hx7 30 rg_91).1).trans rfl)))))))))))) ?_
    have bb92 : 0 ≤ (σ.1 30).toInt ∧ (σ.1 30).toInt ≤ 1 := by have h9 := hIτ90.1 30; rw [show (τ90.1 30) = (σ.1 30) from (show τ90.1 30 = (σ.1 30) from (congrArg (fun x9 : MS => x9.1 30) eτ90).trans (show τ81.1 30 = (σ.1 30) from ((hx84 30 rg_94).1).trans (show τ71.1 30 = (σ.1 30) from ((hx74 30 rg_94).1).trans (show τ66.1 30 = (σ.1 30) from (congrArg (fun x9 : MS => x9.1 30) eτ66).trans (show τ57.1 30 = (σ.1 30) from ((hx60 30 rg_94).1).trans (show τ48.1 30 = (σ.1 30) from ((hx51 30 rg_94).1).trans (show τ43.1 30 = (σ.1 30) from (congrArg (fun x9 : MS => x9.1 30) eτ43).trans (show τ34.1 30 = (σ.1 30) from ((hx37 30 rg_94).1).trans (show τ25.1 30 = (σ.1 30) from ((hx28 30 rg_94).1).trans (show τ15.1 30 = (σ.1 30) from ((hx18 30 rg_94).1).trans (show τ10.1 30 = (σ.1 30) from (congrArg (fun x9 : MS => x9.1 30) eτ10).trans (show τ4.1 30 = (σ.1 30) from ((hx7 30 rg_91).1).trans rfl))))))))))))] at h9; exact h9
    refine lv_dup2_11 hx hb dX12_readRow_137 rfl rfl ?_
    refine va_iald hx hb hK hP 3 2 rfl rfl (ti_inx o3 o4) dX12_readRow_138 ?_
    refine lv_topi (fun z93 ez93 => ?_)
    have qq94 : z93.toInt = z2.toInt := congrArg Int32.toInt ((ez93.trans (congrFun ((congrArg (fun x9 : MS => x9.2.1 11) eτ90).trans ((tA rg_107).trans (((hx84 11 rg_104).2.1).trans (((hx74 11 rg_104).2.1).trans ((congrArg (fun x9 : MS => x9.2.1 11) eτ66).trans ((tA rg_106).trans (((hx60 11 rg_104).2.1).trans (((hx51 11 rg_104).2.1).trans ((congrArg (fun x9 : MS => x9.2.1 11) eτ43).trans ((tA rg_105).trans (((hx37 11 rg_104).2.1).trans (((hx28 11 rg_104).2.1).trans (((hx18 11 rg_104).2.1).trans ((congrArg (fun x9 : MS => x9.2.1 11) eτ10).trans (tJ.trans (((hx7 11 rg_103).2.1).trans rfl)))))))))))))))) (Int32.toNatClampNeg (σ.1 30)))).trans ((ez2.trans (congrFun rfl (Int32.toNatClampNeg (σ.1 30))))).symm)
    have gz93 : z93.toInt = ((σ.2.1 11) (Int32.toNatClampNeg (σ.1 30))).toInt := congrArg Int32.toInt (ez93.trans (congrFun ((congrArg (fun x9 : MS => x9.2.1 11) eτ90).trans ((tA rg_107).trans (((hx84 11 rg_104).2.1).trans (((hx74 11 rg_104).2.1).trans ((congrArg (fun x9 : MS => x9.2.1 11) eτ66).trans ((tA rg_106).trans (((hx60 11 rg_104).2.1).trans (((hx51 11 rg_104).2.1).trans ((congrArg (fun x9 : MS => x9.2.1 11) eτ43).trans ((tA rg_105).trans (((hx37 11 rg_104).2.1).trans (((hx28 11 rg_104).2.1).trans (((hx18 11 rg_104).2.1).trans ((congrArg (fun x9 : MS => x9.2.1 11) eτ10).trans (tJ.trans (((hx7 11 rg_103).2.1).trans rfl)))))))))))))))) (Int32.toNatClampNeg (σ.1 30))))
    have bz93 : 0 ≤ z93.toInt ∧ z93.toInt ≤ 2 := by rw [ez93]; exact (hIτ90.2 11) _ (cl_lt (n := 2) o3 o4)
    refine lv_iconst (v := 1) hx hb dX12_readRow_139 rg_6 ?_
    refine lv_iadd hx hb dX12_readRow_140 ?_
    refine lv_topi (fun z95 ez95 => ?_)
    have o12 : -2147483648 ≤ z93.toInt + 1 := by omega
    have o13 : z93.toInt + 1 ≤ 2147483647 := by omega
    have tz95 : z95.toInt = z93.toInt + 1 := ti_add ez95 rfl rg_18 o12 o13
    refine va_iast hx hb hK hP hD hS 3 2 rfl rfl (ti_inx o3 o4) dX12_readRow_141 (fun H locs hP hD hS => ?_)
    rw [wS11] at hP hD
    obtain ⟨τ96, eτ96⟩ : ∃ x9 : MS, x9 = sA τ90 11 (upd (τ90.2.1 11) (Int32.toNatClampNeg (σ.1 30)) z95) := ⟨_, rfl⟩
    have hP : va_P (dC, dI) vwCl (mW h ad cl τ96) H := by rw [eτ96]; exact hP
    have hD : va_D A (mW h ad cl τ96) := by rw [eτ96]; exact hD
    have o14 : (0 : Int) ≤ (z95 : Int32).toInt := by omega
    have o15 : (z95 : Int32).toInt ≤ 2 := by omega
    have hIτ96 : Inv τ96 := by rw [eτ96]; exact (Inv_sA1 hIτ90 (rgu (hIτ90.2 11) (show (0 : Int) ≤ (z95 : Int32).toInt ∧ (z95 : Int32).toInt ≤ 2 from ⟨o14, o15⟩)))
    have Xτ96 : eqx [6, 7, 8, 9, 10, 4, 5, 25, 14, 15, 16, 11] τ96 σ := (eqx.eq eτ96 (eqx.sA Xτ90 rg_108))
    have Mτ96 : Mo τ96 σ := Mo.eq eτ96 (fun h9 => Mτ90 h9)
    have Lτ96 : Lx τ96 σ := Lx.eq eτ96 Lτ90
    have qq97 : (τ96.1 30).toInt = ((σ.1 30) : Int32).toInt := congrArg Int32.toInt ((show τ96.1 30 = (σ.1 30) from (congrArg (fun x9 : MS => x9.1 30) eτ96).trans (show τ90.1 30 = (σ.1 30) from (congrArg (fun x9 : MS => x9.1 30) eτ90).trans (show τ81.1 30 = (σ.1 30) from ((hx84 30 rg_94).1).trans (show τ71.1 30 = (σ.1 30) from ((hx74 30 rg_94).1).trans (show τ66.1 30 = (σ.1 30) from (congrArg (fun x9 : MS => x9.1 30) eτ66).trans (show τ57.1 30 = (σ.1 30) from ((hx60 30 rg_94).1).trans (show τ48.1 30 = (σ.1 30) from ((hx51 30 rg_94).1).trans (show τ43.1 30 = (σ.1 30) from (congrArg (fun x9 : MS => x9.1 30) eτ43).trans (show τ34.1 30 = (σ.1 30) from ((hx37 30 rg_94).1).trans (show τ25.1 30 = (σ.1 30) from ((hx28 30 rg_94).1).trans (show τ15.1 30 = (σ.1 30) from ((hx18 30 rg_94).1).trans (show τ10.1 30 = (σ.1 30) from (congrArg (fun x9 : MS => x9.1 30) eτ10).trans (show τ4.1 30 = (σ.1 30) from ((hx7 30 rg_91).1).trans rfl))))))))))))))
    rw [hQ]
    have C11 : (τ96).2.1 11 = (upd (σ.2.1 11) (Int32.toNatClampNeg (σ.1 30)) z95) := ((congrArg (fun x9 : MS => x9.2.1 11) eτ96).trans (tAe.trans (congrArg (fun f9 => (upd f9 (Int32.toNatClampNeg (σ.1 30)) z95)) ((congrArg (fun x9 : MS => x9.2.1 11) eτ90).trans ((tA rg_107).trans (((hx84 11 rg_104).2.1).trans (((hx74 11 rg_104).2.1).trans ((congrArg (fun x9 : MS => x9.2.1 11) eτ66).trans ((tA rg_106).trans (((hx60 11 rg_104).2.1).trans (((hx51 11 rg_104).2.1).trans ((congrArg (fun x9 : MS => x9.2.1 11) eτ43).trans ((tA rg_105).trans (((hx37 11 rg_104).2.1).trans (((hx28 11 rg_104).2.1).trans (((hx18 11 rg_104).2.1).trans ((congrArg (fun x9 : MS => x9.2.1 11) eτ10).trans (tJ.trans (((hx7 11 rg_103).2.1).trans rfl)))))))))))))))))))
    have C12 : (τ96).2.1 12 = (σ.2.1 12) := ((congrArg (fun x9 : MS => x9.2.1 12) eτ96).trans ((tA rg_114).trans ((congrArg (fun x9 : MS => x9.2.1 12) eτ90).trans ((tA rg_113).trans (((hx84 12 rg_110).2.1).trans (((hx74 12 rg_110).2.1).trans ((congrArg (fun x9 : MS => x9.2.1 12) eτ66).trans ((tA rg_112).trans (((hx60 12 rg_110).2.1).trans (((hx51 12 rg_110).2.1).trans ((congrArg (fun x9 : MS => x9.2.1 12) eτ43).trans ((tA rg_111).trans (((hx37 12 rg_110).2.1).trans (((hx28 12 rg_110).2.1).trans (((hx18 12 rg_110).2.1).trans ((congrArg (fun x9 : MS => x9.2.1 12) eτ10).trans (tJ.trans (((hx7 12 rg_109).2.1).trans rfl))))))))))))))))))
    have C13 : (τ96).2.1 13 = (σ.2.1 13) := ((congrArg (fun x9 : MS => x9.2.1 13) eτ96).trans ((tA rg_120).trans ((congrArg (fun x9 : MS => x9.2.1 13) eτ90).trans ((tA rg_119).trans (((hx84 13 rg_116).2.1).trans (((hx74 13 rg_116).2.1).trans ((congrArg (fun x9 : MS => x9.2.1 13) eτ66).trans ((tA rg_118).trans (((hx60 13 rg_116).2.1).trans (((hx51 13 rg_116).2.1).trans ((congrArg (fun x9 : MS => x9.2.1 13) eτ43).trans ((tA rg_117).trans (((hx37 13 rg_116).2.1).trans (((hx28 13 rg_116).2.1).trans (((hx18 13 rg_116).2.1).trans ((congrArg (fun x9 : MS => x9.2.1 13) eτ10).trans (tJ.trans (((hx7 13 rg_115).2.1).trans rfl))))))))))))))))))
    have C14 : (τ96).2.1 14 = (upd (σ.2.1 14) (Int32.toNatClampNeg z3) z35) := ((congrArg (fun x9 : MS => x9.2.1 14) eτ96).trans ((tA rg_125).trans ((congrArg (fun x9 : MS => x9.2.1 14) eτ90).trans ((tA rg_124).trans (((hx84 14 rg_122).2.1).trans (((hx74 14 rg_122).2.1).trans ((congrArg (fun x9 : MS => x9.2.1 14) eτ66).trans ((tA rg_123).trans (((hx60 14 rg_122).2.1).trans (((hx51 14 rg_122).2.1).trans ((congrArg (fun x9 : MS => x9.2.1 14) eτ43).trans (tAe.trans (congrArg (fun f9 => (upd f9 (Int32.toNatClampNeg z3) z35)) (((hx37 14 rg_122).2.1).trans (((hx28 14 rg_122).2.1).trans (((hx18 14 rg_122).2.1).trans ((congrArg (fun x9 : MS => x9.2.1 14) eτ10).trans (tJ.trans (((hx7 14 rg_121).2.1).trans rfl)))))))))))))))))))
    have C15 : (τ96).2.1 15 = (upd (σ.2.1 15) (Int32.toNatClampNeg z3) z58) := ((congrArg (fun x9 : MS => x9.2.1 15) eτ96).trans ((tA rg_127).trans ((congrArg (fun x9 : MS => x9.2.1 15) eτ90).trans ((tA rg_126).trans (((hx84 15 rg_100).2.1).trans (((hx74 15 rg_100).2.1).trans ((congrArg (fun x9 : MS => x9.2.1 15) eτ66).trans (tAe.trans (congrArg (fun f9 => (upd f9 (Int32.toNatClampNeg z3) z58)) (((hx60 15 rg_100).2.1).trans (((hx51 15 rg_100).2.1).trans ((congrArg (fun x9 : MS => x9.2.1 15) eτ43).trans ((tA rg_101).trans (((hx37 15 rg_100).2.1).trans (((hx28 15 rg_100).2.1).trans (((hx18 15 rg_100).2.1).trans ((congrArg (fun x9 : MS => x9.2.1 15) eτ10).trans (tJ.trans (((hx7 15 rg_99).2.1).trans rfl)))))))))))))))))))
    have C16 : (τ96).2.1 16 = (upd (σ.2.1 16) (Int32.toNatClampNeg z3) z82) := ((congrArg (fun x9 : MS => x9.2.1 16) eτ96).trans ((tA rg_132).trans ((congrArg (fun x9 : MS => x9.2.1 16) eτ90).trans (tAe.trans (congrArg (fun f9 => (upd f9 (Int32.toNatClampNeg z3) z82)) (((hx84 16 rg_129).2.1).trans (((hx74 16 rg_129).2.1).trans ((congrArg (fun x9 : MS => x9.2.1 16) eτ66).trans ((tA rg_131).trans (((hx60 16 rg_129).2.1).trans (((hx51 16 rg_129).2.1).trans ((congrArg (fun x9 : MS => x9.2.1 16) eτ43).trans ((tA rg_130).trans (((hx37 16 rg_129).2.1).trans (((hx28 16 rg_129).2.1).trans (((hx18 16 rg_129).2.1).trans ((congrArg (fun x9 : MS => x9.2.1 16) eτ10).trans (tJ.trans (((hx7 16 rg_128).2.1).trans rfl)))))))))))))))))))
    have C17 : (τ96).2.1 17 = (σ.2.1 17) := ((congrArg (fun x9 : MS => x9.2.1 17) eτ96).trans ((tA rg_138).trans ((congrArg (fun x9 : MS => x9.2.1 17) eτ90).trans ((tA rg_137).trans (((hx84 17 rg_134).2.1).trans (((hx74 17 rg_134).2.1).trans ((congrArg (fun x9 : MS => x9.2.1 17) eτ66).trans ((tA rg_136).trans (((hx60 17 rg_134).2.1).trans (((hx51 17 rg_134).2.1).trans ((congrArg (fun x9 : MS => x9.2.1 17) eτ43).trans ((tA rg_135).trans (((hx37 17 rg_134).2.1).trans (((hx28 17 rg_134).2.1).trans (((hx18 17 rg_134).2.1).trans ((congrArg (fun x9 : MS => x9.2.1 17) eτ10).trans (tJ.trans (((hx7 17 rg_133).2.1).trans rfl))))))))))))))))))
    have C18 : (τ96).2.1 18 = (σ.2.1 18) := ((congrArg (fun x9 : MS => x9.2.1 18) eτ96).trans ((tA rg_144).trans ((congrArg (fun x9 : MS => x9.2.1 18) eτ90).trans ((tA rg_143).trans (((hx84 18 rg_140).2.1).trans (((hx74 18 rg_140).2.1).trans ((congrArg (fun x9 : MS => x9.2.1 18) eτ66).trans ((tA rg_142).trans (((hx60 18 rg_140).2.1).trans (((hx51 18 rg_140).2.1).trans ((congrArg (fun x9 : MS => x9.2.1 18) eτ43).trans ((tA rg_141).trans (((hx37 18 rg_140).2.1).trans (((hx28 18 rg_140).2.1).trans (((hx18 18 rg_140).2.1).trans ((congrArg (fun x9 : MS => x9.2.1 18) eτ10).trans (tJ.trans (((hx7 18 rg_139).2.1).trans rfl))))))))))))))))))
    have C19 : (τ96).2.1 19 = (σ.2.1 19) := ((congrArg (fun x9 : MS => x9.2.1 19) eτ96).trans ((tA rg_150).trans ((congrArg (fun x9 : MS => x9.2.1 19) eτ90).trans ((tA rg_149).trans (((hx84 19 rg_146).2.1).trans (((hx74 19 rg_146).2.1).trans ((congrArg (fun x9 : MS => x9.2.1 19) eτ66).trans ((tA rg_148).trans (((hx60 19 rg_146).2.1).trans (((hx51 19 rg_146).2.1).trans ((congrArg (fun x9 : MS => x9.2.1 19) eτ43).trans ((tA rg_147).trans (((hx37 19 rg_146).2.1).trans (((hx28 19 rg_146).2.1).trans (((hx18 19 rg_146).2.1).trans ((congrArg (fun x9 : MS => x9.2.1 19) eτ10).trans (tJ.trans (((hx7 19 rg_145).2.1).trans rfl))))))))))))))))))
    have C20 : (τ96).2.1 20 = (σ.2.1 20) := ((congrArg (fun x9 : MS => x9.2.1 20) eτ96).trans ((tA rg_156).trans ((congrArg (fun x9 : MS => x9.2.1 20) eτ90).trans ((tA rg_155).trans (((hx84 20 rg_152).2.1).trans (((hx74 20 rg_152).2.1).trans ((congrArg (fun x9 : MS => x9.2.1 20) eτ66).trans ((tA rg_154).trans (((hx60 20 rg_152).2.1).trans (((hx51 20 rg_152).2.1).trans ((congrArg (fun x9 : MS => x9.2.1 20) eτ43).trans ((tA rg_153).trans (((hx37 20 rg_152).2.1).trans (((hx28 20 rg_152).2.1).trans (((hx18 20 rg_152).2.1).trans ((congrArg (fun x9 : MS => x9.2.1 20) eτ10).trans (tJ.trans (((hx7 20 rg_151).2.1).trans rfl))))))))))))))))))
    have C21 : (τ96).2.1 21 = (σ.2.1 21) := ((congrArg (fun x9 : MS => x9.2.1 21) eτ96).trans ((tA rg_162).trans ((congrArg (fun x9 : MS => x9.2.1 21) eτ90).trans ((tA rg_161).trans (((hx84 21 rg_158).2.1).trans (((hx74 21 rg_158).2.1).trans ((congrArg (fun x9 : MS => x9.2.1 21) eτ66).trans ((tA rg_160).trans (((hx60 21 rg_158).2.1).trans (((hx51 21 rg_158).2.1).trans ((congrArg (fun x9 : MS => x9.2.1 21) eτ43).trans ((tA rg_159).trans (((hx37 21 rg_158).2.1).trans (((hx28 21 rg_158).2.1).trans (((hx18 21 rg_158).2.1).trans ((congrArg (fun x9 : MS => x9.2.1 21) eτ10).trans (tJ.trans (((hx7 21 rg_157).2.1).trans rfl))))))))))))))))))
    have C22 : (τ96).2.1 22 = (σ.2.1 22) := ((congrArg (fun x9 : MS => x9.2.1 22) eτ96).trans ((tA rg_168).trans ((congrArg (fun x9 : MS => x9.2.1 22) eτ90).trans ((tA rg_167).trans (((hx84 22 rg_164).2.1).trans (((hx74 22 rg_164).2.1).trans ((congrArg (fun x9 : MS => x9.2.1 22) eτ66).trans ((tA rg_166).trans (((hx60 22 rg_164).2.1).trans (((hx51 22 rg_164).2.1).trans ((congrArg (fun x9 : MS => x9.2.1 22) eτ43).trans ((tA rg_165).trans (((hx37 22 rg_164).2.1).trans (((hx28 22 rg_164).2.1).trans (((hx18 22 rg_164).2.1).trans ((congrArg (fun x9 : MS => x9.2.1 22) eτ10).trans (tJ.trans (((hx7 22 rg_163).2.1).trans rfl))))))))))))))))))
    have CS : ∀ p9, 17 ≤ p9 → p9 ≤ 22 → (τ96).2.1 p9 = σ.2.1 p9 := fun p9 h1 h2 => by rcases (show p9 = 17 ∨ p9 = 18 ∨ p9 = 19 ∨ p9 = 20 ∨ p9 = 21 ∨ p9 = 22 by omega) with rfl | rfl | rfl | rfl | rfl | rfl <;> first | exact C17 | exact C18 | exact C19 | exact C20 | exact C21 | exact C22
    have o16 : (σ.1 30).toInt ≤ 1 := by omega
    have o17 : 0 ≤ z2.toInt := by omega
    have o18 : z2.toInt ≤ 1 := by omega
    have o19 : z3.toInt = 2 * (σ.1 30).toInt + z2.toInt := by omega
    have o20 : z95.toInt = z2.toInt + 1 := by omega
    have o21 : 1 ≤ z35.toInt := by omega
    have o22 : z35.toInt ≤ 6 := by omega
    have o23 : -999 ≤ z58.toInt := by omega
    have o24 : z58.toInt ≤ z82.toInt := by omega
    have o25 : z82.toInt ≤ 999 := by omega
    have RR := rel_row hI ⟨o3, o16⟩ ez2 o17 o18 o19 C11 C12 C13 C14 C15 C16 CS o20 ⟨o21, o22⟩ o23 ⟨o24, o25⟩
    have JJ : ∀ p9, p9 = 27 ∨ p9 = 28 → (τ96).2.2.1 p9 = σ.2.2.1 p9 := (fun p9 h9 => (congrArg (fun x9 : MS => x9.2.2.1 p9) eτ96).trans ((fun p9 h9 => (congrArg (fun x9 : MS => x9.2.2.1 p9) eτ90).trans ((fun p9 h9 => ((hx84 p9 (rg_559 p9 h9)).2.2.1).trans ((fun p9 h9 => ((hx74 p9 (rg_559 p9 h9)).2.2.1).trans ((fun p9 h9 => (congrArg (fun x9 : MS => x9.2.2.1 p9) eτ66).trans ((fun p9 h9 => ((hx60 p9 (rg_559 p9 h9)).2.2.1).trans ((fun p9 h9 => ((hx51 p9 (rg_559 p9 h9)).2.2.1).trans ((fun p9 h9 => (congrArg (fun x9 : MS => x9.2.2.1 p9) eτ43).trans ((fun p9 h9 => ((hx37 p9 (rg_559 p9 h9)).2.2.1).trans ((fun p9 h9 => ((hx28 p9 (rg_559 p9 h9)).2.2.1).trans ((fun p9 h9 => ((hx18 p9 (rg_559 p9 h9)).2.2.1).trans ((fun p9 h9 => (congrArg (fun x9 : MS => x9.2.2.1 p9) eτ10).trans ((if_neg (by omega)).trans ((fun p9 h9 => ((hx7 p9 (rg_558 p9 h9)).2.2.1).trans ((fun _ _ => rfl) p9 h9)) p9 h9))) p9 h9)) p9 h9)) p9 h9)) p9 h9)) p9 h9)) p9 h9)) p9 h9)) p9 h9)) p9 h9)) p9 h9)) p9 h9))
    have RJ := relj_row hI ⟨o3, o16⟩ ez2 o17 o19 C12 C14 C15 C16 CS JJ
    exact W.vret hx hb hr (fun t ht hW => ⟨⟨τ96, rfl, ⟨hIτ96, Xτ96, RR.1, RR.2, RJ, (fun bk _ _ => SameJ.eqs JJ), Mτ96, Lτ96⟩, wEn_of hP (hK.sub [] rfl) hD ht hW⟩, hS.F ht⟩) hS.2.2 dX12_readRow_142
  · have tc13 := (show (σ.1 8).toInt = 2 from ti_eq rfl rg_20 c13)
    refine lv_iconst (v := 1) hx hb dX12_readRow_40 rg_6 ?_
    refine lv_goto (tgt := 45) hx hb dX12_readRow_41 rfl ?_
    have kk98 : (1 : Int32).toInt = 1 := rg_18
    refine zy_v (va_runV (As := [.int 1]) (rest := []) ⟨hx, hb, hml, hown, hts⟩ (n_must l dC dI h ad cl H.size τ10 1 hIτ10 (Lx.es Lτ10)) (cwV 1 hts gd_n_readRowV_278_n_must rfl rfl rfl dd_n_must ⟨Nat.le_of_ble_eq_true rfl, Nat.le_of_ble_eq_true rfl⟩) (preV hP hK hD hE (ci := 12) (q0 := 0) rfl rfl) rfl rfl hl.1 rfl (lv_room (Nat.le_of_ble_eq_true rfl)) dX12_readRow_45 ⟨Nat.le_of_ble_eq_true rfl, Nat.le_of_ble_eq_true rfl⟩) hD hS hA (fun τ99 H locs hq hP hD hS => ?_)
    obtain ⟨hI101, hx102, mo103, lx104⟩ := hq
    have Xτ99 : eqx [6, 7, 8, 9, 10, 4, 5, 25, 14, 15, 16, 11] τ99 σ := eqx.tr hx102 Xτ10 rg_93
    have Mτ99 : Mo τ99 σ := Mo.tr mo103 (fun h9 => Mτ10 h9)
    have Lτ99 : Lx τ99 σ := Lx.tr lx104 Lτ10
    have qq105 : (τ99.1 30).toInt = ((σ.1 30) : Int32).toInt := congrArg Int32.toInt ((show τ99.1 30 = (σ.1 30) from ((hx102 30 rg_94).1).trans (show τ10.1 30 = (σ.1 30) from (congrArg (fun x9 : MS => x9.1 30) eτ10).trans (show τ4.1 30 = (σ.1 30) from ((hx7 30 rg_91).1).trans rfl))))
    refine W.widen (k := 0) (n := 0) (Nat.le_of_ble_eq_true rfl) (Nat.le_of_ble_eq_true rfl) ?_
    refine lv_aload_n hx hb dX12_readRow_48 rfl (lv_at hl 1 rfl) ?_
    refine lv_aload_n hx hb dX12_readRow_49 rfl (lv_at hl 1 rfl) ?_
    refine lv_ldc2 (v := (6840691)) hx hb hown (ho (.constantLong RX12 145 (6840691)) (List.mem_of_getElem? (i := 5) rfl)) dX12_readRow_50 ?_
    refine zy_i (va_runV (As := [.long 6840691]) (rest := [.ref h]) ⟨hx, hb, hml, hown, hts⟩ (n_isWord l dC dI h ad cl H.size τ99 6840691 hI101) (cwV 1 hts gd_n_readRowV_261_n_isWord rfl rfl rfl dd_n_isWord ⟨Nat.le_of_ble_eq_true rfl, Nat.le_of_ble_eq_true rfl⟩) (preV hP hK hD hE (ci := 12) (q0 := 0) rfl rfl) rfl rfl hl.1 rfl (lv_room (Nat.le_of_ble_eq_true rfl)) dX12_readRow_53 ⟨Nat.le_of_ble_eq_true rfl, Nat.le_of_ble_eq_true rfl⟩) hD hS hA (fun z107 τ106 H locs hq hP hD hS => ?_)
    obtain ⟨rfl, f108⟩ := hq
    refine W.widen (k := 0) (n := 0) (Nat.le_of_ble_eq_true rfl) (Nat.le_of_ble_eq_true rfl) ?_
    refine zy_v (va_runV (As := [.int z107]) (rest := []) ⟨hx, hb, hml, hown, hts⟩ (n_must l dC dI h ad cl H.size τ99 z107 hI101 (Lx.es Lτ99)) (cwV 1 hts gd_n_readRowV_278_n_must rfl rfl rfl dd_n_must ⟨Nat.le_of_ble_eq_true rfl, Nat.le_of_ble_eq_true rfl⟩) (preV hP hK hD hE (ci := 12) (q0 := 0) rfl rfl) rfl rfl hl.1 rfl (lv_room (Nat.le_of_ble_eq_true rfl)) dX12_readRow_56 ⟨Nat.le_of_ble_eq_true rfl, Nat.le_of_ble_eq_true rfl⟩) hD hS hA (fun τ109 H locs hq hP hD hS => ?_)
    obtain ⟨hI111, hx112, mo113, lx114⟩ := hq
    have Xτ109 : eqx [6, 7, 8, 9, 10, 4, 5, 25, 14, 15, 16, 11] τ109 σ := eqx.tr hx112 Xτ99 rg_93
    have Mτ109 : Mo τ109 σ := Mo.tr mo113 (fun h9 => Mτ99 h9)
    have Lτ109 : Lx τ109 σ := Lx.tr lx114 Lτ99
    have qq115 : (τ109.1 30).toInt = ((σ.1 30) : Int32).toInt := congrArg Int32.toInt ((show τ109.1 30 = (σ.1 30) from ((hx112 30 rg_94).1).trans (show τ99.1 30 = (σ.1 30) from ((hx102 30 rg_94).1).trans (show τ10.1 30 = (σ.1 30) from (congrArg (fun x9 : MS => x9.1 30) eτ10).trans (show τ4.1 30 = (σ.1 30) from ((hx7 30 rg_91).1).trans rfl)))))
    refine W.widen (k := 0) (n := 0) (Nat.le_of_ble_eq_true rfl) (Nat.le_of_ble_eq_true rfl) ?_
    refine lv_aload_n hx hb dX12_readRow_59 rfl (lv_at hl 1 rfl) ?_
    refine va_get (D := (dC, dI)) (ci := 12) (v := .ref (ad 14)) (C := RX12) (T := TX12) (N := 59) hx hb hts hin12 hown hK hP 0 rfl rfl 14 (Nat.le_of_ble_eq_true rfl) (ho (.fieldLink RX12 30 "NearEnoughModel" "rHas" "[I") (List.mem_of_getElem? (i := 6) rfl)) (fun _ h9 => h9) rfl dX12_readRow_60 ?_
    refine lv_iload_n hx hb dX12_readRow_63 rfl (lv_at hl 0 rfl) ?_
    refine lv_aload_n hx hb dX12_readRow_64 rfl (lv_at hl 1 rfl) ?_
    refine lv_iconst (v := 1) hx hb dX12_readRow_65 rg_6 ?_
    refine lv_bipush (v := 6) hx hb dX12_readRow_66 rg_55 ?_
    have kk116 : (1 : Int32).toInt = 1 := rg_18
    have kk117 : (6 : Int32).toInt = 6 := rg_70
    refine zy_i (va_runV (As := [.int 1, .int 6]) (rest := [.int z3, .ref (ad 14)]) ⟨hx, hb, hml, hown, hts⟩ (n_numeral l dC dI h ad cl H.size τ109 1 6 hI111 (by decide) (Lx.es Lτ109)) (cwV 2 hts gd_n_readRowV_291_n_numeral rfl rfl rfl dd_n_numeral ⟨Nat.le_of_ble_eq_true rfl, Nat.le_of_ble_eq_true rfl⟩) (preV hP hK hD hE (ci := 12) (q0 := 0) rfl rfl) rfl rfl hl.1 rfl (lv_room (Nat.le_of_ble_eq_true rfl)) dX12_readRow_68 ⟨Nat.le_of_ble_eq_true rfl, Nat.le_of_ble_eq_true rfl⟩) hD hS hA (fun z119 τ118 H locs hq hP hD hS => ?_)
    obtain ⟨hI120, hx121, f122, f123, mo124, lx125⟩ := hq
    have Xτ118 : eqx [6, 7, 8, 9, 10, 4, 5, 25, 14, 15, 16, 11] τ118 σ := eqx.tr hx121 Xτ109 rg_93
    have Mτ118 : Mo τ118 σ := Mo.tr mo124 (fun h9 => Mτ109 h9)
    have Lτ118 : Lx τ118 σ := Lx.tr lx125 Lτ109
    have qq126 : (τ118.1 30).toInt = ((σ.1 30) : Int32).toInt := congrArg Int32.toInt ((show τ118.1 30 = (σ.1 30) from ((hx121 30 rg_94).1).trans (show τ109.1 30 = (σ.1 30) from ((hx112 30 rg_94).1).trans (show τ99.1 30 = (σ.1 30) from ((hx102 30 rg_94).1).trans (show τ10.1 30 = (σ.1 30) from (congrArg (fun x9 : MS => x9.1 30) eτ10).trans (show τ4.1 30 = (σ.1 30) from ((hx7 30 rg_91).1).trans rfl))))))
    refine W.widen (k := 0) (n := 0) (Nat.le_of_ble_eq_true rfl) (Nat.le_of_ble_eq_true rfl) ?_
    refine va_iast hx hb hK hP hD hS 6 5 rfl rfl (ti_inx o7 o8) dX12_readRow_71 (fun H locs hP hD hS => ?_)
    rw [wS14] at hP hD
    obtain ⟨τ127, eτ127⟩ : ∃ x9 : MS, x9 = sA τ118 14 (upd (τ118.2.1 14) (Int32.toNatClampNeg z3) z119) := ⟨_, rfl⟩
    have hP : va_P (dC, dI) vwCl (mW h ad cl τ127) H := by rw [eτ127]; exact hP
    have hD : va_D A (mW h ad cl τ127) := by rw [eτ127]; exact hD
    have o26 : (0 : Int) ≤ (z119 : Int32).toInt := by omega
    have o27 : (z119 : Int32).toInt ≤ 6 := by omega
    have hIτ127 : Inv τ127 := by rw [eτ127]; exact (Inv_sA1 hI120 (rgu (hI120.2 14) (show (0 : Int) ≤ (z119 : Int32).toInt ∧ (z119 : Int32).toInt ≤ 6 from ⟨o26, o27⟩)))
    have Xτ127 : eqx [6, 7, 8, 9, 10, 4, 5, 25, 14, 15, 16, 11] τ127 σ := (eqx.eq eτ127 (eqx.sA Xτ118 rg_95))
    have Mτ127 : Mo τ127 σ := Mo.eq eτ127 (fun h9 => Mτ118 h9)
    have Lτ127 : Lx τ127 σ := Lx.eq eτ127 Lτ118
    have qq128 : (τ127.1 30).toInt = ((σ.1 30) : Int32).toInt := congrArg Int32.toInt ((show τ127.1 30 = (σ.1 30) from (congrArg (fun x9 : MS => x9.1 30) eτ127).trans (show τ118.1 30 = (σ.1 30) from ((hx121 30 rg_94).1).trans (show τ109.1 30 = (σ.1 30) from ((hx112 30 rg_94).1).trans (show τ99.1 30 = (σ.1 30) from ((hx102 30 rg_94).1).trans (show τ10.1 30 = (σ.1 30) from (congrArg (fun x9 : MS => x9.1 30) eτ10).trans (show τ4.1 30 = (σ.1 30) from ((hx7 30 rg_91).1).trans rfl)))))))
    refine lv_aload_n hx hb dX12_readRow_72 rfl (lv_at hl 1 rfl) ?_
    refine lv_aload_n hx hb dX12_readRow_73 rfl (lv_at hl 1 rfl) ?_
    refine lv_ldc2 (v := (1718775661)) hx hb hown (ho (.constantLong RX12 147 (1718775661)) (List.mem_of_getElem? (i := 7) rfl)) dX12_readRow_74 ?_
    refine zy_i (va_runV (As := [.long 1718775661]) (rest := [.ref h]) ⟨hx, hb, hml, hown, hts⟩ (n_isWord l dC dI h ad cl H.size τ127 1718775661 hIτ127) (cwV 1 hts gd_n_readRowV_261_n_isWord rfl rfl rfl dd_n_isWord ⟨Nat.le_of_ble_eq_true rfl, Nat.le_of_ble_eq_true rfl⟩) (preV hP hK hD hE (ci := 12) (q0 := 0) rfl rfl) rfl rfl hl.1 rfl (lv_room (Nat.le_of_ble_eq_true rfl)) dX12_readRow_77 ⟨Nat.le_of_ble_eq_true rfl, Nat.le_of_ble_eq_true rfl⟩) hD hS hA (fun z130 τ129 H locs hq hP hD hS => ?_)
    obtain ⟨rfl, f131⟩ := hq
    refine W.widen (k := 0) (n := 0) (Nat.le_of_ble_eq_true rfl) (Nat.le_of_ble_eq_true rfl) ?_
    refine zy_v (va_runV (As := [.int z130]) (rest := []) ⟨hx, hb, hml, hown, hts⟩ (n_must l dC dI h ad cl H.size τ127 z130 hIτ127 (Lx.es Lτ127)) (cwV 1 hts gd_n_readRowV_278_n_must rfl rfl rfl dd_n_must ⟨Nat.le_of_ble_eq_true rfl, Nat.le_of_ble_eq_true rfl⟩) (preV hP hK hD hE (ci := 12) (q0 := 0) rfl rfl) rfl rfl hl.1 rfl (lv_room (Nat.le_of_ble_eq_true rfl)) dX12_readRow_80 ⟨Nat.le_of_ble_eq_true rfl, Nat.le_of_ble_eq_true rfl⟩) hD hS hA (fun τ132 H locs hq hP hD hS => ?_)
    obtain ⟨hI134, hx135, mo136, lx137⟩ := hq
    have Xτ132 : eqx [6, 7, 8, 9, 10, 4, 5, 25, 14, 15, 16, 11] τ132 σ := eqx.tr hx135 Xτ127 rg_93
    have Mτ132 : Mo τ132 σ := Mo.tr mo136 (fun h9 => Mτ127 h9)
    have Lτ132 : Lx τ132 σ := Lx.tr lx137 Lτ127
    have qq138 : (τ132.1 30).toInt = ((σ.1 30) : Int32).toInt := congrArg Int32.toInt ((show τ132.1 30 = (σ.1 30) from ((hx135 30 rg_94).1).trans (show τ127.1 30 = (σ.1 30) from (congrArg (fun x9 : MS => x9.1 30) eτ127).trans (show τ118.1 30 = (σ.1 30) from ((hx121 30 rg_94).1).trans (show τ109.1 30 = (σ.1 30) from ((hx112 30 rg_94).1).trans (show τ99.1 30 = (σ.1 30) from ((hx102 30 rg_94).1).trans (show τ10.1 30 = (σ.1 30) from (congrArg (fun x9 : MS => x9.1 30) eτ10).trans (show τ4.1 30 = (σ.1 30) from ((hx7 30 rg_91).1).trans rfl))))))))
    refine W.widen (k := 0) (n := 0) (Nat.le_of_ble_eq_true rfl) (Nat.le_of_ble_eq_true rfl) ?_
    refine lv_aload_n hx hb dX12_readRow_83 rfl (lv_at hl 1 rfl) ?_
    refine va_get (D := (dC, dI)) (ci := 12) (v := .ref (ad 15)) (C := RX12) (T := TX12) (N := 59) hx hb hts hin12 hown hK hP 0 rfl rfl 15 (Nat.le_of_ble_eq_true rfl) (ho (.fieldLink RX12 33 "NearEnoughModel" "rLeast" "[I") (List.mem_of_getElem? (i := 8) rfl)) (fun _ h9 => h9) rfl dX12_readRow_84 ?_
    refine lv_iload_n hx hb dX12_readRow_87 rfl (lv_at hl 0 rfl) ?_
    refine lv_aload_n hx hb dX12_readRow_88 rfl (lv_at hl 1 rfl) ?_
    refine lv_sipush (v := (-999)) hx hb dX12_readRow_89 rg_96 ?_
    refine lv_sipush (v := 999) hx hb dX12_readRow_92 rg_80 ?_
    have kk139 : ((-999) : Int32).toInt = (-999) := rg_97
    have kk140 : (999 : Int32).toInt = 999 := rg_81
    refine zy_i (va_runV (As := [.int (-999), .int 999]) (rest := [.int z3, .ref (ad 15)]) ⟨hx, hb, hml, hown, hts⟩ (n_signed l dC dI h ad cl H.size τ132 (-999) 999 hI134 (by decide) (Lx.es Lτ132)) (cwV 2 hts gd_n_readRowV_295_n_signed rfl rfl rfl dd_n_signed ⟨Nat.le_of_ble_eq_true rfl, Nat.le_of_ble_eq_true rfl⟩) (preV hP hK hD hE (ci := 12) (q0 := 0) rfl rfl) rfl rfl hl.1 rfl (lv_room (Nat.le_of_ble_eq_true rfl)) dX12_readRow_95 ⟨Nat.le_of_ble_eq_true rfl, Nat.le_of_ble_eq_true rfl⟩) hD hS hA (fun z142 τ141 H locs hq hP hD hS => ?_)
    obtain ⟨hI143, hx144, f145, f146, mo147, lx148⟩ := hq
    have Xτ141 : eqx [6, 7, 8, 9, 10, 4, 5, 25, 14, 15, 16, 11] τ141 σ := eqx.tr hx144 Xτ132 rg_93
    have Mτ141 : Mo τ141 σ := Mo.tr mo147 (fun h9 => Mτ132 h9)
    have Lτ141 : Lx τ141 σ := Lx.tr lx148 Lτ132
    have qq149 : (τ141.1 30).toInt = ((σ.1 30) : Int32).toInt := congrArg Int32.toInt ((show τ141.1 30 = (σ.1 30) from ((hx144 30 rg_94).1).trans (show τ132.1 30 = (σ.1 30) from ((hx135 30 rg_94).1).trans (show τ127.1 30 = (σ.1 30) from (congrArg (fun x9 : MS => x9.1 30) eτ127).trans (show τ118.1 30 = (σ.1 30) from ((hx121 30 rg_94).1).trans (show τ109.1 30 = (σ.1 30) from ((hx112 30 rg_94).1).trans (show τ99.1 30 = (σ.1 30) from ((hx102 30 rg_94).1).trans (show τ10.1 30 = (σ.1 30) from (congrArg (fun x9 : MS => x9.1 30) eτ10).trans (show τ4.1 30 = (σ.1 30) from ((hx7 30 rg_91).1).trans rfl)))))))))
    refine W.widen (k := 0) (n := 0) (Nat.le_of_ble_eq_true rfl) (Nat.le_of_ble_eq_true rfl) ?_
    refine va_iast hx hb hK hP hD hS 7 6 rfl rfl (ti_inx o7 o8) dX12_readRow_98 (fun H locs hP hD hS => ?_)
    rw [wS15] at hP hD
    obtain ⟨τ150, eτ150⟩ : ∃ x9 : MS, x9 = sA τ141 15 (upd (τ141.2.1 15) (Int32.toNatClampNeg z3) z142) := ⟨_, rfl⟩
    have hP : va_P (dC, dI) vwCl (mW h ad cl τ150) H := by rw [eτ150]; exact hP
    have hD : va_D A (mW h ad cl τ150) := by rw [eτ150]; exact hD
    have hIτ150 : Inv τ150 := by rw [eτ150]; exact (Inv_sA1 hI143 (fun j _ => Inv.any _))
    have Xτ150 : eqx [6, 7, 8, 9, 10, 4, 5, 25, 14, 15, 16, 11] τ150 σ := (eqx.eq eτ150 (eqx.sA Xτ141 rg_98))
    have Mτ150 : Mo τ150 σ := Mo.eq eτ150 (fun h9 => Mτ141 h9)
    have Lτ150 : Lx τ150 σ := Lx.eq eτ150 Lτ141
    have qq151 : (τ150.1 30).toInt = ((σ.1 30) : Int32).toInt := congrArg Int32.toInt ((show τ150.1 30 = (σ.1 30) from (congrArg (fun x9 : MS => x9.1 30) eτ150).trans (show τ141.1 30 = (σ.1 30) from ((hx144 30 rg_94).1).trans (show τ132.1 30 = (σ.1 30) from ((hx135 30 rg_94).1).trans (show τ127.1 30 = (σ.1 30) from (congrArg (fun x9 : MS => x9.1 30) eτ127).trans (show τ118.1 30 = (σ.1 30) from ((hx121 30 rg_94).1).trans (show τ109.1 30 = (σ.1 30) from ((hx112 30 rg_94).1).trans (show τ99.1 30 = (σ.1 30) from ((hx102 30 rg_94).1).trans (show τ10.1 30 = (σ.1 30) from (congrArg (fun x9 : MS => x9.1 30) eτ10).trans (show τ4.1 30 = (σ.1 30) from ((hx7 30 rg_91).1).trans rfl))))))))))
    refine lv_aload_n hx hb dX12_readRow_99 rfl (lv_at hl 1 rfl) ?_
    refine lv_aload_n hx hb dX12_readRow_100 rfl (lv_at hl 1 rfl) ?_
    refine lv_ldc2 (v := (29807)) hx hb hown (ho (.constantLong RX12 149 (29807)) (List.mem_of_getElem? (i := 9) rfl)) dX12_readRow_101 ?_
    refine zy_i (va_runV (As := [.long 29807]) (rest := [.ref h]) ⟨hx, hb, hml, hown, hts⟩ (n_isWord l dC dI h ad cl H.size τ150 29807 hIτ150) (cwV 1 hts gd_n_readRowV_261_n_isWord rfl rfl rfl dd_n_isWord ⟨Nat.le_of_ble_eq_true rfl, Nat.le_of_ble_eq_true rfl⟩) (preV hP hK hD hE (ci := 12) (q0 := 0) rfl rfl) rfl rfl hl.1 rfl (lv_room (Nat.le_of_ble_eq_true rfl)) dX12_readRow_104 ⟨Nat.le_of_ble_eq_true rfl, Nat.le_of_ble_eq_true rfl⟩) hD hS hA (fun z153 τ152 H locs hq hP hD hS => ?_)
    obtain ⟨rfl, f154⟩ := hq
    refine W.widen (k := 0) (n := 0) (Nat.le_of_ble_eq_true rfl) (Nat.le_of_ble_eq_true rfl) ?_
    refine zy_v (va_runV (As := [.int z153]) (rest := []) ⟨hx, hb, hml, hown, hts⟩ (n_must l dC dI h ad cl H.size τ150 z153 hIτ150 (Lx.es Lτ150)) (cwV 1 hts gd_n_readRowV_278_n_must rfl rfl rfl dd_n_must ⟨Nat.le_of_ble_eq_true rfl, Nat.le_of_ble_eq_true rfl⟩) (preV hP hK hD hE (ci := 12) (q0 := 0) rfl rfl) rfl rfl hl.1 rfl (lv_room (Nat.le_of_ble_eq_true rfl)) dX12_readRow_107 ⟨Nat.le_of_ble_eq_true rfl, Nat.le_of_ble_eq_true rfl⟩) hD hS hA (fun τ155 H locs hq hP hD hS => ?_)
    obtain ⟨hI157, hx158, mo159, lx160⟩ := hq
    have Xτ155 : eqx [6, 7, 8, 9, 10, 4, 5, 25, 14, 15, 16, 11] τ155 σ := eqx.tr hx158 Xτ150 rg_93
    have Mτ155 : Mo τ155 σ := Mo.tr mo159 (fun h9 => Mτ150 h9)
    have Lτ155 : Lx τ155 σ := Lx.tr lx160 Lτ150
    have qq161 : (τ155.1 30).toInt = ((σ.1 30) : Int32).toInt := congrArg Int32.toInt ((show τ155.1 30 = (σ.1 30) from ((hx158 30 rg_94).1).trans (show τ150.1 30 = (σ.1 30) from (congrArg (fun x9 : MS => x9.1 30) eτ150).trans (show τ141.1 30 = (σ.1 30) from ((hx144 30 rg_94).1).trans (show τ132.1 30 = (σ.1 30) from ((hx135 30 rg_94).1).trans (show τ127.1 30 = (σ.1 30) from (congrArg (fun x9 : MS => x9.1 30) eτ127).trans (show τ118.1 30 = (σ.1 30) from ((hx121 30 rg_94).1).trans (show τ109.1 30 = (σ.1 30) from ((hx112 30 rg_94).1).trans (show τ99.1 30 = (σ.1 30) from ((hx102 30 rg_94).1).trans (show τ10.1 30 = (σ.1 30) from (congrArg (fun x9 : MS => x9.1 30) eτ10).trans (show τ4.1 30 = (σ.1 30) from ((hx7 30 rg_91).1).trans rfl)))))))))))
    refine W.widen (k := 0) (n := 0) (Nat.le_of_ble_eq_true rfl) (Nat.le_of_ble_eq_true rfl) ?_
    refine lv_aload_n hx hb dX12_readRow_110 rfl (lv_at hl 1 rfl) ?_
    refine va_get (D := (dC, dI)) (ci := 12) (v := .ref (ad 16)) (C := RX12) (T := TX12) (N := 59) hx hb hts hin12 hown hK hP 0 rfl rfl 16 (Nat.le_of_ble_eq_true rfl) (ho (.fieldLink RX12 36 "NearEnoughModel" "rMost" "[I") (List.mem_of_getElem? (i := 10) rfl)) (fun _ h9 => h9) rfl dX12_readRow_111 ?_
    refine lv_iload_n hx hb dX12_readRow_114 rfl (lv_at hl 0 rfl) ?_
    refine lv_aload_n hx hb dX12_readRow_115 rfl (lv_at hl 1 rfl) ?_
    refine lv_aload_n hx hb dX12_readRow_116 rfl (lv_at hl 1 rfl) ?_
    refine va_get (D := (dC, dI)) (ci := 12) (v := .ref (ad 15)) (C := RX12) (T := TX12) (N := 59) hx hb hts hin12 hown hK hP 0 rfl rfl 15 (Nat.le_of_ble_eq_true rfl) (ho (.fieldLink RX12 33 "NearEnoughModel" "rLeast" "[I") (List.mem_of_getElem? (i := 8) rfl)) (fun _ h9 => h9) rfl dX12_readRow_117 ?_
    refine lv_iload_n hx hb dX12_readRow_120 rfl (lv_at hl 0 rfl) ?_
    refine va_iald hx hb hK hP 7 6 rfl rfl (ti_inx o7 o8) dX12_readRow_121 ?_
    refine lv_topi (fun z162 ez162 => ?_)
    have qq163 : z162.toInt = (z142 : Int32).toInt := congrArg Int32.toInt ((ez162.trans (congrFun (((hx158 15 rg_100).2.1).trans ((congrArg (fun x9 : MS => x9.2.1 15) eτ150).trans (tAe.trans (congrArg (fun f9 => (upd f9 (Int32.toNatClampNeg z3) z142)) (((hx144 15 rg_100).2.1).trans (((hx135 15 rg_100).2.1).trans ((congrArg (fun x9 : MS => x9.2.1 15) eτ127).trans ((tA rg_101).trans (((hx121 15 rg_100).2.1).trans (((hx112 15 rg_100).2.1).trans (((hx102 15 rg_100).2.1).trans ((congrArg (fun x9 : MS => x9.2.1 15) eτ10).trans (tJ.trans (((hx7 15 rg_99).2.1).trans rfl)))))))))))))) (Int32.toNatClampNeg z3))).trans pk_us)
    refine lv_sipush (v := 999) hx hb dX12_readRow_122 rg_80 ?_
    have kk164 : (999 : Int32).toInt = 999 := rg_81
    have o28 : z162.toInt ≤ (999 : Int32).toInt := by omega
    refine zy_i (va_runV (As := [.int z162, .int 999]) (rest := [.int z3, .ref (ad 16)]) ⟨hx, hb, hml, hown, hts⟩ (n_signed l dC dI h ad cl H.size τ155 z162 999 hI157 o28 (Lx.es Lτ155)) (cwV 2 hts gd_n_readRowV_295_n_signed rfl rfl rfl dd_n_signed ⟨Nat.le_of_ble_eq_true rfl, Nat.le_of_ble_eq_true rfl⟩) (preV hP hK hD hE (ci := 12) (q0 := 0) rfl rfl) rfl rfl hl.1 rfl (lv_room (Nat.le_of_ble_eq_true rfl)) dX12_readRow_125 ⟨Nat.le_of_ble_eq_true rfl, Nat.le_of_ble_eq_true rfl⟩) hD hS hA (fun z166 τ165 H locs hq hP hD hS => ?_)
    obtain ⟨hI167, hx168, f169, f170, mo171, lx172⟩ := hq
    have Xτ165 : eqx [6, 7, 8, 9, 10, 4, 5, 25, 14, 15, 16, 11] τ165 σ := eqx.tr hx168 Xτ155 rg_93
    have Mτ165 : Mo τ165 σ := Mo.tr mo171 (fun h9 => Mτ155 h9)
    have Lτ165 : Lx τ165 σ := Lx.tr lx172 Lτ155
    have qq173 : (τ165.1 30).toInt = ((σ.1 30) : Int32).toInt := congrArg Int32.toInt ((show τ165.1 30 = (σ.1 30) from ((hx168 30 rg_94).1).trans (show τ155.1 30 = (σ.1 30) from ((hx158 30 rg_94).1).trans (show τ150.1 30 = (σ.1 30) from (congrArg (fun x9 : MS => x9.1 30) eτ150).trans (show τ141.1 30 = (σ.1 30) from ((hx144 30 rg_94).1).trans (show τ132.1 30 = (σ.1 30) from ((hx135 30 rg_94).1).trans (show τ127.1 30 = (σ.1 30) from (congrArg (fun x9 : MS => x9.1 30) eτ127).trans (show τ118.1 30 = (σ.1 30) from ((hx121 30 rg_94).1).trans (show τ109.1 30 = (σ.1 30) from ((hx112 30 rg_94).1).trans (show τ99.1 30 = (σ.1 30) from ((hx102 30 rg_94).1).trans (show τ10.1 30 = (σ.1 30) from (congrArg (fun x9 : MS => x9.1 30) eτ10).trans (show τ4.1 30 = (σ.1 30) from ((hx7 30 rg_91).1).trans rfl))))))))))))
    refine W.widen (k := 0) (n := 0) (Nat.le_of_ble_eq_true rfl) (Nat.le_of_ble_eq_true rfl) ?_
    refine va_iast hx hb hK hP hD hS 8 7 rfl rfl (ti_inx o7 o8) dX12_readRow_128 (fun H locs hP hD hS => ?_)
    rw [wS16] at hP hD
    obtain ⟨τ174, eτ174⟩ : ∃ x9 : MS, x9 = sA τ165 16 (upd (τ165.2.1 16) (Int32.toNatClampNeg z3) z166) := ⟨_, rfl⟩
    have hP : va_P (dC, dI) vwCl (mW h ad cl τ174) H := by rw [eτ174]; exact hP
    have hD : va_D A (mW h ad cl τ174) := by rw [eτ174]; exact hD
    have hIτ174 : Inv τ174 := by rw [eτ174]; exact (Inv_sA1 hI167 (fun j _ => Inv.any _))
    have Xτ174 : eqx [6, 7, 8, 9, 10, 4, 5, 25, 14, 15, 16, 11] τ174 σ := (eqx.eq eτ174 (eqx.sA Xτ165 rg_102))
    have Mτ174 : Mo τ174 σ := Mo.eq eτ174 (fun h9 => Mτ165 h9)
    have Lτ174 : Lx τ174 σ := Lx.eq eτ174 Lτ165
    have qq175 : (τ174.1 30).toInt = ((σ.1 30) : Int32).toInt := congrArg Int32.toInt ((show τ174.1 30 = (σ.1 30) from (congrArg (fun x9 : MS => x9.1 30) eτ174).trans (show τ165.1 30 = (σ.1 30) from ((hx168 30 rg_94).1).trans (show τ155.1 30 = (σ.1 30) from ((hx158 30 rg_94).1).trans (show τ150.1 30 = (σ.1 30) from (congrArg (fun x9 : MS => x9.1 30) eτ150).trans (show τ141.1 30 = (σ.1 30) from ((hx144 30 rg_94).1).trans (show τ132.1 30 = (σ.1 30) from ((hx135 30 rg_94).1).trans (show τ127.1 30 = (σ.1 30) from (congrArg (fun x9 : MS => x9.1 30) eτ127).trans (show τ118.1 30 = (σ.1 30) from ((hx121 30 rg_94).1).trans (show τ109.1 30 = (σ.1 30) from ((hx112 30 rg_94).1).trans (show τ99.1 30 = (σ.1 30) from ((hx102 30 rg_94).1).trans (show τ10.1 30 = (σ.1 30) from (congrArg (fun x9 : MS => x9.1 30) eτ10).trans (show τ4.1 30 = (σ.1 30) from ((hx7 30 rg_91).1).trans rfl)))))))))))))
    refine lv_aload_n hx hb dX12_readRow_129 rfl (lv_at hl 1 rfl) ?_
    refine va_get (D := (dC, dI)) (ci := 12) (v := .ref (ad 11)) (C := RX12) (T := TX12) (N := 59) hx hb hts hin12 hown hK hP 0 rfl rfl 11 (Nat.le_of_ble_eq_true rfl) (ho (.fieldLink RX12 20 "NearEnoughModel" "rowMany" "[I") (List.mem_of_getElem? (i := 1) rfl)) (fun _ h9 => h9) rfl dX12_readRow_130 ?_
    refine lv_aload_n hx hb dX12_readRow_133 rfl (lv_at hl 1 rfl) ?_
    refine va_get (D := (dC, dI)) (ci := 12) (v := .int (τ174.1 30)) (C := RX12) (T := TX12) (N := 59) hx hb hts hin12 hown hK hP 0 rfl rfl 30 (Nat.le_of_ble_eq_true rfl) (ho (.fieldLink RX12 243 "NearEnoughModel" "rb" "I") (List.mem_of_getElem? (i := 0) rfl)) (fun _ h9 => h9) rfl dX12_readRow_134 ?_
    refine zi (v := (σ.1 30)) (show τ174.1 30 = (σ.1 30) from (congrArg (fun x9 : MS => x9.1 30) eτ174).trans (show τ165.1 30 = (σ.1 30) from ((hx168 30 rg_94).1).trans (show τ155.1 30 = (σ.1 30) from ((hx158 30 rg_94).1).trans (show τ150.1 30 = (σ.1 30) from (congrArg (fun x9 : MS => x9.1 30) eτ150).trans (show τ141.1 30 = (σ.1 30) from ((hx144 30 rg_94).1).trans (show τ132.1 30 = (σ.1 30) from ((hx135 30 rg_94).1).trans (show τ127.1 30 = (σ.1 30) from (congrArg (fun x9 : MS => x9.1 30) eτ127).trans (show τ118.1 30 = (σ.1 30) from ((hx121 30 rg_94).1).trans (show τ109.1 30 = (σ.1 30) from ((hx112 30 rg_94).1).trans (show τ99.1 30 = (σ.1 30) from ((hx102 30 rg_94).1).trans (show τ10.1 30 = (σ.1 30) from (congrArg (fun x9 : MS => x9.1 30) eτ10).trans (show τ4.1 30 = (σ.1 30) from ((hx7 30 rg_91).1).trans rfl)))))))))))) ?_
    have bb176 : 0 ≤ (σ.1 30).toInt ∧ (σ.1 30).toInt ≤ 1 := by have h9 := hIτ174.1 30; rw [show (τ174.1 30) = (σ.1 30) from (show τ174.1 30 = (σ.1 30) from (congrArg (fun x9 : MS => x9.1 30) eτ174).trans (show τ165.1 30 = (σ.1 30) from ((hx168 30 rg_94).1).trans (show τ155.1 30 = (σ.1 30) from ((hx158 30 rg_94).1).trans (show τ150.1 30 = (σ.1 30) from (congrArg (fun x9 : MS => x9.1 30) eτ150).trans (show τ141.1 30 = (σ.1 30) from ((hx144 30 rg_94).1).trans (show τ132.1 30 = (σ.1 30) from ((hx135 30 rg_94).1).trans (show τ127.1 30 = (σ.1 30) from (congrArg (fun x9 : MS => x9.1 30) eτ127).trans (show τ118.1 30 = (σ.1 30) from ((hx121 30 rg_94).1).trans (show τ109.1 30 = (σ.1 30) from ((hx112 30 rg_94).1).trans (show τ99.1 30 = (σ.1 30) from ((hx102 30 rg_94).1).trans (show τ10.1 30 = (σ.1 30) from (congrArg (fun x9 : MS => x9.1 30) eτ10).trans (show τ4.1 30 = (σ.1 30) from ((hx7 30 rg_91).1).trans rfl))))))))))))] at h9; exact h9
    refine lv_dup2_11 hx hb dX12_readRow_137 rfl rfl ?_
    refine va_iald hx hb hK hP 3 2 rfl rfl (ti_inx o3 o4) dX12_readRow_138 ?_
    refine lv_topi (fun z177 ez177 => ?_)
    have qq178 : z177.toInt = z2.toInt := congrArg Int32.toInt ((ez177.trans (congrFun ((congrArg (fun x9 : MS => x9.2.1 11) eτ174).trans ((tA rg_107).trans (((hx168 11 rg_104).2.1).trans (((hx158 11 rg_104).2.1).trans ((congrArg (fun x9 : MS => x9.2.1 11) eτ150).trans ((tA rg_106).trans (((hx144 11 rg_104).2.1).trans (((hx135 11 rg_104).2.1).trans ((congrArg (fun x9 : MS => x9.2.1 11) eτ127).trans ((tA rg_105).trans (((hx121 11 rg_104).2.1).trans (((hx112 11 rg_104).2.1).trans (((hx102 11 rg_104).2.1).trans ((congrArg (fun x9 : MS => x9.2.1 11) eτ10).trans (tJ.trans (((hx7 11 rg_103).2.1).trans rfl)))))))))))))))) (Int32.toNatClampNeg (σ.1 30)))).trans ((ez2.trans (congrFun rfl (Int32.toNatClampNeg (σ.1 30))))).symm)
    have gz177 : z177.toInt = ((σ.2.1 11) (Int32.toNatClampNeg (σ.1 30))).toInt := congrArg Int32.toInt (ez177.trans (congrFun ((congrArg (fun x9 : MS => x9.2.1 11) eτ174).trans ((tA rg_107).trans (((hx168 11 rg_104).2.1).trans (((hx158 11 rg_104).2.1).trans ((congrArg (fun x9 : MS => x9.2.1 11) eτ150).trans ((tA rg_106).trans (((hx144 11 rg_104).2.1).trans (((hx135 11 rg_104).2.1).trans ((congrArg (fun x9 : MS => x9.2.1 11) eτ127).trans ((tA rg_105).trans (((hx121 11 rg_104).2.1).trans (((hx112 11 rg_104).2.1).trans (((hx102 11 rg_104).2.1).trans ((congrArg (fun x9 : MS => x9.2.1 11) eτ10).trans (tJ.trans (((hx7 11 rg_103).2.1).trans rfl)))))))))))))))) (Int32.toNatClampNeg (σ.1 30))))
    have bz177 : 0 ≤ z177.toInt ∧ z177.toInt ≤ 2 := by rw [ez177]; exact (hIτ174.2 11) _ (cl_lt (n := 2) o3 o4)
    refine lv_iconst (v := 1) hx hb dX12_readRow_139 rg_6 ?_
    refine lv_iadd hx hb dX12_readRow_140 ?_
    refine lv_topi (fun z179 ez179 => ?_)
    have o29 : -2147483648 ≤ z177.toInt + 1 := by omega
    have o30 : z177.toInt + 1 ≤ 2147483647 := by omega
    have tz179 : z179.toInt = z177.toInt + 1 := ti_add ez179 rfl rg_18 o29 o30
    refine va_iast hx hb hK hP hD hS 3 2 rfl rfl (ti_inx o3 o4) dX12_readRow_141 (fun H locs hP hD hS => ?_)
    rw [wS11] at hP hD
    obtain ⟨τ180, eτ180⟩ : ∃ x9 : MS, x9 = sA τ174 11 (upd (τ174.2.1 11) (Int32.toNatClampNeg (σ.1 30)) z179) := ⟨_, rfl⟩
    have hP : va_P (dC, dI) vwCl (mW h ad cl τ180) H := by rw [eτ180]; exact hP
    have hD : va_D A (mW h ad cl τ180) := by rw [eτ180]; exact hD
    have o31 : (0 : Int) ≤ (z179 : Int32).toInt := by omega
    have o32 : (z179 : Int32).toInt ≤ 2 := by omega
    have hIτ180 : Inv τ180 := by rw [eτ180]; exact (Inv_sA1 hIτ174 (rgu (hIτ174.2 11) (show (0 : Int) ≤ (z179 : Int32).toInt ∧ (z179 : Int32).toInt ≤ 2 from ⟨o31, o32⟩)))
    have Xτ180 : eqx [6, 7, 8, 9, 10, 4, 5, 25, 14, 15, 16, 11] τ180 σ := (eqx.eq eτ180 (eqx.sA Xτ174 rg_108))
    have Mτ180 : Mo τ180 σ := Mo.eq eτ180 (fun h9 => Mτ174 h9)
    have Lτ180 : Lx τ180 σ := Lx.eq eτ180 Lτ174
    have qq181 : (τ180.1 30).toInt = ((σ.1 30) : Int32).toInt := congrArg Int32.toInt ((show τ180.1 30 = (σ.1 30) from (congrArg (fun x9 : MS => x9.1 30) eτ180).trans (show τ174.1 30 = (σ.1 30) from (congrArg (fun x9 : MS => x9.1 30) eτ174).trans (show τ165.1 30 = (σ.1 30) from ((hx168 30 rg_94).1).trans (show τ155.1 30 = (σ.1 30) from ((hx158 30 rg_94).1).trans (show τ150.1 30 = (σ.1 30) from (congrArg (fun x9 : MS => x9.1 30) eτ150).trans (show τ141.1 30 = (σ.1 30) from ((hx144 30 rg_94).1).trans (show τ132.1 30 = (σ.1 30) from ((hx135 30 rg_94).1).trans (show τ127.1 30 = (σ.1 30) from (congrArg (fun x9 : MS => x9.1 30) eτ127).trans (show τ118.1 30 = (σ.1 30) from ((hx121 30 rg_94).1).trans (show τ109.1 30 = (σ.1 30) from ((hx112 30 rg_94).1).trans (show τ99.1 30 = (σ.1 30) from ((hx102 30 rg_94).1).trans (show τ10.1 30 = (σ.1 30) from (congrArg (fun x9 : MS => x9.1 30) eτ10).trans (show τ4.1 30 = (σ.1 30) from ((hx7 30 rg_91).1).trans rfl))))))))))))))
    rw [hQ]
    have C11 : (τ180).2.1 11 = (upd (σ.2.1 11) (Int32.toNatClampNeg (σ.1 30)) z179) := ((congrArg (fun x9 : MS => x9.2.1 11) eτ180).trans (tAe.trans (congrArg (fun f9 => (upd f9 (Int32.toNatClampNeg (σ.1 30)) z179)) ((congrArg (fun x9 : MS => x9.2.1 11) eτ174).trans ((tA rg_107).trans (((hx168 11 rg_104).2.1).trans (((hx158 11 rg_104).2.1).trans ((congrArg (fun x9 : MS => x9.2.1 11) eτ150).trans ((tA rg_106).trans (((hx144 11 rg_104).2.1).trans (((hx135 11 rg_104).2.1).trans ((congrArg (fun x9 : MS => x9.2.1 11) eτ127).trans ((tA rg_105).trans (((hx121 11 rg_104).2.1).trans (((hx112 11 rg_104).2.1).trans (((hx102 11 rg_104).2.1).trans ((congrArg (fun x9 : MS => x9.2.1 11) eτ10).trans (tJ.trans (((hx7 11 rg_103).2.1).trans rfl)))))))))))))))))))
    have C12 : (τ180).2.1 12 = (σ.2.1 12) := ((congrArg (fun x9 : MS => x9.2.1 12) eτ180).trans ((tA rg_114).trans ((congrArg (fun x9 : MS => x9.2.1 12) eτ174).trans ((tA rg_113).trans (((hx168 12 rg_110).2.1).trans (((hx158 12 rg_110).2.1).trans ((congrArg (fun x9 : MS => x9.2.1 12) eτ150).trans ((tA rg_112).trans (((hx144 12 rg_110).2.1).trans (((hx135 12 rg_110).2.1).trans ((congrArg (fun x9 : MS => x9.2.1 12) eτ127).trans ((tA rg_111).trans (((hx121 12 rg_110).2.1).trans (((hx112 12 rg_110).2.1).trans (((hx102 12 rg_110).2.1).trans ((congrArg (fun x9 : MS => x9.2.1 12) eτ10).trans (tJ.trans (((hx7 12 rg_109).2.1).trans rfl))))))))))))))))))
    have C13 : (τ180).2.1 13 = (σ.2.1 13) := ((congrArg (fun x9 : MS => x9.2.1 13) eτ180).trans ((tA rg_120).trans ((congrArg (fun x9 : MS => x9.2.1 13) eτ174).trans ((tA rg_119).trans (((hx168 13 rg_116).2.1).trans (((hx158 13 rg_116).2.1).trans ((congrArg (fun x9 : MS => x9.2.1 13) eτ150).trans ((tA rg_118).trans (((hx144 13 rg_116).2.1).trans (((hx135 13 rg_116).2.1).trans ((congrArg (fun x9 : MS => x9.2.1 13) eτ127).trans ((tA rg_117).trans (((hx121 13 rg_116).2.1).trans (((hx112 13 rg_116).2.1).trans (((hx102 13 rg_116).2.1).trans ((congrArg (fun x9 : MS => x9.2.1 13) eτ10).trans (tJ.trans (((hx7 13 rg_115).2.1).trans rfl))))))))))))))))))
    have C14 : (τ180).2.1 14 = (upd (σ.2.1 14) (Int32.toNatClampNeg z3) z119) := ((congrArg (fun x9 : MS => x9.2.1 14) eτ180).trans ((tA rg_125).trans ((congrArg (fun x9 : MS => x9.2.1 14) eτ174).trans ((tA rg_124).trans (((hx168 14 rg_122).2.1).trans (((hx158 14 rg_122).2.1).trans ((congrArg (fun x9 : MS => x9.2.1 14) eτ150).trans ((tA rg_123).trans (((hx144 14 rg_122).2.1).trans (((hx135 14 rg_122).2.1).trans ((congrArg (fun x9 : MS => x9.2.1 14) eτ127).trans (tAe.trans (congrArg (fun f9 => (upd f9 (Int32.toNatClampNeg z3) z119)) (((hx121 14 rg_122).2.1).trans (((hx112 14 rg_122).2.1).trans (((hx102 14 rg_122).2.1).trans ((congrArg (fun x9 : MS => x9.2.1 14) eτ10).trans (tJ.trans (((hx7 14 rg_121).2.1).trans rfl)))))))))))))))))))
    have C15 : (τ180).2.1 15 = (upd (σ.2.1 15) (Int32.toNatClampNeg z3) z142) := ((congrArg (fun x9 : MS => x9.2.1 15) eτ180).trans ((tA rg_127).trans ((congrArg (fun x9 : MS => x9.2.1 15) eτ174).trans ((tA rg_126).trans (((hx168 15 rg_100).2.1).trans (((hx158 15 rg_100).2.1).trans ((congrArg (fun x9 : MS => x9.2.1 15) eτ150).trans (tAe.trans (congrArg (fun f9 => (upd f9 (Int32.toNatClampNeg z3) z142)) (((hx144 15 rg_100).2.1).trans (((hx135 15 rg_100).2.1).trans ((congrArg (fun x9 : MS => x9.2.1 15) eτ127).trans ((tA rg_101).trans (((hx121 15 rg_100).2.1).trans (((hx112 15 rg_100).2.1).trans (((hx102 15 rg_100).2.1).trans ((congrArg (fun x9 : MS => x9.2.1 15) eτ10).trans (tJ.trans (((hx7 15 rg_99).2.1).trans rfl)))))))))))))))))))
    have C16 : (τ180).2.1 16 = (upd (σ.2.1 16) (Int32.toNatClampNeg z3) z166) := ((congrArg (fun x9 : MS => x9.2.1 16) eτ180).trans ((tA rg_132).trans ((congrArg (fun x9 : MS => x9.2.1 16) eτ174).trans (tAe.trans (congrArg (fun f9 => (upd f9 (Int32.toNatClampNeg z3) z166)) (((hx168 16 rg_129).2.1).trans (((hx158 16 rg_129).2.1).trans ((congrArg (fun x9 : MS => x9.2.1 16) eτ150).trans ((tA rg_131).trans (((hx144 16 rg_129).2.1).trans (((hx135 16 rg_129).2.1).trans ((congrArg (fun x9 : MS => x9.2.1 16) eτ127).trans ((tA rg_130).trans (((hx121 16 rg_129).2.1).trans (((hx112 16 rg_129).2.1).trans (((hx102 16 rg_129).2.1).trans ((congrArg (fun x9 : MS => x9.2.1 16) eτ10).trans (tJ.trans (((hx7 16 rg_128).2.1).trans rfl)))))))))))))))))))
    have C17 : (τ180).2.1 17 = (σ.2.1 17) := ((congrArg (fun x9 : MS => x9.2.1 17) eτ180).trans ((tA rg_138).trans ((congrArg (fun x9 : MS => x9.2.1 17) eτ174).trans ((tA rg_137).trans (((hx168 17 rg_134).2.1).trans (((hx158 17 rg_134).2.1).trans ((congrArg (fun x9 : MS => x9.2.1 17) eτ150).trans ((tA rg_136).trans (((hx144 17 rg_134).2.1).trans (((hx135 17 rg_134).2.1).trans ((congrArg (fun x9 : MS => x9.2.1 17) eτ127).trans ((tA rg_135).trans (((hx121 17 rg_134).2.1).trans (((hx112 17 rg_134).2.1).trans (((hx102 17 rg_134).2.1).trans ((congrArg (fun x9 : MS => x9.2.1 17) eτ10).trans (tJ.trans (((hx7 17 rg_133).2.1).trans rfl))))))))))))))))))
    have C18 : (τ180).2.1 18 = (σ.2.1 18) := ((congrArg (fun x9 : MS => x9.2.1 18) eτ180).trans ((tA rg_144).trans ((congrArg (fun x9 : MS => x9.2.1 18) eτ174).trans ((tA rg_143).trans (((hx168 18 rg_140).2.1).trans (((hx158 18 rg_140).2.1).trans ((congrArg (fun x9 : MS => x9.2.1 18) eτ150).trans ((tA rg_142).trans (((hx144 18 rg_140).2.1).trans (((hx135 18 rg_140).2.1).trans ((congrArg (fun x9 : MS => x9.2.1 18) eτ127).trans ((tA rg_141).trans (((hx121 18 rg_140).2.1).trans (((hx112 18 rg_140).2.1).trans (((hx102 18 rg_140).2.1).trans ((congrArg (fun x9 : MS => x9.2.1 18) eτ10).trans (tJ.trans (((hx7 18 rg_139).2.1).trans rfl))))))))))))))))))
    have C19 : (τ180).2.1 19 = (σ.2.1 19) := ((congrArg (fun x9 : MS => x9.2.1 19) eτ180).trans ((tA rg_150).trans ((congrArg (fun x9 : MS => x9.2.1 19) eτ174).trans ((tA rg_149).trans (((hx168 19 rg_146).2.1).trans (((hx158 19 rg_146).2.1).trans ((congrArg (fun x9 : MS => x9.2.1 19) eτ150).trans ((tA rg_148).trans (((hx144 19 rg_146).2.1).trans (((hx135 19 rg_146).2.1).trans ((congrArg (fun x9 : MS => x9.2.1 19) eτ127).trans ((tA rg_147).trans (((hx121 19 rg_146).2.1).trans (((hx112 19 rg_146).2.1).trans (((hx102 19 rg_146).2.1).trans ((congrArg (fun x9 : MS => x9.2.1 19) eτ10).trans (tJ.trans (((hx7 19 rg_145).2.1).trans rfl))))))))))))))))))
    have C20 : (τ180).2.1 20 = (σ.2.1 20) := ((congrArg (fun x9 : MS => x9.2.1 20) eτ180).trans ((tA rg_156).trans ((congrArg (fun x9 : MS => x9.2.1 20) eτ174).trans ((tA rg_155).trans (((hx168 20 rg_152).2.1).trans (((hx158 20 rg_152).2.1).trans ((congrArg (fun x9 : MS => x9.2.1 20) eτ150).trans ((tA rg_154).trans (((hx144 20 rg_152).2.1).trans (((hx135 20 rg_152).2.1).trans ((congrArg (fun x9 : MS => x9.2.1 20) eτ127).trans ((tA rg_153).trans (((hx121 20 rg_152).2.1).trans (((hx112 20 rg_152).2.1).trans (((hx102 20 rg_152).2.1).trans ((congrArg (fun x9 : MS => x9.2.1 20) eτ10).trans (tJ.trans (((hx7 20 rg_151).2.1).trans rfl))))))))))))))))))
    have C21 : (τ180).2.1 21 = (σ.2.1 21) := ((congrArg (fun x9 : MS => x9.2.1 21) eτ180).trans ((tA rg_162).trans ((congrArg (fun x9 : MS => x9.2.1 21) eτ174).trans ((tA rg_161).trans (((hx168 21 rg_158).2.1).trans (((hx158 21 rg_158).2.1).trans ((congrArg (fun x9 : MS => x9.2.1 21) eτ150).trans ((tA rg_160).trans (((hx144 21 rg_158).2.1).trans (((hx135 21 rg_158).2.1).trans ((congrArg (fun x9 : MS => x9.2.1 21) eτ127).trans ((tA rg_159).trans (((hx121 21 rg_158).2.1).trans (((hx112 21 rg_158).2.1).trans (((hx102 21 rg_158).2.1).trans ((congrArg (fun x9 : MS => x9.2.1 21) eτ10).trans (tJ.trans (((hx7 21 rg_157).2.1).trans rfl))))))))))))))))))
    have C22 : (τ180).2.1 22 = (σ.2.1 22) := ((congrArg (fun x9 : MS => x9.2.1 22) eτ180).trans ((tA rg_168).trans ((congrArg (fun x9 : MS => x9.2.1 22) eτ174).trans ((tA rg_167).trans (((hx168 22 rg_164).2.1).trans (((hx158 22 rg_164).2.1).trans ((congrArg (fun x9 : MS => x9.2.1 22) eτ150).trans ((tA rg_166).trans (((hx144 22 rg_164).2.1).trans (((hx135 22 rg_164).2.1).trans ((congrArg (fun x9 : MS => x9.2.1 22) eτ127).trans ((tA rg_165).trans (((hx121 22 rg_164).2.1).trans (((hx112 22 rg_164).2.1).trans (((hx102 22 rg_164).2.1).trans ((congrArg (fun x9 : MS => x9.2.1 22) eτ10).trans (tJ.trans (((hx7 22 rg_163).2.1).trans rfl))))))))))))))))))
    have CS : ∀ p9, 17 ≤ p9 → p9 ≤ 22 → (τ180).2.1 p9 = σ.2.1 p9 := fun p9 h1 h2 => by rcases (show p9 = 17 ∨ p9 = 18 ∨ p9 = 19 ∨ p9 = 20 ∨ p9 = 21 ∨ p9 = 22 by omega) with rfl | rfl | rfl | rfl | rfl | rfl <;> first | exact C17 | exact C18 | exact C19 | exact C20 | exact C21 | exact C22
    have o33 : (σ.1 30).toInt ≤ 1 := by omega
    have o34 : 0 ≤ z2.toInt := by omega
    have o35 : z2.toInt ≤ 1 := by omega
    have o36 : z3.toInt = 2 * (σ.1 30).toInt + z2.toInt := by omega
    have o37 : z179.toInt = z2.toInt + 1 := by omega
    have o38 : 1 ≤ z119.toInt := by omega
    have o39 : z119.toInt ≤ 6 := by omega
    have o40 : -999 ≤ z142.toInt := by omega
    have o41 : z142.toInt ≤ z166.toInt := by omega
    have o42 : z166.toInt ≤ 999 := by omega
    have RR := rel_row hI ⟨o3, o33⟩ ez2 o34 o35 o36 C11 C12 C13 C14 C15 C16 CS o37 ⟨o38, o39⟩ o40 ⟨o41, o42⟩
    have JJ : ∀ p9, p9 = 27 ∨ p9 = 28 → (τ180).2.2.1 p9 = σ.2.2.1 p9 := (fun p9 h9 => (congrArg (fun x9 : MS => x9.2.2.1 p9) eτ180).trans ((fun p9 h9 => (congrArg (fun x9 : MS => x9.2.2.1 p9) eτ174).trans ((fun p9 h9 => ((hx168 p9 (rg_559 p9 h9)).2.2.1).trans ((fun p9 h9 => ((hx158 p9 (rg_559 p9 h9)).2.2.1).trans ((fun p9 h9 => (congrArg (fun x9 : MS => x9.2.2.1 p9) eτ150).trans ((fun p9 h9 => ((hx144 p9 (rg_559 p9 h9)).2.2.1).trans ((fun p9 h9 => ((hx135 p9 (rg_559 p9 h9)).2.2.1).trans ((fun p9 h9 => (congrArg (fun x9 : MS => x9.2.2.1 p9) eτ127).trans ((fun p9 h9 => ((hx121 p9 (rg_559 p9 h9)).2.2.1).trans ((fun p9 h9 => ((hx112 p9 (rg_559 p9 h9)).2.2.1).trans ((fun p9 h9 => ((hx102 p9 (rg_559 p9 h9)).2.2.1).trans ((fun p9 h9 => (congrArg (fun x9 : MS => x9.2.2.1 p9) eτ10).trans ((if_neg (by omega)).trans ((fun p9 h9 => ((hx7 p9 (rg_558 p9 h9)).2.2.1).trans ((fun _ _ => rfl) p9 h9)) p9 h9))) p9 h9)) p9 h9)) p9 h9)) p9 h9)) p9 h9)) p9 h9)) p9 h9)) p9 h9)) p9 h9)) p9 h9)) p9 h9))
    have RJ := relj_row hI ⟨o3, o33⟩ ez2 o34 o36 C12 C14 C15 C16 CS JJ
    exact W.vret hx hb hr (fun t ht hW => ⟨⟨τ180, rfl, ⟨hIτ180, Xτ180, RR.1, RR.2, RJ, (fun bk _ _ => SameJ.eqs JJ), Mτ180, Lτ180⟩, wEn_of hP (hK.sub [] rfl) hD ht hW⟩, hS.F ht⟩) hS.2.2 dX12_readRow_142
