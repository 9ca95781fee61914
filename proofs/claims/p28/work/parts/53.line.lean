
theorem rg_563 : ∀ q, q = 27 ∨ q = 28 → q ∉ [6, 7, 8, 9, 10] := by intro q h1 h; simp at h; omega
theorem rg_564 : ∀ q, 11 ≤ q → q ≤ 21 → q ≠ 13 → q ∉ [6, 7, 8, 9, 10, 4, 5, 22, 23, 24, 13] := by intro q h1 h2 h3 h; simp at h; omega
theorem rg_565 : ∀ q, q = 27 ∨ q = 28 → q ∉ [6, 7, 8, 9, 10, 4, 5, 22, 23, 24, 13] := by intro q h1 h; simp at h; omega
def ow_n_readLineV : List Cond := [.constantLong RX12 143 (7499639), .constantLong RX12 179 (6647396), .fieldLink RX12 24 "NearEnoughModel" "stepMany" "[I", .fieldLink RX12 243 "NearEnoughModel" "rb" "I", .fieldLink RX12 27 "NearEnoughModel" "endMany" "[I", .fieldLink RX12 20 "NearEnoughModel" "rowMany" "[I"]
def vs_n_readLineV : List Cond := .code yX12_readLine cX12_readLine 4 none :: (ow_n_readLineV ++ (([.methodLink RX12 234 yX12_is, .instanceMethod yX12_is, .selects RX12 yX12_is yX12_is, .initialized RX12] : List Cond) ++ (vs_n_is ++ (([.methodLink RX12 278 yX12_must, .instanceMethod yX12_must, .selects RX12 yX12_must yX12_must, .initialized RX12] : List Cond) ++ (vs_n_must ++ (([.methodLink RX12 224 yX12_isGood, .instanceMethod yX12_isGood, .selects RX12 yX12_isGood yX12_isGood, .initialized RX12] : List Cond) ++ (vs_n_isGood ++ (([.methodLink RX12 228 yX12_next, .instanceMethod yX12_next, .selects RX12 yX12_next yX12_next, .initialized RX12] : List Cond) ++ (vs_n_next ++ (([.methodLink RX12 274 yX12_readStep, .instanceMethod yX12_readStep, .selects RX12 yX12_readStep yX12_readStep, .initialized RX12] : List Cond) ++ (vs_n_readStepV ++ (([.methodLink RX12 271 yX12_readEnd, .instanceMethod yX12_readEnd, .selects RX12 yX12_readEnd yX12_readEnd, .initialized RX12] : List Cond) ++ (vs_n_readEnd ++ (([.methodLink RX12 268 yX12_readRow, .instanceMethod yX12_readRow, .selects RX12 yX12_readRow yX12_readRow, .initialized RX12] : List Cond) ++ (vs_n_readRowV ++ (([.methodLink RX12 231 yX12_wrong, .instanceMethod yX12_wrong, .selects RX12 yX12_wrong yX12_wrong, .initialized RX12] : List Cond) ++ (vs_n_wrong ++ (([.methodLink RX12 261 yX12_isWord, .instanceMethod yX12_isWord, .selects RX12 yX12_isWord yX12_isWord, .initialized RX12] : List Cond) ++ (vs_n_isWord ++ (([.methodLink RX12 264 yX12_kindHere, .instanceMethod yX12_kindHere, .selects RX12 yX12_kindHere yX12_kindHere, .initialized RX12] : List Cond) ++ (vs_n_kindHere ++ (wsX120))))))))))))))))))))))
theorem vg_n_readLineV : vs_n_readLineV.all goodWord = true := by decide +kernel
theorem dd_n_readLineV : yX12_readLine.cls = RX12 ∧ yX12_readLine.cls ≠ "java/lang/invoke/MethodHandle" ∧ yX12_readLine.cls ≠ "java/lang/invoke/VarHandle" ∧ (parseMethodDescriptor yX12_readLine.desc).map (fun d => d.parameters.length) = some 0 := by decide +kernel
def rm_n_readLineV : Room := { frames := 5, cells := 0, slots := 0, locals := 109 }
theorem gd_n_readLineV_234_n_is : GoodIn vs_n_readLineV (wsV RX12 234 RX12 yX12_is vs_n_is) := goodIn_app (goodIn_sub (fun w h => (List.mem_cons_of_mem _ (List.mem_append_right _ (List.mem_append_left _ h)))) (by decide +kernel)) (goodIn_sub (fun w h => (List.mem_cons_of_mem _ (List.mem_append_right _ (List.mem_append_right _ (List.mem_append_left _ h))))) vg_n_is)
theorem gd_n_readLineV_278_n_must : GoodIn vs_n_readLineV (wsV RX12 278 RX12 yX12_must vs_n_must) := goodIn_app (goodIn_sub (fun w h => (List.mem_cons_of_mem _ (List.mem_append_right _ (List.mem_append_right _ (List.mem_append_right _ (List.mem_append_left _ h)))))) (by decide +kernel)) (goodIn_sub (fun w h => (List.mem_cons_of_mem _ (List.mem_append_right _ (List.mem_append_right _ (List.mem_append_right _ (List.mem_append_right _ (List.mem_append_left _ h))))))) vg_n_must)
theorem gd_n_readLineV_224_n_isGood : GoodIn vs_n_readLineV (wsV RX12 224 RX12 yX12_isGood vs_n_isGood) := goodIn_app (goodIn_sub (fun w h => (List.mem_cons_of_mem _ (List.mem_append_right _ (List.mem_append_right _ (List.mem_append_right _ (List.mem_append_right _ (List.mem_append_right _ (List.mem_append_left _ h)))))))) (by decide +kernel)) (goodIn_sub (fun w h => (List.mem_cons_of_mem _ (List.mem_append_right _ (List.mem_append_right _ (List.mem_append_right _ (List.mem_append_right _ (List.mem_append_right _ (List.mem_append_right _ (List.mem_append_left _ h))))))))) vg_n_isGood)
theorem gd_n_readLineV_228_n_next : GoodIn vs_n_readLineV (wsV RX12 228 RX12 yX12_next vs_n_next) := goodIn_app (goodIn_sub (fun w h => (List.mem_cons_of_mem _ (List.mem_append_right _ (List.mem_append_right _ (List.mem_append_right _ (List.mem_append_right _ (List.mem_append_right _ (List.mem_append_right _ (List.mem_append_right _ (List.mem_append_left _ h)))))))))) (by decide +kernel)) (goodIn_sub (fun w h => (List.mem_cons_of_mem _ (List.mem_append_right _ (List.mem_append_right _ (List.mem_append_right _ (List.mem_append_right _ (List.mem_append_right _ (List.mem_append_right _ (List.mem_append_right _ (List.mem_append_right _ (List.mem_append_left _ h))))))))))) vg_n_next)
theorem gd_n_readLineV_274_n_readStepV : GoodIn vs_n_readLineV (wsV RX12 274 RX12 yX12_readStep vs_n_readStepV) := goodIn_app (goodIn_sub (fun w h => (List.mem_cons_of_mem _ (List.mem_append_right _ (List.mem_append_right _ (List.mem_append_right _ (List.mem_append_right _ (List.mem_append_right _ (List.mem_append_right _ (List.mem_append_right _ (List.mem_append_right _ (List.mem_append_right _ (List.mem_append_left _ h)))))))))))) (by decide +kernel)) (goodIn_sub (fun w h => (List.mem_cons_of_mem _ (List.mem_append_right _ (List.mem_append_right _ (List.mem_append_right _ (List.mem_append_right _ (List.mem_append_right _ (List.mem_append_right _ (List.mem_append_right _ (List.mem_append_right _ (List.mem_append_right _ (List.mem_append_right _ (List.mem_append_left _ h))))))))))))) vg_n_readStepV)
theorem gd_n_readLineV_271_n_readEnd : GoodIn vs_n_readLineV (wsV RX12 271 RX12 yX12_readEnd vs_n_readEnd) := goodIn_app (goodIn_sub (fun w h => (List.mem_cons_of_mem _ (List.mem_append_right _ (List.mem_append_right _ (List.mem_append_right _ (List.mem_append_right _ (List.mem_append_right _ (List.mem_append_right _ (List.mem_append_right _ (List.mem_append_right _ (List.mem_append_right _ (List.mem_append_right _ (List.mem_append_right _ (List.mem_append_left _ h)))))))))))))) (by decide +kernel)) (goodIn_sub (fun w h => (List.mem_cons_of_mem _ (List.mem_append_right _ (List.mem_append_right _ (List.mem_append_right _ (List.mem_append_right _ (List.mem_append_right _ (List.mem_append_right _ (List.mem_append_right _ (List.mem_append_right _ (List.mem_append_right _ (List.mem_append_right _ (List.mem_append_right _ (List.mem_append_right _ (List.mem_append_left _ h))))))))))))))) vg_n_readEnd)
theorem gd_n_readLineV_268_n_readRowV : GoodIn vs_n_readLineV (wsV RX12 268 RX12 yX12_readRow vs_n_readRowV) := goodIn_app (goodIn_sub (fun w h => (List.mem_cons_of_mem _ (List.mem_append_right _ (List.mem_append_right _ (List.mem_append_right _ (List.mem_append_right _ (List.mem_append_right _ (List.mem_append_right _ (List.mem_append_right _ (List.mem_append_right _ (List.mem_append_right _ (List.mem_append_right _ (List.mem_append_right _ (List.mem_append_right _ (List.mem_append_right _ (List.mem_append_left _ h)))))))))))))))) (by decide +kernel)) (goodIn_sub (fun w h => (List.mem_cons_of_mem _ (List.mem_append_right _ (List.mem_append_right _ (List.mem_append_right _ (List.mem_append_right _ (List.mem_append_right _ (List.mem_append_right _ (List.mem_append_right _ (List.mem_append_right _ (List.mem_append_right _ (List.mem_append_right _ (List.mem_append_right _ (List.mem_append_right _ (List.mem_append_right _ (List.mem_append_right _ (List.mem_append_left _ h))))))))))))))))) vg_n_readRowV)
theorem gd_n_readLineV_231_n_wrong : GoodIn vs_n_readLineV (wsV RX12 231 RX12 yX12_wrong vs_n_wrong) := goodIn_app (goodIn_sub (fun w h => (List.mem_cons_of_mem _ (List.mem_append_right _ (List.mem_append_right _ (List.mem_append_right _ (List.mem_append_right _ (List.mem_append_right _ (List.mem_append_right _ (List.mem_append_right _ (List.mem_append_right _ (List.mem_append_right _ (List.mem_append_right _ (List.mem_append_right _ (List.mem_append_right _ (List.mem_append_right _ (List.mem_append_right _ (List.mem_append_right _ (List.mem_append_left _ h)))))))))))))))))) (by decide +kernel)) (goodIn_sub (fun w h => (List.mem_cons_of_mem _ (List.mem_append_right _ (List.mem_append_right _ (List.mem_append_right _ (List.mem_append_right _ (List.mem_append_right _ (List.mem_append_right _ (List.mem_append_right _ (List.mem_append_right _ (List.mem_append_right _ (List.mem_append_right _ (List.mem_append_right _ (List.mem_append_right _ (List.mem_append_right _ (List.mem_append_right _ (List.mem_append_right _ (List.mem_append_right _ (List.mem_append_left _ h))))))))))))))))))) vg_n_wrong)
theorem gd_n_readLineV_261_n_isWord : GoodIn vs_n_readLineV (wsV RX12 261 RX12 yX12_isWord vs_n_isWord) := goodIn_app (goodIn_sub (fun w h => (List.mem_cons_of_mem _ (List.mem_append_right _ (List.mem_append_right _ (List.mem_append_right _ (List.mem_append_right _ (List.mem_append_right _ (List.mem_append_right _ (List.mem_append_right _ (List.mem_append_right _ (List.mem_append_right _ (List.mem_append_right _ (List.mem_append_right _ (List.mem_append_right _ (List.mem_append_right _ (List.mem_append_right _ (List.mem_append_right _ (List.mem_append_right _ (List.mem_append_right _ (List.mem_append_left _ h)))))))))))))))))))) (by decide +kernel)) (goodIn_sub (fun w h => (List.mem_cons_of_mem _ (List.mem_append_right _ (List.mem_append_right _ (List.mem_append_right _ (List.mem_append_right _ (List.mem_append_right _ (List.mem_append_right _ (List.mem_append_right _ (List.mem_append_right _ (List.mem_append_right _ (List.mem_append_right _ (List.mem_append_right _ (List.mem_append_right _ (List.mem_append_right _ (List.mem_append_right _ (List.mem_append_right _ (List.mem_append_right _ (List.mem_append_right _ (List.mem_append_right _ (List.mem_append_left _ h))))))))))))))))))))) vg_n_isWord)
theorem gd_n_readLineV_264_n_kindHere : GoodIn vs_n_readLineV (wsV RX12 264 RX12 yX12_kindHere vs_n_kindHere) := goodIn_app (goodIn_sub (fun w h => (List.mem_cons_of_mem _ (List.mem_append_right _ (List.mem_append_right _ (List.mem_append_right _ (List.mem_append_right _ (List.mem_append_right _ (List.mem_append_right _ (List.mem_append_right _ (List.mem_append_right _ (List.mem_append_right _ (List.mem_append_right _ (List.mem_append_right _ (List.mem_append_right _ (List.mem_append_right _ (List.mem_append_right _ (List.mem_append_right _ (List.mem_append_right _ (List.mem_append_right _ (List.mem_append_right _ (List.mem_append_right _ (List.mem_append_left _ h)))))))))))))))))))))) (by decide +kernel)) (goodIn_sub (fun w h => (List.mem_cons_of_mem _ (List.mem_append_right _ (List.mem_append_right _ (List.mem_append_right _ (List.mem_append_right _ (List.mem_append_right _ (List.mem_append_right _ (List.mem_append_right _ (List.mem_append_right _ (List.mem_append_right _ (List.mem_append_right _ (List.mem_append_right _ (List.mem_append_right _ (List.mem_append_right _ (List.mem_append_right _ (List.mem_append_right _ (List.mem_append_right _ (List.mem_append_right _ (List.mem_append_right _ (List.mem_append_right _ (List.mem_append_right _ (List.mem_append_left _ h))))))))))))))))))))))) vg_n_kindHere)
set_option maxHeartbeats 4000000 in
set_option maxRecDepth 100000 in
theorem n_readLineV (l : Launch) (dC : Nat → ClassId) (dI : Nat → Nat → Nat) (h : Nat) (ad : Nat → Nat) (cl : Nat → ClassId) (sz : Nat) (σ : MS)  (hI : Inv σ) (hes : Es σ) : Met l yX12_readLine vs_n_readLineV rm_n_readLineV (va_Pc [.ref h] (wSt dC dI (mW h ad cl σ) (mT cl) sz)) (va_Qv (fun (τ : MS) => Inv τ ∧ eqx [6, 7, 8, 9, 10, 4, 5, 25, 14, 15, 16, 11, 17, 18, 19, 20, 21, 27, 28, 26, 12, 22, 23, 24, 13] τ σ ∧ ((τ.1 4).toInt = 0 → Pg τ σ) ∧ ((τ.1 4).toInt = 0 → RelP σ (σ.1 30).toNatClampNeg → RelP τ (σ.1 30).toNatClampNeg) ∧ (∀ bk, bk < 2 → bk ≠ (σ.1 30).toNatClampNeg → SameB τ σ bk) ∧ ((τ.1 4).toInt = 0 → RelP σ (σ.1 30).toNatClampNeg → RelJ σ (σ.1 30).toNatClampNeg → RelJ τ (σ.1 30).toNatClampNeg) ∧ (∀ bk, bk < 2 → bk ≠ (σ.1 30).toNatClampNeg → SameJ τ σ bk) ∧ Mo τ σ ∧ Lx τ σ) (fun (τ : MS) => wEn dC dI (va_A (mW h ad cl σ) sz) (mW h ad cl τ) []) (va_A (mW h ad cl σ) sz)) 0 0 (va_A (mW h ad cl σ) sz) := by
  refine Met.ofW (cc := cX12_readLine) (maxL := 4) (ret := none) (by decide) rfl ?_
  intro p e s m args below meth c s₁ B hml hv
  obtain ⟨rfl, hsz, hP, hK, hD0, hE⟩ := hv
  have hx := B.exec
  have hb := B.bytes
  have hr := B.returns
  have hts := atoms_spec (ws := vs_n_readLineV) B.pre
  have hown : s.vm.findClass RX12 = some m.cls := findClass_of_methodNamed B.named
  have hlocks := B.notSynchronized
  subst hsz
  have hD := hD0.self (sz := s.heap.size)
  generalize hAe : va_A (mW h ad cl σ) s.heap.size = A at hD ⊢
  have hA : ∀ q : Nat, s.heap.size ≤ q → A q := fun q h => by rw [← hAe]; exact Or.inr h
  have hl := lv_entry ([.ref h]) (n := 4) (Nat.le_of_ble_eq_true rfl)
  rw [lg_entry_eq]
  generalize (lg_sl ([.ref h]) ++ List.replicate (4 - (lg_sl ([.ref h])).length) Slot.unset).toArray = ls at hl ⊢
  have hl : lv_has ls 4 [(0, .ref h)] := hl
  have ho := fun w (h : w ∈ ow_n_readLineV) => hts w (List.mem_cons_of_mem _ (List.mem_append_left _ h))
  have hin12 : ∀ w ∈ u_ws RX12 TX12 59, w ∈ vs_n_readLineV := fun w h => (List.mem_cons_of_mem _ (List.mem_append_right _ (List.mem_append_right _ (List.mem_append_right _ (List.mem_append_right _ (List.mem_append_right _ (List.mem_append_right _ (List.mem_append_right _ (List.mem_append_right _ (List.mem_append_right _ (List.mem_append_right _ (List.mem_append_right _ (List.mem_append_right _ (List.mem_append_right _ (List.mem_append_right _ (List.mem_append_right _ (List.mem_append_right _ (List.mem_append_right _ (List.mem_append_right _ (List.mem_append_right _ (List.mem_append_right _ (List.mem_append_right _ h))))))))))))))))))))))
  refine zQ (fun Q hQ => ?_)
  have bn12 : 0 ≤ (σ.2.1 12 (σ.1 30).toNatClampNeg).toInt ∧ (σ.2.1 12 (σ.1 30).toNatClampNeg).toInt ≤ 12 := hI.2 12 _ (cl_lt (n := 2) (hI.1 30).1 (Int.lt_of_le_of_lt (hI.1 30).2 (by decide)))
  have bn11 : 0 ≤ (σ.2.1 11 (σ.1 30).toNatClampNeg).toInt ∧ (σ.2.1 11 (σ.1 30).toNatClampNeg).toInt ≤ 2 := hI.2 11 _ (cl_lt (n := 2) (hI.1 30).1 (Int.lt_of_le_of_lt (hI.1 30).2 (by decide)))
  have brb : 0 ≤ (σ.1 30).toInt ∧ (σ.1 30).toInt ≤ 1 := hI.1 30
  have bn13 : 0 ≤ (σ.2.1 13 (σ.1 30).toNatClampNeg).toInt ∧ (σ.2.1 13 (σ.1 30).toNatClampNeg).toInt ≤ 4 := hI.2 13 _ (cl_lt (n := 2) (hI.1 30).1 (Int.lt_of_le_of_lt (hI.1 30).2 (by decide)))
  have pt_128 : ∀ (τ : MS) (H : Heap) (locs : List Loc) (ls : Array Slot), (Inv τ) → (eqx [6, 7, 8, 9, 10, 4, 5, 25, 14, 15, 16, 11, 17, 18, 19, 20, 21, 27, 28, 26, 12, 22, 23, 24, 13] τ σ) → (Mo τ σ) → (Lx τ σ) → (When τ (RelP σ (σ.1 30).toNatClampNeg → RelJ σ (σ.1 30).toNatClampNeg → RelJ τ (σ.1 30).toNatClampNeg)) → (∀ bk, bk < 2 → bk ≠ (σ.1 30).toNatClampNeg → SameJ τ σ bk) → (When τ (RelP σ (σ.1 30).toNatClampNeg → RelP τ (σ.1 30).toNatClampNeg)) → (∀ bk, bk < 2 → bk ≠ (σ.1 30).toNatClampNeg → SameB τ σ bk) → (Pg τ σ) → va_P (dC, dI) vwCl (mW h ad cl τ) H → va_D A (mW h ad cl τ) → va_S A s.heap H locs → lv_has ls 4 [(0, .ref h)] → W p l e (headSpec vs_n_readLineV rm_n_readLineV).room s m #[Value.ref h] below meth c H locs 0 0 Q (F0 m 128 ls []) := by
    intro τ H locs ls hIτ hxτ hmτ hgτ hJr hJo hw0 hoth hpg hP hD hS hl
    refine lv_aload_n hx hb dX12_readLine_128 rfl (lv_at hl 0 rfl) ?_
    refine lv_aload_n hx hb dX12_readLine_129 rfl (lv_at hl 0 rfl) ?_
    refine lv_bipush (v := 59) hx hb dX12_readLine_130 rg_36 ?_
    have kk1 : (59 : Int32).toInt = 59 := rg_37
    refine zy_i (va_runV (As := [.int 59]) (rest := [.ref h]) ⟨hx, hb, hml, hown, hts⟩ (n_is l dC dI h ad cl H.size τ 59 hIτ) (cwV 1 hts gd_n_readLineV_234_n_is rfl rfl rfl dd_n_is ⟨Nat.le_of_ble_eq_true rfl, Nat.le_of_ble_eq_true rfl⟩) (preV hP hK hD hE (ci := 12) (q0 := 0) rfl rfl) rfl rfl hl.1 rfl (lv_room (Nat.le_of_ble_eq_true rfl)) dX12_readLine_132 ⟨Nat.le_of_ble_eq_true rfl, Nat.le_of_ble_eq_true rfl⟩) hD hS hA (fun z3 τ2 H locs hq hP hD hS => ?_)
    obtain ⟨rfl, f4⟩ := hq
    refine W.widen (k := 0) (n := 0) (Nat.le_of_ble_eq_true rfl) (Nat.le_of_ble_eq_true rfl) ?_
    refine zy_v (va_runV (As := [.int z3]) (rest := []) ⟨hx, hb, hml, hown, hts⟩ (n_must l dC dI h ad cl H.size τ z3 hIτ (Lx.es hgτ)) (cwV 1 hts gd_n_readLineV_278_n_must rfl rfl rfl dd_n_must ⟨Nat.le_of_ble_eq_true rfl, Nat.le_of_ble_eq_true rfl⟩) (preV hP hK hD hE (ci := 12) (q0 := 0) rfl rfl) rfl rfl hl.1 rfl (lv_room (Nat.le_of_ble_eq_true rfl)) dX12_readLine_135 ⟨Nat.le_of_ble_eq_true rfl, Nat.le_of_ble_eq_true rfl⟩) hD hS hA (fun τ5 H locs hq hP hD hS => ?_)
    obtain ⟨hI7, hx8, mo9, lx10⟩ := hq
    have Xτ5 : eqx [6, 7, 8, 9, 10, 4, 5, 25, 14, 15, 16, 11, 17, 18, 19, 20, 21, 27, 28, 26, 12, 22, 23, 24, 13] τ5 σ := eqx.tr hx8 hxτ rg_439
    have Mτ5 : Mo τ5 σ := Mo.tr mo9 (fun h9 => hmτ h9)
    have Lτ5 : Lx τ5 σ := Lx.tr lx10 hgτ
    have W11 : When τ5 (RelP σ (σ.1 30).toNatClampNeg → RelJ σ (σ.1 30).toNatClampNeg → RelJ τ (σ.1 30).toNatClampNeg) := When.mo hJr mo9
    have W12 : When τ5 (RelP σ (σ.1 30).toNatClampNeg → RelP τ (σ.1 30).toNatClampNeg) := When.mo hw0 mo9
    refine W.widen (k := 0) (n := 0) (Nat.le_of_ble_eq_true rfl) (Nat.le_of_ble_eq_true rfl) ?_
    rw [hQ]
    exact W.vret hx hb hr (fun t ht hW => ⟨⟨τ5, rfl, ⟨hI7, Xτ5, (fun _ => Pg.tr hpg lx10), (fun h9 hr9 => ((W12 h9) hr9).eqs (eqx.tab hx8 rg_440)), (fun bk b1 b2 => (SameB.eqs (eqx.tab hx8 rg_440)).tr (hoth bk b1 b2)), (fun h9 hP9 hJ9 => RelJ.eqs hIτ (rj_bk hI) ((W12 h9) hP9) ((W11 h9) hP9 hJ9) (fun p9 h1 h2 _ => (eqx.tab hx8 rg_440) p9 h1 (by omega)) (fun p9 h9 => (hx8 p9 (rg_559 p9 h9)).2.2.1)), (fun bk b1 b2 => (SameJ.eqs (fun p9 h9 => (hx8 p9 (rg_559 p9 h9)).2.2.1)).tr (hJo bk b1 b2)), Mτ5, Lτ5⟩, wEn_of hP (hK.sub [] rfl) hD ht hW⟩, hS.F ht⟩) hS.2.2 dX12_readLine_138
  have pt_89 : ∀ (τ : MS) (row : Int32) (last : Int32) (kd : Int32) (H : Heap) (locs : List Loc) (ls : Array Slot), (Inv τ) → (eqx [6, 7, 8, 9, 10, 4, 5, 25, 14, 15, 16, 11, 17, 18, 19, 20, 21, 27, 28, 26, 12, 22, 23, 24, 13] τ σ) → (Mo τ σ) → (Lx τ σ) → (eqx [4, 5] τ σ) → (-1 ≤ kd.toInt ∧ kd.toInt ≤ 7) → (When τ ((row.toInt ≠ 0 → (σ.2.1 11 (σ.1 30).toNatClampNeg).toInt ≤ 1) ∧ (row.toInt = 0 → last.toInt ≠ 0 → (σ.2.1 13 (σ.1 30).toNatClampNeg).toInt ≤ 3) ∧ (row.toInt = 0 → last.toInt = 0 → 0 ≤ kd.toInt ∧ (σ.2.1 12 (σ.1 30).toNatClampNeg).toInt ≤ 11))) → va_P (dC, dI) vwCl (mW h ad cl τ) H → va_D A (mW h ad cl τ) → va_S A s.heap H locs → lv_has ls 4 [(0, .ref h), (1, .int row), (2, .int last), (3, .int kd)] → W p l e (headSpec vs_n_readLineV rm_n_readLineV).room s m #[Value.ref h] below meth c H locs 0 0 Q (F0 m 89 ls []) := by
    intro τ row last kd H locs ls hIτ hxτ hmτ hgτ hxw hkd hw0 hP hD hS hl
    refine lv_aload_n hx hb dX12_readLine_89 rfl (lv_at hl 0 rfl) ?_
    refine zy_i (va_runV (As := []) (rest := []) ⟨hx, hb, hml, hown, hts⟩ (n_isGood l dC dI h ad cl H.size τ  hIτ) (cwV 0 hts gd_n_readLineV_224_n_isGood rfl rfl rfl dd_n_isGood ⟨Nat.le_of_ble_eq_true rfl, Nat.le_of_ble_eq_true rfl⟩) (preV hP hK hD hE (ci := 12) (q0 := 0) rfl rfl) rfl rfl hl.1 rfl (lv_room (Nat.le_of_ble_eq_true rfl)) dX12_readLine_90 ⟨Nat.le_of_ble_eq_true rfl, Nat.le_of_ble_eq_true rfl⟩) hD hS hA (fun z14 τ13 H locs hq hP hD hS => ?_)
    obtain ⟨rfl, f15⟩ := hq
    refine W.widen (k := 0) (n := 0) (Nat.le_of_ble_eq_true rfl) (Nat.le_of_ble_eq_true rfl) ?_
    refine lv_if_ne (tgt := 97) hx hb dX12_readLine_93 rfl (fun c16 => ?_) (fun c16 => ?_)
    · have tc16 := (show z14.toInt ≠ 0 from ti_ne rfl rg_11 c16)
      refine lv_aload_n hx hb dX12_readLine_97 rfl (lv_at hl 0 rfl) ?_
      refine zy_v (va_runV (As := []) (rest := []) ⟨hx, hb, hml, hown, hts⟩ (n_next l dC dI h ad cl H.size τ  hIτ (Lx.es hgτ)) (cwV 0 hts gd_n_readLineV_228_n_next rfl rfl rfl dd_n_next ⟨Nat.le_of_ble_eq_true rfl, Nat.le_of_ble_eq_true rfl⟩) (preV hP hK hD hE (ci := 12) (q0 := 0) rfl rfl) rfl rfl hl.1 rfl (lv_room (Nat.le_of_ble_eq_true rfl)) dX12_readLine_98 ⟨Nat.le_of_ble_eq_true rfl, Nat.le_of_ble_eq_true rfl⟩) hD hS hA (fun τ17 H locs hq hP hD hS => ?_)
      obtain ⟨hI19, hx20, f21, lx22⟩ := hq
      have Xτ17 : eqx [6, 7, 8, 9, 10, 4, 5, 25, 14, 15, 16, 11, 17, 18, 19, 20, 21, 27, 28, 26, 12, 22, 23, 24, 13] τ17 σ := eqx.tr hx20 hxτ rg_441
      have Mτ17 : Mo τ17 σ := Mo.tr (Mo.of hx20 rg_51) (fun h9 => hmτ h9)
      have Lτ17 : Lx τ17 σ := Lx.tr lx22 hgτ
      have W23 : When τ17 ((row.toInt ≠ 0 → (σ.2.1 11 (σ.1 30).toNatClampNeg).toInt ≤ 1) ∧ (row.toInt = 0 → last.toInt ≠ 0 → (σ.2.1 13 (σ.1 30).toNatClampNeg).toInt ≤ 3) ∧ (row.toInt = 0 → last.toInt = 0 → 0 ≤ kd.toInt ∧ (σ.2.1 12 (σ.1 30).toNatClampNeg).toInt ≤ 11)) := When.mo hw0 (Mo.of hx20 rg_51)
      refine W.widen (k := 0) (n := 0) (Nat.le_of_ble_eq_true rfl) (Nat.le_of_ble_eq_true rfl) ?_
      have h8 : (τ.1 4).toInt = 0 := by omega
      have qw := hw0 h8
      have pg24 : Pg τ17 σ := Pg.l f21 hgτ
      have HT25 : ∀ p9, 11 ≤ p9 → p9 ≤ 22 → τ17.2.1 p9 = σ.2.1 p9 := fun p9 h1 h2 => ((eqx.tab hx20 rg_442) p9 h1 h2).trans ((eqx.tab hxw rg_443) p9 h1 h2)
      have HB26 : τ17.1 30 = σ.1 30 := (show τ17.1 30 = (σ.1 30) from ((hx20 30 rg_445).1).trans ((hxτ 30 rg_444).1))
      have HJ27 : ∀ p9, p9 = 27 ∨ p9 = 28 → τ17.2.2.1 p9 = σ.2.2.1 p9 := fun p9 h9 => ((hx20 p9 (rg_563 p9 h9)).2.2.1).trans ((hxw p9 (rg_558 p9 h9)).2.2.1)
      refine lv_iload_n hx hb dX12_readLine_101 rfl (lv_at hl 1 rfl) ?_
      refine lv_if_eq (tgt := 112) hx hb dX12_readLine_102 rfl (fun c28 => ?_) (fun c28 => ?_)
      · have tc28 := (show row.toInt = 0 from ti_eq rfl rg_11 c28)
        refine lv_iload_n hx hb dX12_readLine_112 rfl (lv_at hl 2 rfl) ?_
        refine lv_if_eq (tgt := 123) hx hb dX12_readLine_113 rfl (fun c29 => ?_) (fun c29 => ?_)
        · have tc29 := (show last.toInt = 0 from ti_eq rfl rg_11 c29)
          refine lv_aload_n hx hb dX12_readLine_123 rfl (lv_at hl 0 rfl) ?_
          refine lv_iload_n hx hb dX12_readLine_124 rfl (lv_at hl 3 rfl) ?_
          have o1 : 0 ≤ kd.toInt := by omega
          have o2 : kd.toInt ≤ 7 := by omega
          have o3 : (σ.2.1 12 (σ.1 30).toNatClampNeg).toInt ≤ 11 := by omega
          refine zy_v (va_runV (As := [.int kd]) (rest := []) ⟨hx, hb, hml, hown, hts⟩ (n_readStepV l dC dI h ad cl H.size τ17 kd hI19 ⟨o1, o2⟩ (cvle o3 (((hx20 12 rg_415).2.1).trans (hxw 12 rg_109).2.1) (show τ17.1 30 = (σ.1 30) from ((hx20 30 rg_445).1).trans ((hxτ 30 rg_444).1))) (Lx.es Lτ17)) (cwV 1 hts gd_n_readLineV_274_n_readStepV rfl rfl rfl dd_n_readStepV ⟨Nat.le_of_ble_eq_true rfl, Nat.le_of_ble_eq_true rfl⟩) (preV hP hK hD hE (ci := 12) (q0 := 0) rfl rfl) rfl rfl hl.1 rfl (lv_room (Nat.le_of_ble_eq_true rfl)) dX12_readLine_125 ⟨Nat.le_of_ble_eq_true rfl, Nat.le_of_ble_eq_true rfl⟩) hD hS hA (fun τ30 H locs hq hP hD hS => ?_)
          obtain ⟨hI32, hx33, f34, f35, f36, f37, mo38, lx39⟩ := hq
          have Xτ30 : eqx [6, 7, 8, 9, 10, 4, 5, 25, 14, 15, 16, 11, 17, 18, 19, 20, 21, 27, 28, 26, 12, 22, 23, 24, 13] τ30 σ := eqx.tr hx33 Xτ17 rg_446
          have Mτ30 : Mo τ30 σ := Mo.tr mo38 (fun h9 => Mτ17 h9)
          have Lτ30 : Lx τ30 σ := Lx.tr lx39 Lτ17
          have W40 : When τ30 ((row.toInt ≠ 0 → (σ.2.1 11 (σ.1 30).toNatClampNeg).toInt ≤ 1) ∧ (row.toInt = 0 → last.toInt ≠ 0 → (σ.2.1 13 (σ.1 30).toNatClampNeg).toInt ≤ 3) ∧ (row.toInt = 0 → last.toInt = 0 → 0 ≤ kd.toInt ∧ (σ.2.1 12 (σ.1 30).toNatClampNeg).toInt ≤ 11)) := When.mo W23 mo38
          refine W.widen (k := 0) (n := 0) (Nat.le_of_ble_eq_true rfl) (Nat.le_of_ble_eq_true rfl) ?_
          have N41 : When τ30 (RelP σ (σ.1 30).toNatClampNeg → RelP τ30 (σ.1 30).toNatClampNeg) := fun h9 => rel_go HB26 HT25 (f34 h9)
          have N42 : ∀ bk, bk < 2 → bk ≠ (σ.1 30).toNatClampNeg → SameB τ30 σ bk := rel_go2 HB26 HT25 f35
          have N43 : Pg τ30 σ := Pg.tr pg24 lx39
          have N44 : When τ30 (RelP σ (σ.1 30).toNatClampNeg → RelJ σ (σ.1 30).toNatClampNeg → RelJ τ30 (σ.1 30).toNatClampNeg) := fun h9 => relj_go hI HB26 HT25 HJ27 (f36 h9)
          have N45 : ∀ bk, bk < 2 → bk ≠ (σ.1 30).toNatClampNeg → SameJ τ30 σ bk := fun bk9 h1 h2 => (f37 bk9 h1 (by rw [HB26]; exact h2)).tr (SameJ.eqs HJ27)
          exact pt_128 τ30  _ _ _ hI32 Xτ30 Mτ30 Lτ30 N44 N45 N41 N42 N43 hP hD hS (lv_sub hl [0] rfl)
        · have tc29 := (show last.toInt ≠ 0 from ti_ne rfl rg_11 c29)
          refine lv_aload_n hx hb dX12_readLine_116 rfl (lv_at hl 0 rfl) ?_
          have o4 : (σ.2.1 13 (σ.1 30).toNatClampNeg).toInt ≤ 3 := by omega
          refine zy_v (va_runV (As := []) (rest := []) ⟨hx, hb, hml, hown, hts⟩ (n_readEnd l dC dI h ad cl H.size τ17  hI19 (cvle o4 (((hx20 13 rg_416).2.1).trans (hxw 13 rg_115).2.1) (show τ17.1 30 = (σ.1 30) from ((hx20 30 rg_445).1).trans ((hxτ 30 rg_444).1))) (Lx.es Lτ17)) (cwV 0 hts gd_n_readLineV_271_n_readEnd rfl rfl rfl dd_n_readEnd ⟨Nat.le_of_ble_eq_true rfl, Nat.le_of_ble_eq_true rfl⟩) (preV hP hK hD hE (ci := 12) (q0 := 0) rfl rfl) rfl rfl hl.1 rfl (lv_room (Nat.le_of_ble_eq_true rfl)) dX12_readLine_117 ⟨Nat.le_of_ble_eq_true rfl, Nat.le_of_ble_eq_true rfl⟩) hD hS hA (fun τ46 H locs hq hP hD hS => ?_)
          obtain ⟨hI48, hx49, f50, f51, mo52, lx53⟩ := hq
          have Xτ46 : eqx [6, 7, 8, 9, 10, 4, 5, 25, 14, 15, 16, 11, 17, 18, 19, 20, 21, 27, 28, 26, 12, 22, 23, 24, 13] τ46 σ := eqx.tr hx49 Xτ17 rg_447
          have Mτ46 : Mo τ46 σ := Mo.tr mo52 (fun h9 => Mτ17 h9)
          have Lτ46 : Lx τ46 σ := Lx.tr lx53 Lτ17
          have W54 : When τ46 ((row.toInt ≠ 0 → (σ.2.1 11 (σ.1 30).toNatClampNeg).toInt ≤ 1) ∧ (row.toInt = 0 → last.toInt ≠ 0 → (σ.2.1 13 (σ.1 30).toNatClampNeg).toInt ≤ 3) ∧ (row.toInt = 0 → last.toInt = 0 → 0 ≤ kd.toInt ∧ (σ.2.1 12 (σ.1 30).toNatClampNeg).toInt ≤ 11)) := When.mo W23 mo52
          refine W.widen (k := 0) (n := 0) (Nat.le_of_ble_eq_true rfl) (Nat.le_of_ble_eq_true rfl) ?_
          refine lv_goto (tgt := 128) hx hb dX12_readLine_120 rfl ?_
          have N55 : When τ46 (RelP σ (σ.1 30).toNatClampNeg → RelP τ46 (σ.1 30).toNatClampNeg) := fun h9 => rel_go HB26 HT25 (f50 h9)
          have N56 : ∀ bk, bk < 2 → bk ≠ (σ.1 30).toNatClampNeg → SameB τ46 σ bk := rel_go2 HB26 HT25 f51
          have N57 : Pg τ46 σ := Pg.tr pg24 lx53
          have N58 : When τ46 (RelP σ (σ.1 30).toNatClampNeg → RelJ σ (σ.1 30).toNatClampNeg → RelJ τ46 (σ.1 30).toNatClampNeg) := fun h9 => relj_go hI HB26 HT25 HJ27 (fun hP9 hJ9 => RelJ.eqs hI19 (by rw [HB26]; exact rj_bk hI) hP9 hJ9 (fun p9 h1 h2 h3 => (hx49 p9 (rg_564 p9 h1 h2 h3)).2.1) (fun p9 h9 => (hx49 p9 (rg_565 p9 h9)).2.2.1))
          have N59 : ∀ bk, bk < 2 → bk ≠ (σ.1 30).toNatClampNeg → SameJ τ46 σ bk := fun bk9 h1 h2 => (SameJ.eqs (fun p9 h9 => (hx49 p9 (rg_565 p9 h9)).2.2.1)).tr (SameJ.eqs HJ27)
          exact pt_128 τ46  _ _ _ hI48 Xτ46 Mτ46 Lτ46 N58 N59 N55 N56 N57 hP hD hS (lv_sub hl [0] rfl)
      · have tc28 := (show row.toInt ≠ 0 from ti_ne rfl rg_11 c28)
        refine lv_aload_n hx hb dX12_readLine_105 rfl (lv_at hl 0 rfl) ?_
        have o5 : (σ.2.1 11 (σ.1 30).toNatClampNeg).toInt ≤ 1 := by omega
        refine zy_v (va_runV (As := []) (rest := []) ⟨hx, hb, hml, hown, hts⟩ (n_readRowV l dC dI h ad cl H.size τ17  hI19 (cvle o5 (((hx20 11 rg_414).2.1).trans (hxw 11 rg_103).2.1) (show τ17.1 30 = (σ.1 30) from ((hx20 30 rg_445).1).trans ((hxτ 30 rg_444).1))) (Lx.es Lτ17)) (cwV 0 hts gd_n_readLineV_268_n_readRowV rfl rfl rfl dd_n_readRowV ⟨Nat.le_of_ble_eq_true rfl, Nat.le_of_ble_eq_true rfl⟩) (preV hP hK hD hE (ci := 12) (q0 := 0) rfl rfl) rfl rfl hl.1 rfl (lv_room (Nat.le_of_ble_eq_true rfl)) dX12_readLine_106 ⟨Nat.le_of_ble_eq_true rfl, Nat.le_of_ble_eq_true rfl⟩) hD hS hA (fun τ60 H locs hq hP hD hS => ?_)
        obtain ⟨hI62, hx63, f64, f65, f66, f67, mo68, lx69⟩ := hq
        have Xτ60 : eqx [6, 7, 8, 9, 10, 4, 5, 25, 14, 15, 16, 11, 17, 18, 19, 20, 21, 27, 28, 26, 12, 22, 23, 24, 13] τ60 σ := eqx.tr hx63 Xτ17 rg_448
        have Mτ60 : Mo τ60 σ := Mo.tr mo68 (fun h9 => Mτ17 h9)
        have Lτ60 : Lx τ60 σ := Lx.tr lx69 Lτ17
        have W70 : When τ60 ((row.toInt ≠ 0 → (σ.2.1 11 (σ.1 30).toNatClampNeg).toInt ≤ 1) ∧ (row.toInt = 0 → last.toInt ≠ 0 → (σ.2.1 13 (σ.1 30).toNatClampNeg).toInt ≤ 3) ∧ (row.toInt = 0 → last.toInt = 0 → 0 ≤ kd.toInt ∧ (σ.2.1 12 (σ.1 30).toNatClampNeg).toInt ≤ 11)) := When.mo W23 mo68
        refine W.widen (k := 0) (n := 0) (Nat.le_of_ble_eq_true rfl) (Nat.le_of_ble_eq_true rfl) ?_
        refine lv_goto (tgt := 128) hx hb dX12_readLine_109 rfl ?_
        have N71 : When τ60 (RelP σ (σ.1 30).toNatClampNeg → RelP τ60 (σ.1 30).toNatClampNeg) := fun h9 => rel_go HB26 HT25 f64
        have N72 : ∀ bk, bk < 2 → bk ≠ (σ.1 30).toNatClampNeg → SameB τ60 σ bk := rel_go2 HB26 HT25 f65
        have N73 : Pg τ60 σ := Pg.tr pg24 lx69
        have N74 : When τ60 (RelP σ (σ.1 30).toNatClampNeg → RelJ σ (σ.1 30).toNatClampNeg → RelJ τ60 (σ.1 30).toNatClampNeg) := fun h9 => relj_go hI HB26 HT25 HJ27 f66
        have N75 : ∀ bk, bk < 2 → bk ≠ (σ.1 30).toNatClampNeg → SameJ τ60 σ bk := fun bk9 h1 h2 => (f67 bk9 h1 (by rw [HB26]; exact h2)).tr (SameJ.eqs HJ27)
        exact pt_128 τ60  _ _ _ hI62 Xτ60 Mτ60 Lτ60 N74 N75 N71 N72 N73 hP hD hS (lv_sub hl [0] rfl)
    · have tc16 := (show z14.toInt = 0 from ti_eq rfl rg_11 c16)
      rw [hQ]
      have o6 : ¬ (τ.1 4).toInt = 0 := by omega
      exact W.vret hx hb hr (fun t ht hW => ⟨⟨τ, rfl, ⟨hIτ, hxτ, (fun h9 => absurd h9 o6), (fun h9 => absurd h9 o6), (fun bk _ _ => SameB.eqs (eqx.tab hxw rg_443)), (fun h9 => absurd h9 o6), (fun bk _ _ => SameJ.eqs (fun p9 h9 => (hxw p9 (rg_558 p9 h9)).2.2.1)), hmτ, hgτ⟩, wEn_of hP (hK.sub [] rfl) hD ht hW⟩, hS.F ht⟩) hS.2.2 dX12_readLine_96
  have pt_85 : ∀ (τ : MS) (row : Int32) (last : Int32) (kd : Int32) (H : Heap) (locs : List Loc) (ls : Array Slot), (Inv τ) → (eqx [6, 7, 8, 9, 10, 4, 5, 25, 14, 15, 16, 11, 17, 18, 19, 20, 21, 27, 28, 26, 12, 22, 23, 24, 13] τ σ) → (Mo τ σ) → (Lx τ σ) → (eqx [4, 5] τ σ) → (-1 ≤ kd.toInt ∧ kd.toInt ≤ 7) → va_P (dC, dI) vwCl (mW h ad cl τ) H → va_D A (mW h ad cl τ) → va_S A s.heap H locs → lv_has ls 4 [(0, .ref h), (1, .int row), (2, .int last), (3, .int kd)] → W p l e (headSpec vs_n_readLineV rm_n_readLineV).room s m #[Value.ref h] below meth c H locs 0 0 Q (F0 m 85 ls []) := by
    intro τ row last kd H locs ls hIτ hxτ hmτ hgτ hxw hkd hP hD hS hl
    refine lv_aload_n hx hb dX12_readLine_85 rfl (lv_at hl 0 rfl) ?_
    refine zy_v (va_runV (As := []) (rest := []) ⟨hx, hb, hml, hown, hts⟩ (n_wrong l dC dI h ad cl H.size τ  hIτ) (cwV 0 hts gd_n_readLineV_231_n_wrong rfl rfl rfl dd_n_wrong ⟨Nat.le_of_ble_eq_true rfl, Nat.le_of_ble_eq_true rfl⟩) (preV hP hK hD hE (ci := 12) (q0 := 0) rfl rfl) rfl rfl hl.1 rfl (lv_room (Nat.le_of_ble_eq_true rfl)) dX12_readLine_86 ⟨Nat.le_of_ble_eq_true rfl, Nat.le_of_ble_eq_true rfl⟩) hD hS hA (fun τ76 H locs hq hP hD hS => ?_)
    obtain ⟨hI78, hx79, f80, mo81⟩ := hq
    have Xτ76 : eqx [6, 7, 8, 9, 10, 4, 5, 25, 14, 15, 16, 11, 17, 18, 19, 20, 21, 27, 28, 26, 12, 22, 23, 24, 13] τ76 σ := eqx.tr hx79 hxτ rg_449
    have Mτ76 : Mo τ76 σ := Mo.tr mo81 (fun h9 => hmτ h9)
    have Lτ76 : Lx τ76 σ := Lx.tr (Lx.of hx79 (Lx.es hgτ) rg_47 rg_48 rg_49) hgτ
    refine W.widen (k := 0) (n := 0) (Nat.le_of_ble_eq_true rfl) (Nat.le_of_ble_eq_true rfl) ?_
    have N82 : When τ76 ((row.toInt ≠ 0 → (σ.2.1 11 (σ.1 30).toNatClampNeg).toInt ≤ 1) ∧ (row.toInt = 0 → last.toInt ≠ 0 → (σ.2.1 13 (σ.1 30).toNatClampNeg).toInt ≤ 3) ∧ (row.toInt = 0 → last.toInt = 0 → 0 ≤ kd.toInt ∧ (σ.2.1 12 (σ.1 30).toNatClampNeg).toInt ≤ 11)) := fun h9 => absurd h9 (f80 (mo81 h9))
    have o7 : -1 ≤ kd.toInt := by omega
    have o8 : kd.toInt ≤ 7 := by omega
    exact pt_89 τ76 row last kd _ _ _ hI78 Xτ76 Mτ76 Lτ76 (eqx.tr hx79 hxw rg_21) (show -1 ≤ kd.toInt ∧ kd.toInt ≤ 7 from ⟨o7, o8⟩) N82 hP hD hS (lv_sub hl [0, 1, 2, 3] rfl)
  refine zH (A := A) (ws := mW h ad cl σ) (fun H hP hS => ?_) hP
  refine lv_aload_n hx hb dX12_readLine_0 rfl (lv_at hl 0 rfl) ?_
  refine lv_ldc2 (v := (7499639)) hx hb hown (ho (.constantLong RX12 143 (7499639)) (List.mem_of_getElem? (i := 0) rfl)) dX12_readLine_1 ?_
  refine zy_i (va_runV (As := [.long 7499639]) (rest := []) ⟨hx, hb, hml, hown, hts⟩ (n_isWord l dC dI h ad cl H.size σ 7499639 hI) (cwV 1 hts gd_n_readLineV_261_n_isWord rfl rfl rfl dd_n_isWord ⟨Nat.le_of_ble_eq_true rfl, Nat.le_of_ble_eq_true rfl⟩) (preV hP hK hD hE (ci := 12) (q0 := 0) rfl rfl) rfl rfl hl.1 rfl (lv_room (Nat.le_of_ble_eq_true rfl)) dX12_readLine_4 ⟨Nat.le_of_ble_eq_true rfl, Nat.le_of_ble_eq_true rfl⟩) hD hS hA (fun z84 τ83 H locs hq hP hD hS => ?_)
  obtain ⟨rfl, f85⟩ := hq
  refine W.widen (k := 0) (n := 0) (Nat.le_of_ble_eq_true rfl) (Nat.le_of_ble_eq_true rfl) ?_
  refine lv_istore_n (lv' := [(1, .int z84), (0, .ref h)]) hx hb dX12_readLine_7 rfl hl (Nat.le_of_ble_eq_true rfl) rfl (fun ls hl => ?_)
  refine lv_aload_n hx hb dX12_readLine_8 rfl (lv_at hl 1 rfl) ?_
  refine lv_ldc2 (v := (6647396)) hx hb hown (ho (.constantLong RX12 179 (6647396)) (List.mem_of_getElem? (i := 1) rfl)) dX12_readLine_9 ?_
  refine zy_i (va_runV (As := [.long 6647396]) (rest := []) ⟨hx, hb, hml, hown, hts⟩ (n_isWord l dC dI h ad cl H.size σ 6647396 hI) (cwV 1 hts gd_n_readLineV_261_n_isWord rfl rfl rfl dd_n_isWord ⟨Nat.le_of_ble_eq_true rfl, Nat.le_of_ble_eq_true rfl⟩) (preV hP hK hD hE (ci := 12) (q0 := 0) rfl rfl) rfl rfl hl.1 rfl (lv_room (Nat.le_of_ble_eq_true rfl)) dX12_readLine_12 ⟨Nat.le_of_ble_eq_true rfl, Nat.le_of_ble_eq_true rfl⟩) hD hS hA (fun z87 τ86 H locs hq hP hD hS => ?_)
  obtain ⟨rfl, f88⟩ := hq
  refine W.widen (k := 0) (n := 0) (Nat.le_of_ble_eq_true rfl) (Nat.le_of_ble_eq_true rfl) ?_
  refine lv_istore_n (lv' := [(2, .int z87), (1, .int z84), (0, .ref h)]) hx hb dX12_readLine_15 rfl hl (Nat.le_of_ble_eq_true rfl) rfl (fun ls hl => ?_)
  refine lv_aload_n hx hb dX12_readLine_16 rfl (lv_at hl 2 rfl) ?_
  refine zy_i (va_runV (As := []) (rest := []) ⟨hx, hb, hml, hown, hts⟩ (n_kindHere l dC dI h ad cl H.size σ  hI) (cwV 0 hts gd_n_readLineV_264_n_kindHere rfl rfl rfl dd_n_kindHere ⟨Nat.le_of_ble_eq_true rfl, Nat.le_of_ble_eq_true rfl⟩) (preV hP hK hD hE (ci := 12) (q0 := 0) rfl rfl) rfl rfl hl.1 rfl (lv_room (Nat.le_of_ble_eq_true rfl)) dX12_readLine_17 ⟨Nat.le_of_ble_eq_true rfl, Nat.le_of_ble_eq_true rfl⟩) hD hS hA (fun z90 τ89 H locs hq hP hD hS => ?_)
  obtain ⟨rfl, f91, f92⟩ := hq
  refine W.widen (k := 0) (n := 0) (Nat.le_of_ble_eq_true rfl) (Nat.le_of_ble_eq_true rfl) ?_
  refine lv_istore_n (lv' := [(3, .int z90), (2, .int z87), (1, .int z84), (0, .ref h)]) hx hb dX12_readLine_20 rfl hl (Nat.le_of_ble_eq_true rfl) rfl (fun ls hl => ?_)
  refine lv_iload_n hx hb dX12_readLine_21 rfl (lv_at hl 2 rfl) ?_
  refine lv_if_ne (tgt := 33) hx hb dX12_readLine_22 rfl (fun c93 => ?_) (fun c93 => ?_)
  · have tc93 := (show z84.toInt ≠ 0 from ti_ne rfl rg_11 c93)
    refine lv_iload_n hx hb dX12_readLine_33 rfl (lv_at hl 2 rfl) ?_
    refine lv_if_eq (tgt := 50) hx hb dX12_readLine_34 rfl (fun c94 => ?_) (fun c94 => ?_)
    · have tc94 := (show z84.toInt = 0 from ti_eq rfl rg_11 c94)
      refine lv_iload_n hx hb dX12_readLine_50 rfl (lv_at hl 1 rfl) ?_
      refine lv_if_eq (tgt := 67) hx hb dX12_readLine_51 rfl (fun c95 => ?_) (fun c95 => ?_)
      · have tc95 := (show z87.toInt = 0 from ti_eq rfl rg_11 c95)
        refine lv_iload_n hx hb dX12_readLine_67 rfl (lv_at hl 0 rfl) ?_
        refine lv_if_lt (tgt := 89) hx hb dX12_readLine_68 rfl (fun c96 => ?_) (fun c96 => ?_)
        · have tc96 := (show z90.toInt < 0 from ti_lt rfl rg_11 c96)
          have N97 : When σ ((z84.toInt ≠ 0 → (σ.2.1 11 (σ.1 30).toNatClampNeg).toInt ≤ 1) ∧ (z84.toInt = 0 → z87.toInt ≠ 0 → (σ.2.1 13 (σ.1 30).toNatClampNeg).toInt ≤ 3) ∧ (z84.toInt = 0 → z87.toInt = 0 → 0 ≤ z90.toInt ∧ (σ.2.1 12 (σ.1 30).toNatClampNeg).toInt ≤ 11)) := fun _ => by omega
          have o9 : -1 ≤ z90.toInt := by omega
          have o10 : z90.toInt ≤ 7 := by omega
          exact pt_89 σ z84 z87 z90 _ _ _ hI eqx.rf Mo.rf (Lx.rf hes) eqx.rf (show -1 ≤ z90.toInt ∧ z90.toInt ≤ 7 from ⟨o9, o10⟩) N97 hP hD hS (lv_sub hl [3, 2, 1, 0] rfl)
        · have tc96 := (show 0 ≤ z90.toInt from ti_nlt rfl rg_11 c96)
          refine lv_aload_n hx hb dX12_readLine_71 rfl (lv_at hl 3 rfl) ?_
          refine va_get (D := (dC, dI)) (ci := 12) (v := .ref (ad 12)) (C := RX12) (T := TX12) (N := 59) hx hb hts hin12 hown hK hP 0 rfl rfl 12 (Nat.le_of_ble_eq_true rfl) (ho (.fieldLink RX12 24 "NearEnoughModel" "stepMany" "[I") (List.mem_of_getElem? (i := 2) rfl)) (fun _ h9 => h9) rfl dX12_readLine_72 ?_
          refine lv_aload_n hx hb dX12_readLine_75 rfl (lv_at hl 3 rfl) ?_
          refine va_get (D := (dC, dI)) (ci := 12) (v := .int (σ.1 30)) (C := RX12) (T := TX12) (N := 59) hx hb hts hin12 hown hK hP 0 rfl rfl 30 (Nat.le_of_ble_eq_true rfl) (ho (.fieldLink RX12 243 "NearEnoughModel" "rb" "I") (List.mem_of_getElem? (i := 3) rfl)) (fun _ h9 => h9) rfl dX12_readLine_76 ?_
          have bσ_30 : 0 ≤ (σ.1 30).toInt ∧ (σ.1 30).toInt ≤ 1 := hI.1 30
          have o11 : 0 ≤ (σ.1 30).toInt := by omega
          have o12 : (σ.1 30).toInt < ((2 : Nat) : Int) := by omega
          refine va_iald hx hb hK hP 4 3 rfl rfl (ti_inx o11 o12) dX12_readLine_79 ?_
          refine lv_topi (fun z98 ez98 => ?_)
          have gz98 : z98.toInt = ((σ.2.1 12) (Int32.toNatClampNeg (σ.1 30))).toInt := congrArg Int32.toInt (ez98.trans (congrFun rfl (Int32.toNatClampNeg (σ.1 30))))
          have bz98 : 0 ≤ z98.toInt ∧ z98.toInt ≤ 12 := by rw [ez98]; exact (hI.2 12) _ (cl_lt (n := 2) o11 o12)
          refine lv_bipush (v := 12) hx hb dX12_readLine_80 rg_57 ?_
          refine lv_icmp_ne (tgt := 89) hx hb dX12_readLine_82 rfl (fun c99 => ?_) (fun c99 => ?_)
          · have tc99 := (show z98.toInt ≠ 12 from ti_ne rfl rg_58 c99)
            have N100 : When σ ((z84.toInt ≠ 0 → (σ.2.1 11 (σ.1 30).toNatClampNeg).toInt ≤ 1) ∧ (z84.toInt = 0 → z87.toInt ≠ 0 → (σ.2.1 13 (σ.1 30).toNatClampNeg).toInt ≤ 3) ∧ (z84.toInt = 0 → z87.toInt = 0 → 0 ≤ z90.toInt ∧ (σ.2.1 12 (σ.1 30).toNatClampNeg).toInt ≤ 11)) := fun _ => by omega
            have o13 : -1 ≤ z90.toInt := by omega
            have o14 : z90.toInt ≤ 7 := by omega
            exact pt_89 σ z84 z87 z90 _ _ _ hI eqx.rf Mo.rf (Lx.rf hes) eqx.rf (show -1 ≤ z90.toInt ∧ z90.toInt ≤ 7 from ⟨o13, o14⟩) N100 hP hD hS (lv_sub hl [3, 2, 1, 0] rfl)
          · have tc99 := (show z98.toInt = 12 from ti_eq rfl rg_58 c99)
            have o15 : -1 ≤ z90.toInt := by omega
            have o16 : z90.toInt ≤ 7 := by omega
            exact pt_85 σ z84 z87 z90 _ _ _ hI eqx.rf Mo.rf (Lx.rf hes) eqx.rf (show -1 ≤ z90.toInt ∧ z90.toInt ≤ 7 from ⟨o15, o16⟩) hP hD hS (lv_sub hl [3, 2, 1, 0] rfl)
      · have tc95 := (show z87.toInt ≠ 0 from ti_ne rfl rg_11 c95)
        refine lv_aload_n hx hb dX12_readLine_54 rfl (lv_at hl 3 rfl) ?_
        refine va_get (D := (dC, dI)) (ci := 12) (v := .ref (ad 13)) (C := RX12) (T := TX12) (N := 59) hx hb hts hin12 hown hK hP 0 rfl rfl 13 (Nat.le_of_ble_eq_true rfl) (ho (.fieldLink RX12 27 "NearEnoughModel" "endMany" "[I") (List.mem_of_getElem? (i := 4) rfl)) (fun _ h9 => h9) rfl dX12_readLine_55 ?_
        refine lv_aload_n hx hb dX12_readLine_58 rfl (lv_at hl 3 rfl) ?_
        refine va_get (D := (dC, dI)) (ci := 12) (v := .int (σ.1 30)) (C := RX12) (T := TX12) (N := 59) hx hb hts hin12 hown hK hP 0 rfl rfl 30 (Nat.le_of_ble_eq_true rfl) (ho (.fieldLink RX12 243 "NearEnoughModel" "rb" "I") (List.mem_of_getElem? (i := 3) rfl)) (fun _ h9 => h9) rfl dX12_readLine_59 ?_
        have bσ_30 : 0 ≤ (σ.1 30).toInt ∧ (σ.1 30).toInt ≤ 1 := hI.1 30
        have o17 : 0 ≤ (σ.1 30).toInt := by omega
        have o18 : (σ.1 30).toInt < ((2 : Nat) : Int) := by omega
        refine va_iald hx hb hK hP 5 4 rfl rfl (ti_inx o17 o18) dX12_readLine_62 ?_
        refine lv_topi (fun z101 ez101 => ?_)
        have gz101 : z101.toInt = ((σ.2.1 13) (Int32.toNatClampNeg (σ.1 30))).toInt := congrArg Int32.toInt (ez101.trans (congrFun rfl (Int32.toNatClampNeg (σ.1 30))))
        have bz101 : 0 ≤ z101.toInt ∧ z101.toInt ≤ 4 := by rw [ez101]; exact (hI.2 13) _ (cl_lt (n := 2) o17 o18)
        refine lv_iconst (v := 4) hx hb dX12_readLine_63 rg_31 ?_
        refine lv_icmp_eq (tgt := 85) hx hb dX12_readLine_64 rfl (fun c102 => ?_) (fun c102 => ?_)
        · have tc102 := (show z101.toInt = 4 from ti_eq rfl rg_32 c102)
          have o19 : -1 ≤ z90.toInt := by omega
          have o20 : z90.toInt ≤ 7 := by omega
          exact pt_85 σ z84 z87 z90 _ _ _ hI eqx.rf Mo.rf (Lx.rf hes) eqx.rf (show -1 ≤ z90.toInt ∧ z90.toInt ≤ 7 from ⟨o19, o20⟩) hP hD hS (lv_sub hl [3, 2, 1, 0] rfl)
        · have tc102 := (show z101.toInt ≠ 4 from ti_ne rfl rg_32 c102)
          refine lv_iload_n hx hb dX12_readLine_67 rfl (lv_at hl 0 rfl) ?_
          refine lv_if_lt (tgt := 89) hx hb dX12_readLine_68 rfl (fun c103 => ?_) (fun c103 => ?_)
          · have tc103 := (show z90.toInt < 0 from ti_lt rfl rg_11 c103)
            have N104 : When σ ((z84.toInt ≠ 0 → (σ.2.1 11 (σ.1 30).toNatClampNeg).toInt ≤ 1) ∧ (z84.toInt = 0 → z87.toInt ≠ 0 → (σ.2.1 13 (σ.1 30).toNatClampNeg).toInt ≤ 3) ∧ (z84.toInt = 0 → z87.toInt = 0 → 0 ≤ z90.toInt ∧ (σ.2.1 12 (σ.1 30).toNatClampNeg).toInt ≤ 11)) := fun _ => by omega
            have o21 : -1 ≤ z90.toInt := by omega
            have o22 : z90.toInt ≤ 7 := by omega
            exact pt_89 σ z84 z87 z90 _ _ _ hI eqx.rf Mo.rf (Lx.rf hes) eqx.rf (show -1 ≤ z90.toInt ∧ z90.toInt ≤ 7 from ⟨o21, o22⟩) N104 hP hD hS (lv_sub hl [3, 2, 1, 0] rfl)
          · have tc103 := (show 0 ≤ z90.toInt from ti_nlt rfl rg_11 c103)
            refine lv_aload_n hx hb dX12_readLine_71 rfl (lv_at hl 3 rfl) ?_
            refine va_get (D := (dC, dI)) (ci := 12) (v := .ref (ad 12)) (C := RX12) (T := TX12) (N := 59) hx hb hts hin12 hown hK hP 0 rfl rfl 12 (Nat.le_of_ble_eq_true rfl) (ho (.fieldLink RX12 24 "NearEnoughModel" "stepMany" "[I") (List.mem_of_getElem? (i := 2) rfl)) (fun _ h9 => h9) rfl dX12_readLine_72 ?_
            refine lv_aload_n hx hb dX12_readLine_75 rfl (lv_at hl 3 rfl) ?_
            refine va_get (D := (dC, dI)) (ci := 12) (v := .int (σ.1 30)) (C := RX12) (T := TX12) (N := 59) hx hb hts hin12 hown hK hP 0 rfl rfl 30 (Nat.le_of_ble_eq_true rfl) (ho (.fieldLink RX12 243 "NearEnoughModel" "rb" "I") (List.mem_of_getElem? (i := 3) rfl)) (fun _ h9 => h9) rfl dX12_readLine_76 ?_
            have bσ_30 : 0 ≤ (σ.1 30).toInt ∧ (σ.1 30).toInt ≤ 1 := hI.1 30
            refine va_iald hx hb hK hP 4 3 rfl rfl (ti_inx o17 o18) dX12_readLine_79 ?_
            refine lv_topi (fun z105 ez105 => ?_)
            have gz105 : z105.toInt = ((σ.2.1 12) (Int32.toNatClampNeg (σ.1 30))).toInt := congrArg Int32.toInt (ez105.trans (congrFun rfl (Int32.toNatClampNeg (σ.1 30))))
            have bz105 : 0 ≤ z105.toInt ∧ z105.toInt ≤ 12 := by rw [ez105]; exact (hI.2 12) _ (cl_lt (n := 2) o17 o18)
            refine lv_bipush (v := 12) hx hb dX12_readLine_80 rg_57 ?_
            refine lv_icmp_ne (tgt := 89) hx hb dX12_readLine_82 rfl (fun c106 => ?_) (fun c106 => ?_)
            · have tc106 := (show z105.toInt ≠ 12 from ti_ne rfl rg_58 c106)
              have N107 : When σ ((z84.toInt ≠ 0 → (σ.2.1 11 (σ.1 30).toNatClampNeg).toInt ≤ 1) ∧ (z84.toInt = 0 → z87.toInt ≠ 0 → (σ.2.1 13 (σ.1 30).toNatClampNeg).toInt ≤ 3) ∧ (z84.toInt = 0 → z87.toInt = 0 → 0 ≤ z90.toInt ∧ (σ.2.1 12 (σ.1 30).toNatClampNeg).toInt ≤ 11)) := fun _ => by omega
              have o23 : -1 ≤ z90.toInt := by omega
              have o24 : z90.toInt ≤ 7 := by omega
              exact pt_89 σ z84 z87 z90 _ _ _ hI eqx.rf Mo.rf (Lx.rf hes) eqx.rf (show -1 ≤ z90.toInt ∧ z90.toInt ≤ 7 from ⟨o23, o24⟩) N107 hP hD hS (lv_sub hl [3, 2, 1, 0] rfl)
            · have tc106 := (show z105.toInt = 12 from ti_eq rfl rg_58 c106)
              have o25 : -1 ≤ z90.toInt := by omega
              have o26 : z90.toInt ≤ 7 := by omega
              exact pt_85 σ z84 z87 z90 _ _ _ hI eqx.rf Mo.rf (Lx.rf hes) eqx.rf (show -1 ≤ z90.toInt ∧ z90.toInt ≤ 7 from ⟨o25, o26⟩) hP hD hS (lv_sub hl [3, 2, 1, 0] rfl)
    · have tc94 := (show z84.toInt ≠ 0 from ti_ne rfl rg_11 c94)
      refine lv_aload_n hx hb dX12_readLine_37 rfl (lv_at hl 3 rfl) ?_
      refine va_get (D := (dC, dI)) (ci := 12) (v := .ref (ad 11)) (C := RX12) (T := TX12) (N := 59) hx hb hts hin12 hown hK hP 0 rfl rfl 11 (Nat.le_of_ble_eq_true rfl) (ho (.fieldLink RX12 20 "NearEnoughModel" "rowMany" "[I") (List.mem_of_getElem? (i := 5) rfl)) (fun _ h9 => h9) rfl dX12_readLine_38 ?_
      refine lv_aload_n hx hb dX12_readLine_41 rfl (lv_at hl 3 rfl) ?_
      refine va_get (D := (dC, dI)) (ci := 12) (v := .int (σ.1 30)) (C := RX12) (T := TX12) (N := 59) hx hb hts hin12 hown hK hP 0 rfl rfl 30 (Nat.le_of_ble_eq_true rfl) (ho (.fieldLink RX12 243 "NearEnoughModel" "rb" "I") (List.mem_of_getElem? (i := 3) rfl)) (fun _ h9 => h9) rfl dX12_readLine_42 ?_
      have bσ_30 : 0 ≤ (σ.1 30).toInt ∧ (σ.1 30).toInt ≤ 1 := hI.1 30
      have o27 : 0 ≤ (σ.1 30).toInt := by omega
      have o28 : (σ.1 30).toInt < ((2 : Nat) : Int) := by omega
      refine va_iald hx hb hK hP 3 2 rfl rfl (ti_inx o27 o28) dX12_readLine_45 ?_
      refine lv_topi (fun z108 ez108 => ?_)
      have gz108 : z108.toInt = ((σ.2.1 11) (Int32.toNatClampNeg (σ.1 30))).toInt := congrArg Int32.toInt (ez108.trans (congrFun rfl (Int32.toNatClampNeg (σ.1 30))))
      have bz108 : 0 ≤ z108.toInt ∧ z108.toInt ≤ 2 := by rw [ez108]; exact (hI.2 11) _ (cl_lt (n := 2) o27 o28)
      refine lv_iconst (v := 2) hx hb dX12_readLine_46 rg_19 ?_
      refine lv_icmp_eq (tgt := 85) hx hb dX12_readLine_47 rfl (fun c109 => ?_) (fun c109 => ?_)
      · have tc109 := (show z108.toInt = 2 from ti_eq rfl rg_20 c109)
        have o29 : -1 ≤ z90.toInt := by omega
        have o30 : z90.toInt ≤ 7 := by omega
        exact pt_85 σ z84 z87 z90 _ _ _ hI eqx.rf Mo.rf (Lx.rf hes) eqx.rf (show -1 ≤ z90.toInt ∧ z90.toInt ≤ 7 from ⟨o29, o30⟩) hP hD hS (lv_sub hl [3, 2, 1, 0] rfl)
      · have tc109 := (show z108.toInt ≠ 2 from ti_ne rfl rg_20 c109)
        refine lv_iload_n hx hb dX12_readLine_50 rfl (lv_at hl 1 rfl) ?_
        refine lv_if_eq (tgt := 67) hx hb dX12_readLine_51 rfl (fun c110 => ?_) (fun c110 => ?_)
        · have tc110 := (show z87.toInt = 0 from ti_eq rfl rg_11 c110)
          refine lv_iload_n hx hb dX12_readLine_67 rfl (lv_at hl 0 rfl) ?_
          refine lv_if_lt (tgt := 89) hx hb dX12_readLine_68 rfl (fun c111 => ?_) (fun c111 => ?_)
          · have tc111 := (show z90.toInt < 0 from ti_lt rfl rg_11 c111)
            have N112 : When σ ((z84.toInt ≠ 0 → (σ.2.1 11 (σ.1 30).toNatClampNeg).toInt ≤ 1) ∧ (z84.toInt = 0 → z87.toInt ≠ 0 → (σ.2.1 13 (σ.1 30).toNatClampNeg).toInt ≤ 3) ∧ (z84.toInt = 0 → z87.toInt = 0 → 0 ≤ z90.toInt ∧ (σ.2.1 12 (σ.1 30).toNatClampNeg).toInt ≤ 11)) := fun _ => by omega
            have o31 : -1 ≤ z90.toInt := by omega
            have o32 : z90.toInt ≤ 7 := by omega
            exact pt_89 σ z84 z87 z90 _ _ _ hI eqx.rf Mo.rf (Lx.rf hes) eqx.rf (show -1 ≤ z90.toInt ∧ z90.toInt ≤ 7 from ⟨o31, o32⟩) N112 hP hD hS (lv_sub hl [3, 2, 1, 0] rfl)
          · have tc111 := (show 0 ≤ z90.toInt from ti_nlt rfl rg_11 c111)
            refine lv_aload_n hx hb dX12_readLine_71 rfl (lv_at hl 3 rfl) ?_
            refine va_get (D := (dC, dI)) (ci := 12) (v := .ref (ad 12)) (C := RX12) (T := TX12) (N := 59) hx hb hts hin12 hown hK hP 0 rfl rfl 12 (Nat.le_of_ble_eq_true rfl) (ho (.fieldLink RX12 24 "NearEnoughModel" "stepMany" "[I") (List.mem_of_getElem? (i := 2) rfl)) (fun _ h9 => h9) rfl dX12_readLine_72 ?_
            refine lv_aload_n hx hb dX12_readLine_75 rfl (lv_at hl 3 rfl) ?_
            refine va_get (D := (dC, dI)) (ci := 12) (v := .int (σ.1 30)) (C := RX12) (T := TX12) (N := 59) hx hb hts hin12 hown hK hP 0 rfl rfl 30 (Nat.le_of_ble_eq_true rfl) (ho (.fieldLink RX12 243 "NearEnoughModel" "rb" "I") (List.mem_of_getElem? (i := 3) rfl)) (fun _ h9 => h9) rfl dX12_readLine_76 ?_
            have bσ_30 : 0 ≤ (σ.1 30).toInt ∧ (σ.1 30).toInt ≤ 1 := hI.1 30
            refine va_iald hx hb hK hP 4 3 rfl rfl (ti_inx o27 o28) dX12_readLine_79 ?_
            refine lv_topi (fun z113 ez113 => ?_)
            have gz113 : z113.toInt = ((σ.2.1 12) (Int32.toNatClampNeg (σ.1 30))).toInt := congrArg Int32.toInt (ez113.trans (congrFun rfl (Int32.toNatClampNeg (σ.1 30))))
            have bz113 : 0 ≤ z113.toInt ∧ z113.toInt ≤ 12 := by rw [ez113]; exact (hI.2 12) _ (cl_lt (n := 2) o27 o28)
            refine lv_bipush (v := 12) hx hb dX12_readLine_80 rg_57 ?_
            refine lv_icmp_ne (tgt := 89) hx hb dX12_readLine_82 rfl (fun c114 => ?_) (fun c114 => ?_)
            · have tc114 := (show z113.toInt ≠ 12 from ti_ne rfl rg_58 c114)
              have N115 : When σ ((z84.toInt ≠ 0 → (σ.2.1 11 (σ.1 30).toNatClampNeg).toInt ≤ 1) ∧ (z84.toInt = 0 → z87.toInt ≠ 0 → (σ.2.1 13 (σ.1 30).toNatClampNeg).toInt ≤ 3) ∧ (z84.toInt = 0 → z87.toInt = 0 → 0 ≤ z90.toInt ∧ (σ.2.1 12 (σ.1 30).toNatClampNeg).toInt ≤ 11)) := fun _ => by omega
              have o33 : -1 ≤ z90.toInt := by omega
              have o34 : z90.toInt ≤ 7 := by omega
              exact pt_89 σ z84 z87 z90 _ _ _ hI eqx.rf Mo.rf (Lx.rf hes) eqx.rf (show -1 ≤ z90.toInt ∧ z90.toInt ≤ 7 from ⟨o33, o34⟩) N115 hP hD hS (lv_sub hl [3, 2, 1, 0] rfl)
            · have tc114 := (show z113.toInt = 12 from ti_eq rfl rg_58 c114)
              have o35 : -1 ≤ z90.toInt := by omega
              have o36 : z90.toInt ≤ 7 := by omega
              exact pt_85 σ z84 z87 z90 _ _ _ hI eqx.rf Mo.rf (Lx.rf hes) eqx.rf (show -1 ≤ z90.toInt ∧ z90.toInt ≤ 7 from ⟨o35, o36⟩) hP hD hS (lv_sub hl [3, 2, 1, 0] rfl)
        · have tc110 := (show z87.toInt ≠ 0 from ti_ne rfl rg_11 c110)
          refine lv_aload_n hx hb dX12_readLine_54 rfl (lv_at hl 3 rfl) ?_
          refine va_get (D := (dC, dI)) (ci := 12) (v := .ref (ad 13)) (C := RX12) (T := TX12) (N := 59) hx hb hts hin12 hown hK hP 0 rfl rfl 13 (Nat.le_of_ble_eq_true rfl) (ho (.fieldLink RX12 27 "NearEnoughModel" "endMany" "[I") (List.mem_of_getElem? (i := 4) rfl)) (fun _ h9 => h9) rfl dX12_readLine_55 ?_
          refine lv_aload_n hx hb dX12_readLine_58 rfl (lv_at hl 3 rfl) ?_
          refine va_get (D := (dC, dI)) (ci := 12) (v := .int (σ.1 30)) (C := RX12) (T := TX12) (N := 59) hx hb hts hin12 hown hK hP 0 rfl rfl 30 (Nat.le_of_ble_eq_true rfl) (ho (.fieldLink RX12 243 "NearEnoughModel" "rb" "I") (List.mem_of_getElem? (i := 3) rfl)) (fun _ h9 => h9) rfl dX12_readLine_59 ?_
          have bσ_30 : 0 ≤ (σ.1 30).toInt ∧ (σ.1 30).toInt ≤ 1 := hI.1 30
          refine va_iald hx hb hK hP 5 4 rfl rfl (ti_inx o27 o28) dX12_readLine_62 ?_
          refine lv_topi (fun z116 ez116 => ?_)
          have gz116 : z116.toInt = ((σ.2.1 13) (Int32.toNatClampNeg (σ.1 30))).toInt := congrArg Int32.toInt (ez116.trans (congrFun rfl (Int32.toNatClampNeg (σ.1 30))))
          have bz116 : 0 ≤ z116.toInt ∧ z116.toInt ≤ 4 := by rw [ez116]; exact (hI.2 13) _ (cl_lt (n := 2) o27 o28)
          refine lv_iconst (v := 4) hx hb dX12_readLine_63 rg_31 ?_
          refine lv_icmp_eq (tgt := 85) hx hb dX12_readLine_64 rfl (fun c117 => ?_) (fun c117 => ?_)
          · have tc117 := (show z116.toInt = 4 from ti_eq rfl rg_32 c117)
            have o37 : -1 ≤ z90.toInt := by omega
            have o38 : z90.toInt ≤ 7 := by omega
            exact pt_85 σ z84 z87 z90 _ _ _ hI eqx.rf Mo.rf (Lx.rf hes) eqx.rf (show -1 ≤ z90.toInt ∧ z90.toInt ≤ 7 from ⟨o37, o38⟩) hP hD hS (lv_sub hl [3, 2, 1, 0] rfl)
          · have tc117 := (show z116.toInt ≠ 4 from ti_ne rfl rg_32 c117)
            refine lv_iload_n hx hb dX12_readLine_67 rfl (lv_at hl 0 rfl) ?_
            refine lv_if_lt (tgt := 89) hx hb dX12_readLine_68 rfl (fun c118 => ?_) (fun c118 => ?_)
            · have tc118 := (show z90.toInt < 0 from ti_lt rfl rg_11 c118)
              have N119 : When σ ((z84.toInt ≠ 0 → (σ.2.1 11 (σ.1 30).toNatClampNeg).toInt ≤ 1) ∧ (z84.toInt = 0 → z87.toInt ≠ 0 → (σ.2.1 13 (σ.1 30).toNatClampNeg).toInt ≤ 3) ∧ (z84.toInt = 0 → z87.toInt = 0 → 0 ≤ z90.toInt ∧ (σ.2.1 12 (σ.1 30).toNatClampNeg).toInt ≤ 11)) := fun _ => by omega
              have o39 : -1 ≤ z90.toInt := by omega
              have o40 : z90.toInt ≤ 7 := by omega
              exact pt_89 σ z84 z87 z90 _ _ _ hI eqx.rf Mo.rf (Lx.rf hes) eqx.rf (show -1 ≤ z90.toInt ∧ z90.toInt ≤ 7 from ⟨o39, o40⟩) N119 hP hD hS (lv_sub hl [3, 2, 1, 0] rfl)
            · have tc118 := (show 0 ≤ z90.toInt from ti_nlt rfl rg_11 c118)
              refine lv_aload_n hx hb dX12_readLine_71 rfl (lv_at hl 3 rfl) ?_
              refine va_get (D := (dC, dI)) (ci := 12) (v := .ref (ad 12)) (C := RX12) (T := TX12) (N := 59) hx hb hts hin12 hown hK hP 0 rfl rfl 12 (Nat.le_of_ble_eq_true rfl) (ho (.fieldLink RX12 24 "NearEnoughModel" "stepMany" "[I") (List.mem_of_getElem? (i := 2) rfl)) (fun _ h9 => h9) rfl dX12_readLine_72 ?_
              refine lv_aload_n hx hb dX12_readLine_75 rfl (lv_at hl 3 rfl) ?_
              refine va_get (D := (dC, dI)) (ci := 12) (v := .int (σ.1 30)) (C := RX12) (T := TX12) (N := 59) hx hb hts hin12 hown hK hP 0 rfl rfl 30 (Nat.le_of_ble_eq_true rfl) (ho (.fieldLink RX12 243 "NearEnoughModel" "rb" "I") (List.mem_of_getElem? (i := 3) rfl)) (fun _ h9 => h9) rfl dX12_readLine_76 ?_
              have bσ_30 : 0 ≤ (σ.1 30).toInt ∧ (σ.1 30).toInt ≤ 1 := hI.1 30
              refine va_iald hx hb hK hP 4 3 rfl rfl (ti_inx o27 o28) dX12_readLine_79 ?_
              refine lv_topi (fun z120 ez120 => ?_)
              have gz120 : z120.toInt = ((σ.2.1 12) (Int32.toNatClampNeg (σ.1 30))).toInt := congrArg Int32.toInt (ez120.trans (congrFun rfl (Int32.toNatClampNeg (σ.1 30))))
              have bz120 : 0 ≤ z120.toInt ∧ z120.toInt ≤ 12 := by rw [ez120]; exact (hI.2 12) _ (cl_lt (n := 2) o27 o28)
              refine lv_bipush (v := 12) hx hb dX12_readLine_80 rg_57 ?_
              refine lv_icmp_ne (tgt := 89) hx hb dX12_readLine_82 rfl (fun c121 => ?_) (fun c121 => ?_)
              · have tc121 := (show z120.toInt ≠ 12 from ti_ne rfl rg_58 c121)
                have N122 : When σ ((z84.toInt ≠ 0 → (σ.2.1 11 (σ.1 30).toNatClampNeg).toInt ≤ 1) ∧ (z84.toInt = 0 → z87.toInt ≠ 0 → (σ.2.1 13 (σ.1 30).toNatClampNeg).toInt ≤ 3) ∧ (z84.toInt = 0 → z87.toInt = 0 → 0 ≤ z90.toInt ∧ (σ.2.1 12 (σ.1 30).toNatClampNeg).toInt ≤ 11)) := fun _ => by omega
                have o41 : -1 ≤ z90.toInt := by omega
                have o42 : z90.toInt ≤ 7 := by omega
                exact pt_89 σ z84 z87 z90 _ _ _ hI eqx.rf Mo.rf (Lx.rf hes) eqx.rf (show -1 ≤ z90.toInt ∧ z90.toInt ≤ 7 from ⟨o41, o42⟩) N122 hP hD hS (lv_sub hl [3, 2, 1, 0] rfl)
              · have tc121 := (show z120.toInt = 12 from ti_eq rfl rg_58 c121)
                have o43 : -1 ≤ z90.toInt := by omega
                have o44 : z90.toInt ≤ 7 := by omega
                exact pt_85 σ z84 z87 z90 _ _ _ hI eqx.rf Mo.rf (Lx.rf hes) eqx.rf (show -1 ≤ z90.toInt ∧ z90.toInt ≤ 7 from ⟨o43, o44⟩) hP hD hS (lv_sub hl [3, 2, 1, 0] rfl)
  · have tc93 := (show z84.toInt = 0 from ti_eq rfl rg_11 c93)
    refine lv_iload_n hx hb dX12_readLine_25 rfl (lv_at hl 1 rfl) ?_
    refine lv_if_ne (tgt := 33) hx hb dX12_readLine_26 rfl (fun c123 => ?_) (fun c123 => ?_)
    · have tc123 := (show z87.toInt ≠ 0 from ti_ne rfl rg_11 c123)
      refine lv_iload_n hx hb dX12_readLine_33 rfl (lv_at hl 2 rfl) ?_
      refine lv_if_eq (tgt := 50) hx hb dX12_readLine_34 rfl (fun c124 => ?_) (fun c124 => ?_)
      · have tc124 := (show z84.toInt = 0 from ti_eq rfl rg_11 c124)
        refine lv_iload_n hx hb dX12_readLine_50 rfl (lv_at hl 1 rfl) ?_
        refine lv_if_eq (tgt := 67) hx hb dX12_readLine_51 rfl (fun c125 => ?_) (fun c125 => ?_)
        · have tc125 := (show z87.toInt = 0 from ti_eq rfl rg_11 c125)
          refine lv_iload_n hx hb dX12_readLine_67 rfl (lv_at hl 0 rfl) ?_
          refine lv_if_lt (tgt := 89) hx hb dX12_readLine_68 rfl (fun c126 => ?_) (fun c126 => ?_)
          · have tc126 := (show z90.toInt < 0 from ti_lt rfl rg_11 c126)
            have N127 : When σ ((z84.toInt ≠ 0 → (σ.2.1 11 (σ.1 30).toNatClampNeg).toInt ≤ 1) ∧ (z84.toInt = 0 → z87.toInt ≠ 0 → (σ.2.1 13 (σ.1 30).toNatClampNeg).toInt ≤ 3) ∧ (z84.toInt = 0 → z87.toInt = 0 → 0 ≤ z90.toInt ∧ (σ.2.1 12 (σ.1 30).toNatClampNeg).toInt ≤ 11)) := fun _ => by omega
            have o45 : -1 ≤ z90.toInt := by omega
            have o46 : z90.toInt ≤ 7 := by omega
            exact pt_89 σ z84 z87 z90 _ _ _ hI eqx.rf Mo.rf (Lx.rf hes) eqx.rf (show -1 ≤ z90.toInt ∧ z90.toInt ≤ 7 from ⟨o45, o46⟩) N127 hP hD hS (lv_sub hl [3, 2, 1, 0] rfl)
          · have tc126 := (show 0 ≤ z90.toInt from ti_nlt rfl rg_11 c126)
            refine lv_aload_n hx hb dX12_readLine_71 rfl (lv_at hl 3 rfl) ?_
            refine va_get (D := (dC, dI)) (ci := 12) (v := .ref (ad 12)) (C := RX12) (T := TX12) (N := 59) hx hb hts hin12 hown hK hP 0 rfl rfl 12 (Nat.le_of_ble_eq_true rfl) (ho (.fieldLink RX12 24 "NearEnoughModel" "stepMany" "[I") (List.mem_of_getElem? (i := 2) rfl)) (fun _ h9 => h9) rfl dX12_readLine_72 ?_
            refine lv_aload_n hx hb dX12_readLine_75 rfl (lv_at hl 3 rfl) ?_
            refine va_get (D := (dC, dI)) (ci := 12) (v := .int (σ.1 30)) (C := RX12) (T := TX12) (N := 59) hx hb hts hin12 hown hK hP 0 rfl rfl 30 (Nat.le_of_ble_eq_true rfl) (ho (.fieldLink RX12 243 "NearEnoughModel" "rb" "I") (List.mem_of_getElem? (i := 3) rfl)) (fun _ h9 => h9) rfl dX12_readLine_76 ?_
            have bσ_30 : 0 ≤ (σ.1 30).toInt ∧ (σ.1 30).toInt ≤ 1 := hI.1 30
            have o47 : 0 ≤ (σ.1 30).toInt := by omega
            have o48 : (σ.1 30).toInt < ((2 : Nat) : Int) := by omega
            refine va_iald hx hb hK hP 4 3 rfl rfl (ti_inx o47 o48) dX12_readLine_79 ?_
            refine lv_topi (fun z128 ez128 => ?_)
            have gz128 : z128.toInt = ((σ.2.1 12) (Int32.toNatClampNeg (σ.1 30))).toInt := congrArg Int32.toInt (ez128.trans (congrFun rfl (Int32.toNatClampNeg (σ.1 30))))
            have bz128 : 0 ≤ z128.toInt ∧ z128.toInt ≤ 12 := by rw [ez128]; exact (hI.2 12) _ (cl_lt (n := 2) o47 o48)
            refine lv_bipush (v := 12) hx hb dX12_readLine_80 rg_57 ?_
            refine lv_icmp_ne (tgt := 89) hx hb dX12_readLine_82 rfl (fun c129 => ?_) (fun c129 => ?_)
            · have tc129 := (show z128.toInt ≠ 12 from ti_ne rfl rg_58 c129)
              have N130 : When σ ((z84.toInt ≠ 0 → (σ.2.1 11 (σ.1 30).toNatClampNeg).toInt ≤ 1) ∧ (z84.toInt = 0 → z87.toInt ≠ 0 → (σ.2.1 13 (σ.1 30).toNatClampNeg).toInt ≤ 3) ∧ (z84.toInt = 0 → z87.toInt = 0 → 0 ≤ z90.toInt ∧ (σ.2.1 12 (σ.1 30).toNatClampNeg).toInt ≤ 11)) := fun _ => by omega
              have o49 : -1 ≤ z90.toInt := by omega
              have o50 : z90.toInt ≤ 7 := by omega
              exact pt_89 σ z84 z87 z90 _ _ _ hI eqx.rf Mo.rf (Lx.rf hes) eqx.rf (show -1 ≤ z90.toInt ∧ z90.toInt ≤ 7 from ⟨o49, o50⟩) N130 hP hD hS (lv_sub hl [3, 2, 1, 0] rfl)
            · have tc129 := (show z128.toInt = 12 from ti_eq rfl rg_58 c129)
              have o51 : -1 ≤ z90.toInt := by omega
              have o52 : z90.toInt ≤ 7 := by omega
              exact pt_85 σ z84 z87 z90 _ _ _ hI eqx.rf Mo.rf (Lx.rf hes) eqx.rf (show -1 ≤ z90.toInt ∧ z90.toInt ≤ 7 from ⟨o51, o52⟩) hP hD hS (lv_sub hl [3, 2, 1, 0] rfl)
        · have tc125 := (show z87.toInt ≠ 0 from ti_ne rfl rg_11 c125)
          refine lv_aload_n hx hb dX12_readLine_54 rfl (lv_at hl 3 rfl) ?_
          refine va_get (D := (dC, dI)) (ci := 12) (v := .ref (ad 13)) (C := RX12) (T := TX12) (N := 59) hx hb hts hin12 hown hK hP 0 rfl rfl 13 (Nat.le_of_ble_eq_true rfl) (ho (.fieldLink RX12 27 "NearEnoughModel" "endMany" "[I") (List.mem_of_getElem? (i := 4) rfl)) (fun _ h9 => h9) rfl dX12_readLine_55 ?_
          refine lv_aload_n hx hb dX12_readLine_58 rfl (lv_at hl 3 rfl) ?_
          refine va_get (D := (dC, dI)) (ci := 12) (v := .int (σ.1 30)) (C := RX12) (T := TX12) (N := 59) hx hb hts hin12 hown hK hP 0 rfl rfl 30 (Nat.le_of_ble_eq_true rfl) (ho (.fieldLink RX12 243 "NearEnoughModel" "rb" "I") (List.mem_of_getElem? (i := 3) rfl)) (fun _ h9 => h9) rfl dX12_readLine_59 ?_
          have bσ_30 : 0 ≤ (σ.1 30).toInt ∧ (σ.1 30).toInt ≤ 1 := hI.1 30
          have o53 : 0 ≤ (σ.1 30).toInt := by omega
          have o54 : (σ.1 30).toInt < ((2 : Nat) : Int) := by omega
          refine va_iald hx hb hK hP 5 4 rfl rfl (ti_inx o53 o54) dX12_readLine_62 ?_
          refine lv_topi (fun z131 ez131 => ?_)
          have gz131 : z131.toInt = ((σ.2.1 13) (Int32.toNatClampNeg (σ.1 30))).toInt := congrArg Int32.toInt (ez131.trans (congrFun rfl (Int32.toNatClampNeg (σ.1 30))))
          have bz131 : 0 ≤ z131.toInt ∧ z131.toInt ≤ 4 := by rw [ez131]; exact (hI.2 13) _ (cl_lt (n := 2) o53 o54)
          refine lv_iconst (v := 4) hx hb dX12_readLine_63 rg_31 ?_
          refine lv_icmp_eq (tgt := 85) hx hb dX12_readLine_64 rfl (fun c132 => ?_) (fun c132 => ?_)
          · have tc132 := (show z131.toInt = 4 from ti_eq rfl rg_32 c132)
            have o55 : -1 ≤ z90.toInt := by omega
            have o56 : z90.toInt ≤ 7 := by omega
            exact pt_85 σ z84 z87 z90 _ _ _ hI eqx.rf Mo.rf (Lx.rf hes) eqx.rf (show -1 ≤ z90.toInt ∧ z90.toInt ≤ 7 from ⟨o55, o56⟩) hP hD hS (lv_sub hl [3, 2, 1, 0] rfl)
          · have tc132 := (show z131.toInt ≠ 4 from ti_ne rfl rg_32 c132)
            refine lv_iload_n hx hb dX12_readLine_67 rfl (lv_at hl 0 rfl) ?_
            refine lv_if_lt (tgt := 89) hx hb dX12_readLine_68 rfl (fun c133 => ?_) (fun c133 => ?_)
            · have tc133 := (show z90.toInt < 0 from ti_lt rfl rg_11 c133)
              have N134 : When σ ((z84.toInt ≠ 0 → (σ.2.1 11 (σ.1 30).toNatClampNeg).toInt ≤ 1) ∧ (z84.toInt = 0 → z87.toInt ≠ 0 → (σ.2.1 13 (σ.1 30).toNatClampNeg).toInt ≤ 3) ∧ (z84.toInt = 0 → z87.toInt = 0 → 0 ≤ z90.toInt ∧ (σ.2.1 12 (σ.1 30).toNatClampNeg).toInt ≤ 11)) := fun _ => by omega
              have o57 : -1 ≤ z90.toInt := by omega
              have o58 : z90.toInt ≤ 7 := by omega
              exact pt_89 σ z84 z87 z90 _ _ _ hI eqx.rf Mo.rf (Lx.rf hes) eqx.rf (show -1 ≤ z90.toInt ∧ z90.toInt ≤ 7 from ⟨o57, o58⟩) N134 hP hD hS (lv_sub hl [3, 2, 1, 0] rfl)
            · have tc133 := (show 0 ≤ z90.toInt from ti_nlt rfl rg_11 c133)
              refine lv_aload_n hx hb dX12_readLine_71 rfl (lv_at hl 3 rfl) ?_
              refine va_get (D := (dC, dI)) (ci := 12) (v := .ref (ad 12)) (C := RX12) (T := TX12) (N := 59) hx hb hts hin12 hown hK hP 0 rfl rfl 12 (Nat.le_of_ble_eq_true rfl) (ho (.fieldLink RX12 24 "NearEnoughModel" "stepMany" "[I") (List.mem_of_getElem? (i := 2) rfl)) (fun _ h9 => h9) rfl dX12_readLine_72 ?_
              refine lv_aload_n hx hb dX12_readLine_75 rfl (lv_at hl 3 rfl) ?_
              refine va_get (D := (dC, dI)) (ci := 12) (v := .int (σ.1 30)) (C := RX12) (T := TX12) (N := 59) hx hb hts hin12 hown hK hP 0 rfl rfl 30 (Nat.le_of_ble_eq_true rfl) (ho (.fieldLink RX12 243 "NearEnoughModel" "rb" "I") (List.mem_of_getElem? (i := 3) rfl)) (fun _ h9 => h9) rfl dX12_readLine_76 ?_
              have bσ_30 : 0 ≤ (σ.1 30).toInt ∧ (σ.1 30).toInt ≤ 1 := hI.1 30
              refine va_iald hx hb hK hP 4 3 rfl rfl (ti_inx o53 o54) dX12_readLine_79 ?_
              refine lv_topi (fun z135 ez135 => ?_)
              have gz135 : z135.toInt = ((σ.2.1 12) (Int32.toNatClampNeg (σ.1 30))).toInt := congrArg Int32.toInt (ez135.trans (congrFun rfl (Int32.toNatClampNeg (σ.1 30))))
              have bz135 : 0 ≤ z135.toInt ∧ z135.toInt ≤ 12 := by rw [ez135]; exact (hI.2 12) _ (cl_lt (n := 2) o53 o54)
              refine lv_bipush (v := 12) hx hb dX12_readLine_80 rg_57 ?_
              refine lv_icmp_ne (tgt := 89) hx hb dX12_readLine_82 rfl (fun c136 => ?_) (fun c136 => ?_)
              · have tc136 := (show z135.toInt ≠ 12 from ti_ne rfl rg_58 c136)
                have N137 : When σ ((z84.toInt ≠ 0 → (σ.2.1 11 (σ.1 30).toNatClampNeg).toInt ≤ 1) ∧ (z84.toInt = 0 → z87.toInt ≠ 0 → (σ.2.1 13 (σ.1 30).toNatClampNeg).toInt ≤ 3) ∧ (z84.toInt = 0 → z87.toInt = 0 → 0 ≤ z90.toInt ∧ (σ.2.1 12 (σ.1 30).toNatClampNeg).toInt ≤ 11)) := fun _ => by omega
                have o59 : -1 ≤ z90.toInt := by omega
                have o60 : z90.toInt ≤ 7 := by omega
                exact pt_89 σ z84 z87 z90 _ _ _ hI eqx.rf Mo.rf (Lx.rf hes) eqx.rf (show -1 ≤ z90.toInt ∧ z90.toInt ≤ 7 from ⟨o59, o60⟩) N137 hP hD hS (lv_sub hl [3, 2, 1, 0] rfl)
              · have tc136 := (show z135.toInt = 12 from ti_eq rfl rg_58 c136)
                have o61 : -1 ≤ z90.toInt := by omega
                have o62 : z90.toInt ≤ 7 := by omega
                exact pt_85 σ z84 z87 z90 _ _ _ hI eqx.rf Mo.rf (Lx.rf hes) eqx.rf (show -1 ≤ z90.toInt ∧ z90.toInt ≤ 7 from ⟨o61, o62⟩) hP hD hS (lv_sub hl [3, 2, 1, 0] rfl)
      · have tc124 := (show z84.toInt ≠ 0 from ti_ne rfl rg_11 c124)
        refine lv_aload_n hx hb dX12_readLine_37 rfl (lv_at hl 3 rfl) ?_
        refine va_get (D := (dC, dI)) (ci := 12) (v := .ref (ad 11)) (C := RX12) (T := TX12) (N := 59) hx hb hts hin12 hown hK hP 0 rfl rfl 11 (Nat.le_of_ble_eq_true rfl) (ho (.fieldLink RX12 20 "NearEnoughModel" "rowMany" "[I") (List.mem_of_getElem? (i := 5) rfl)) (fun _ h9 => h9) rfl dX12_readLine_38 ?_
        refine lv_aload_n hx hb dX12_readLine_41 rfl (lv_at hl 3 rfl) ?_
        refine va_get (D := (dC, dI)) (ci := 12) (v := .int (σ.1 30)) (C := RX12) (T := TX12) (N := 59) hx hb hts hin12 hown hK hP 0 rfl rfl 30 (Nat.le_of_ble_eq_true rfl) (ho (.fieldLink RX12 243 "NearEnoughModel" "rb" "I") (List.mem_of_getElem? (i := 3) rfl)) (fun _ h9 => h9) rfl dX12_readLine_42 ?_
        have bσ_30 : 0 ≤ (σ.1 30).toInt ∧ (σ.1 30).toInt ≤ 1 := hI.1 30
        have o63 : 0 ≤ (σ.1 30).toInt := by omega
        have o64 : (σ.1 30).toInt < ((2 : Nat) : Int) := by omega
        refine va_iald hx hb hK hP 3 2 rfl rfl (ti_inx o63 o64) dX12_readLine_45 ?_
        refine lv_topi (fun z138 ez138 => ?_)
        have gz138 : z138.toInt = ((σ.2.1 11) (Int32.toNatClampNeg (σ.1 30))).toInt := congrArg Int32.toInt (ez138.trans (congrFun rfl (Int32.toNatClampNeg (σ.1 30))))
        have bz138 : 0 ≤ z138.toInt ∧ z138.toInt ≤ 2 := by rw [ez138]; exact (hI.2 11) _ (cl_lt (n := 2) o63 o64)
        refine lv_iconst (v := 2) hx hb dX12_readLine_46 rg_19 ?_
        refine lv_icmp_eq (tgt := 85) hx hb dX12_readLine_47 rfl (fun c139 => ?_) (fun c139 => ?_)
        · have tc139 := (show z138.toInt = 2 from ti_eq rfl rg_20 c139)
          have o65 : -1 ≤ z90.toInt := by omega
          have o66 : z90.toInt ≤ 7 := by omega
          exact pt_85 σ z84 z87 z90 _ _ _ hI eqx.rf Mo.rf (Lx.rf hes) eqx.rf (show -1 ≤ z90.toInt ∧ z90.toInt ≤ 7 from ⟨o65, o66⟩) hP hD hS (lv_sub hl [3, 2, 1, 0] rfl)
        · have tc139 := (show z138.toInt ≠ 2 from ti_ne rfl rg_20 c139)
          refine lv_iload_n hx hb dX12_readLine_50 rfl (lv_at hl 1 rfl) ?_
          refine lv_if_eq (tgt := 67) hx hb dX12_readLine_51 rfl (fun c140 => ?_) (fun c140 => ?_)
          · have tc140 := (show z87.toInt = 0 from ti_eq rfl rg_11 c140)
            refine lv_iload_n hx hb dX12_readLine_67 rfl (lv_at hl 0 rfl) ?_
            refine lv_if_lt (tgt := 89) hx hb dX12_readLine_68 rfl (fun c141 => ?_) (fun c141 => ?_)
            · have tc141 := (show z90.toInt < 0 from ti_lt rfl rg_11 c141)
              have N142 : When σ ((z84.toInt ≠ 0 → (σ.2.1 11 (σ.1 30).toNatClampNeg).toInt ≤ 1) ∧ (z84.toInt = 0 → z87.toInt ≠ 0 → (σ.2.1 13 (σ.1 30).toNatClampNeg).toInt ≤ 3) ∧ (z84.toInt = 0 → z87.toInt = 0 → 0 ≤ z90.toInt ∧ (σ.2.1 12 (σ.1 30).toNatClampNeg).toInt ≤ 11)) := fun _ => by omega
              have o67 : -1 ≤ z90.toInt := by omega
              have o68 : z90.toInt ≤ 7 := by omega
              exact pt_89 σ z84 z87 z90 _ _ _ hI eqx.rf Mo.rf (Lx.rf hes) eqx.rf (show -1 ≤ z90.toInt ∧ z90.toInt ≤ 7 from ⟨o67, o68⟩) N142 hP hD hS (lv_sub hl [3, 2, 1, 0] rfl)
            · have tc141 := (show 0 ≤ z90.toInt from ti_nlt rfl rg_11 c141)
              refine lv_aload_n hx hb dX12_readLine_71 rfl (lv_at hl 3 rfl) ?_
              refine va_get (D := (dC, dI)) (ci := 12) (v := .ref (ad 12)) (C := RX12) (T := TX12) (N := 59) hx hb hts hin12 hown hK hP 0 rfl rfl 12 (Nat.le_of_ble_eq_true rfl) (ho (.fieldLink RX12 24 "NearEnoughModel" "stepMany" "[I") (List.mem_of_getElem? (i := 2) rfl)) (fun _ h9 => h9) rfl dX12_readLine_72 ?_
              refine lv_aload_n hx hb dX12_readLine_75 rfl (lv_at hl 3 rfl) ?_
              refine va_get (D := (dC, dI)) (ci := 12) (v := .int (σ.1 30)) (C := RX12) (T := TX12) (N := 59) hx hb hts hin12 hown hK hP 0 rfl rfl 30 (Nat.le_of_ble_eq_true rfl) (ho (.fieldLink RX12 243 "NearEnoughModel" "rb" "I") (List.mem_of_getElem? (i := 3) rfl)) (fun _ h9 => h9) rfl dX12_readLine_76 ?_
              have bσ_30 : 0 ≤ (σ.1 30).toInt ∧ (σ.1 30).toInt ≤ 1 := hI.1 30
              refine va_iald hx hb hK hP 4 3 rfl rfl (ti_inx o63 o64) dX12_readLine_79 ?_
              refine lv_topi (fun z143 ez143 => ?_)
              have gz143 : z143.toInt = ((σ.2.1 12) (Int32.toNatClampNeg (σ.1 30))).toInt := congrArg Int32.toInt (ez143.trans (congrFun rfl (Int32.toNatClampNeg (σ.1 30))))
              have bz143 : 0 ≤ z143.toInt ∧ z143.toInt ≤ 12 := by rw [ez143]; exact (hI.2 12) _ (cl_lt (n := 2) o63 o64)
              refine lv_bipush (v := 12) hx hb dX12_readLine_80 rg_57 ?_
              refine lv_icmp_ne (tgt := 89) hx hb dX12_readLine_82 rfl (fun c144 => ?_) (fun c144 => ?_)
              · have tc144 := (show z143.toInt ≠ 12 from ti_ne rfl rg_58 c144)
                have N145 : When σ ((z84.toInt ≠ 0 → (σ.2.1 11 (σ.1 30).toNatClampNeg).toInt ≤ 1) ∧ (z84.toInt = 0 → z87.toInt ≠ 0 → (σ.2.1 13 (σ.1 30).toNatClampNeg).toInt ≤ 3) ∧ (z84.toInt = 0 → z87.toInt = 0 → 0 ≤ z90.toInt ∧ (σ.2.1 12 (σ.1 30).toNatClampNeg).toInt ≤ 11)) := fun _ => by omega
                have o69 : -1 ≤ z90.toInt := by omega
                have o70 : z90.toInt ≤ 7 := by omega
                exact pt_89 σ z84 z87 z90 _ _ _ hI eqx.rf Mo.rf (Lx.rf hes) eqx.rf (show -1 ≤ z90.toInt ∧ z90.toInt ≤ 7 from ⟨o69, o70⟩) N145 hP hD hS (lv_sub hl [3, 2, 1, 0] rfl)
              · have tc144 := (show z143.toInt = 12 from ti_eq rfl rg_58 c144)
                have o71 : -1 ≤ z90.toInt := by omega
                have o72 : z90.toInt ≤ 7 := by omega
                exact pt_85 σ z84 z87 z90 _ _ _ hI eqx.rf Mo.rf (Lx.rf hes) eqx.rf (show -1 ≤ z90.toInt ∧ z90.toInt ≤ 7 from ⟨o71, o72⟩) hP hD hS (lv_sub hl [3, 2, 1, 0] rfl)
          · have tc140 := (show z87.toInt ≠ 0 from ti_ne rfl rg_11 c140)
            refine lv_aload_n hx hb dX12_readLine_54 rfl (lv_at hl 3 rfl) ?_
            refine va_get (D := (dC, dI)) (ci := 12) (v := .ref (ad 13)) (C := RX12) (T := TX12) (N := 59) hx hb hts hin12 hown hK hP 0 rfl rfl 13 (Nat.le_of_ble_eq_true rfl) (ho (.fieldLink RX12 27 "NearEnoughModel" "endMany" "[I") (List.mem_of_getElem? (i := 4) rfl)) (fun _ h9 => h9) rfl dX12_readLine_55 ?_
            refine lv_aload_n hx hb dX12_readLine_58 rfl (lv_at hl 3 rfl) ?_
            refine va_get (D := (dC, dI)) (ci := 12) (v := .int (σ.1 30)) (C := RX12) (T := TX12) (N := 59) hx hb hts hin12 hown hK hP 0 rfl rfl 30 (Nat.le_of_ble_eq_true rfl) (ho (.fieldLink RX12 243 "NearEnoughModel" "rb" "I") (List.mem_of_getElem? (i := 3) rfl)) (fun _ h9 => h9) rfl dX12_readLine_59 ?_
            have bσ_30 : 0 ≤ (σ.1 30).toInt ∧ (σ.1 30).toInt ≤ 1 := hI.1 30
            refine va_iald hx hb hK hP 5 4 rfl rfl (ti_inx o63 o64) dX12_readLine_62 ?_
            refine lv_topi (fun z146 ez146 => ?_)
            have gz146 : z146.toInt = ((σ.2.1 13) (Int32.toNatClampNeg (σ.1 30))).toInt := congrArg Int32.toInt (ez146.trans (congrFun rfl (Int32.toNatClampNeg (σ.1 30))))
            have bz146 : 0 ≤ z146.toInt ∧ z146.toInt ≤ 4 := by rw [ez146]; exact (hI.2 13) _ (cl_lt (n := 2) o63 o64)
            refine lv_iconst (v := 4) hx hb dX12_readLine_63 rg_31 ?_
            refine lv_icmp_eq (tgt := 85) hx hb dX12_readLine_64 rfl (fun c147 => ?_) (fun c147 => ?_)
            · have tc147 := (show z146.toInt = 4 from ti_eq rfl rg_32 c147)
              have o73 : -1 ≤ z90.toInt := by omega
              have o74 : z90.toInt ≤ 7 := by omega
              exact pt_85 σ z84 z87 z90 _ _ _ hI eqx.rf Mo.rf (Lx.rf hes) eqx.rf (show -1 ≤ z90.toInt ∧ z90.toInt ≤ 7 from ⟨o73, o74⟩) hP hD hS (lv_sub hl [3, 2, 1, 0] rfl)
            · have tc147 := (show z146.toInt ≠ 4 from ti_ne rfl rg_32 c147)
              refine lv_iload_n hx hb dX12_readLine_67 rfl (lv_at hl 0 rfl) ?_
              refine lv_if_lt (tgt := 89) hx hb dX12_readLine_68 rfl (fun c148 => ?_) (fun c148 => ?_)
              · have tc148 := (show z90.toInt < 0 from ti_lt rfl rg_11 c148)
                have N149 : When σ ((z84.toInt ≠ 0 → (σ.2.1 11 (σ.1 30).toNatClampNeg).toInt ≤ 1) ∧ (z84.toInt = 0 → z87.toInt ≠ 0 → (σ.2.1 13 (σ.1 30).toNatClampNeg).toInt ≤ 3) ∧ (z84.toInt = 0 → z87.toInt = 0 → 0 ≤ z90.toInt ∧ (σ.2.1 12 (σ.1 30).toNatClampNeg).toInt ≤ 11)) := fun _ => by omega
                have o75 : -1 ≤ z90.toInt := by omega
                have o76 : z90.toInt ≤ 7 := by omega
                exact pt_89 σ z84 z87 z90 _ _ _ hI eqx.rf Mo.rf (Lx.rf hes) eqx.rf (show -1 ≤ z90.toInt ∧ z90.toInt ≤ 7 from ⟨o75, o76⟩) N149 hP hD hS (lv_sub hl [3, 2, 1, 0] rfl)
              · have tc148 := (show 0 ≤ z90.toInt from ti_nlt rfl rg_11 c148)
                refine lv_aload_n hx hb dX12_readLine_71 rfl (lv_at hl 3 rfl) ?_
                refine va_get (D := (dC, dI)) (ci := 12) (v := .ref (ad 12)) (C := RX12) (T := TX12) (N := 59) hx hb hts hin12 hown hK hP 0 rfl rfl 12 (Nat.le_of_ble_eq_true rfl) (ho (.fieldLink RX12 24 "NearEnoughModel" "stepMany" "[I") (List.mem_of_getElem? (i := 2) rfl)) (fun _ h9 => h9) rfl dX12_readLine_72 ?_
                refine lv_aload_n hx hb dX12_readLine_75 rfl (lv_at hl 3 rfl) ?_
                refine va_get (D := (dC, dI)) (ci := 12) (v := .int (σ.1 30)) (C := RX12) (T := TX12) (N := 59) hx hb hts hin12 hown hK hP 0 rfl rfl 30 (Nat.le_of_ble_eq_true rfl) (ho (.fieldLink RX12 243 "NearEnoughModel" "rb" "I") (List.mem_of_getElem? (i := 3) rfl)) (fun _ h9 => h9) rfl dX12_readLine_76 ?_
                have bσ_30 : 0 ≤ (σ.1 30).toInt ∧ (σ.1 30).toInt ≤ 1 := hI.1 30
                refine va_iald hx hb hK hP 4 3 rfl rfl (ti_inx o63 o64) dX12_readLine_79 ?_
                refine lv_topi (fun z150 ez150 => ?_)
                have gz150 : z150.toInt = ((σ.2.1 12) (Int32.toNatClampNeg (σ.1 30))).toInt := congrArg Int32.toInt (ez150.trans (congrFun rfl (Int32.toNatClampNeg (σ.1 30))))
                have bz150 : 0 ≤ z150.toInt ∧ z150.toInt ≤ 12 := by rw [ez150]; exact (hI.2 12) _ (cl_lt (n := 2) o63 o64)
                refine lv_bipush (v := 12) hx hb dX12_readLine_80 rg_57 ?_
                refine lv_icmp_ne (tgt := 89) hx hb dX12_readLine_82 rfl (fun c151 => ?_) (fun c151 => ?_)
                · have tc151 := (show z150.toInt ≠ 12 from ti_ne rfl rg_58 c151)
                  have N152 : When σ ((z84.toInt ≠ 0 → (σ.2.1 11 (σ.1 30).toNatClampNeg).toInt ≤ 1) ∧ (z84.toInt = 0 → z87.toInt ≠ 0 → (σ.2.1 13 (σ.1 30).toNatClampNeg).toInt ≤ 3) ∧ (z84.toInt = 0 → z87.toInt = 0 → 0 ≤ z90.toInt ∧ (σ.2.1 12 (σ.1 30).toNatClampNeg).toInt ≤ 11)) := fun _ => by omega
                  have o77 : -1 ≤ z90.toInt := by omega
                  have o78 : z90.toInt ≤ 7 := by omega
                  exact pt_89 σ z84 z87 z90 _ _ _ hI eqx.rf Mo.rf (Lx.rf hes) eqx.rf (show -1 ≤ z90.toInt ∧ z90.toInt ≤ 7 from ⟨o77, o78⟩) N152 hP hD hS (lv_sub hl [3, 2, 1, 0] rfl)
                · have tc151 := (show z150.toInt = 12 from ti_eq rfl rg_58 c151)
                  have o79 : -1 ≤ z90.toInt := by omega
                  have o80 : z90.toInt ≤ 7 := by omega
                  exact pt_85 σ z84 z87 z90 _ _ _ hI eqx.rf Mo.rf (Lx.rf hes) eqx.rf (show -1 ≤ z90.toInt ∧ z90.toInt ≤ 7 from ⟨o79, o80⟩) hP hD hS (lv_sub hl [3, 2, 1, 0] rfl)
    · have tc123 := (show z87.toInt = 0 from ti_eq rfl rg_11 c123)
      refine lv_iload_n hx hb dX12_readLine_29 rfl (lv_at hl 0 rfl) ?_
      refine lv_if_lt (tgt := 85) hx hb dX12_readLine_30 rfl (fun c153 => ?_) (fun c153 => ?_)
      · have tc153 := (show z90.toInt < 0 from ti_lt rfl rg_11 c153)
        have o81 : -1 ≤ z90.toInt := by omega
        have o82 : z90.toInt ≤ 7 := by omega
        exact pt_85 σ z84 z87 z90 _ _ _ hI eqx.rf Mo.rf (Lx.rf hes) eqx.rf (show -1 ≤ z90.toInt ∧ z90.toInt ≤ 7 from ⟨o81, o82⟩) hP hD hS (lv_sub hl [3, 2, 1, 0] rfl)
      · have tc153 := (show 0 ≤ z90.toInt from ti_nlt rfl rg_11 c153)
        refine lv_iload_n hx hb dX12_readLine_33 rfl (lv_at hl 2 rfl) ?_
        refine lv_if_eq (tgt := 50) hx hb dX12_readLine_34 rfl (fun c154 => ?_) (fun c154 => ?_)
        · have tc154 := (show z84.toInt = 0 from ti_eq rfl rg_11 c154)
          refine lv_iload_n hx hb dX12_readLine_50 rfl (lv_at hl 1 rfl) ?_
          refine lv_if_eq (tgt := 67) hx hb dX12_readLine_51 rfl (fun c155 => ?_) (fun c155 => ?_)
          · have tc155 := (show z87.toInt = 0 from ti_eq rfl rg_11 c155)
            refine lv_iload_n hx hb dX12_readLine_67 rfl (lv_at hl 0 rfl) ?_
            refine lv_if_lt (tgt := 89) hx hb dX12_readLine_68 rfl (fun c156 => ?_) (fun c156 => ?_)
            · have tc156 := (show z90.toInt < 0 from ti_lt rfl rg_11 c156)
              have N157 : When σ ((z84.toInt ≠ 0 → (σ.2.1 11 (σ.1 30).toNatClampNeg).toInt ≤ 1) ∧ (z84.toInt = 0 → z87.toInt ≠ 0 → (σ.2.1 13 (σ.1 30).toNatClampNeg).toInt ≤ 3) ∧ (z84.toInt = 0 → z87.toInt = 0 → 0 ≤ z90.toInt ∧ (σ.2.1 12 (σ.1 30).toNatClampNeg).toInt ≤ 11)) := fun _ => by omega
              have o83 : -1 ≤ z90.toInt := by omega
              have o84 : z90.toInt ≤ 7 := by omega
              exact pt_89 σ z84 z87 z90 _ _ _ hI eqx.rf Mo.rf (Lx.rf hes) eqx.rf (show -1 ≤ z90.toInt ∧ z90.toInt ≤ 7 from ⟨o83, o84⟩) N157 hP hD hS (lv_sub hl [3, 2, 1, 0] rfl)
            · have tc156 := (show 0 ≤ z90.toInt from ti_nlt rfl rg_11 c156)
              refine lv_aload_n hx hb dX12_readLine_71 rfl (lv_at hl 3 rfl) ?_
              refine va_get (D := (dC, dI)) (ci := 12) (v := .ref (ad 12)) (C := RX12) (T := TX12) (N := 59) hx hb hts hin12 hown hK hP 0 rfl rfl 12 (Nat.le_of_ble_eq_true rfl) (ho (.fieldLink RX12 24 "NearEnoughModel" "stepMany" "[I") (List.mem_of_getElem? (i := 2) rfl)) (fun _ h9 => h9) rfl dX12_readLine_72 ?_
              refine lv_aload_n hx hb dX12_readLine_75 rfl (lv_at hl 3 rfl) ?_
              refine va_get (D := (dC, dI)) (ci := 12) (v := .int (σ.1 30)) (C := RX12) (T := TX12) (N := 59) hx hb hts hin12 hown hK hP 0 rfl rfl 30 (Nat.le_of_ble_eq_true rfl) (ho (.fieldLink RX12 243 "NearEnoughModel" "rb" "I") (List.mem_of_getElem? (i := 3) rfl)) (fun _ h9 => h9) rfl dX12_readLine_76 ?_
              have bσ_30 : 0 ≤ (σ.1 30).toInt ∧ (σ.1 30).toInt ≤ 1 := hI.1 30
              have o85 : 0 ≤ (σ.1 30).toInt := by omega
              have o86 : (σ.1 30).toInt < ((2 : Nat) : Int) := by omega
              refine va_iald hx hb hK hP 4 3 rfl rfl (ti_inx o85 o86) dX12_readLine_79 ?_
              refine lv_topi (fun z158 ez158 => ?_)
              have gz158 : z158.toInt = ((σ.2.1 12) (Int32.toNatClampNeg (σ.1 30))).toInt := congrArg Int32.toInt (ez158.trans (congrFun rfl (Int32.toNatClampNeg (σ.1 30))))
              have bz158 : 0 ≤ z158.toInt ∧ z158.toInt ≤ 12 := by rw [ez158]; exact (hI.2 12) _ (cl_lt (n := 2) o85 o86)
              refine lv_bipush (v := 12) hx hb dX12_readLine_80 rg_57 ?_
              refine lv_icmp_ne (tgt := 89) hx hb dX12_readLine_82 rfl (fun c159 => ?_) (fun c159 => ?_)
              · have tc159 := (show z158.toInt ≠ 12 from ti_ne rfl rg_58 c159)
                have N160 : When σ ((z84.toInt ≠ 0 → (σ.2.1 11 (σ.1 30).toNatClampNeg).toInt ≤ 1) ∧ (z84.toInt = 0 → z87.toInt ≠ 0 → (σ.2.1 13 (σ.1 30).toNatClampNeg).toInt ≤ 3) ∧ (z84.toInt = 0 → z87.toInt = 0 → 0 ≤ z90.toInt ∧ (σ.2.1 12 (σ.1 30).toNatClampNeg).toInt ≤ 11)) := fun _ => by omega
                have o87 : -1 ≤ z90.toInt := by omega
                have o88 : z90.toInt ≤ 7 := by omega
                exact pt_89 σ z84 z87 z90 _ _ _ hI eqx.rf Mo.rf (Lx.rf hes) eqx.rf (show -1 ≤ z90.toInt ∧ z90.toInt ≤ 7 from ⟨o87, o88⟩) N160 hP hD hS (lv_sub hl [3, 2, 1, 0] rfl)
              · have tc159 := (show z158.toInt = 12 from ti_eq rfl rg_58 c159)
                have o89 : -1 ≤ z90.toInt := by omega
                have o90 : z90.toInt ≤ 7 := by omega
                exact pt_85 σ z84 z87 z90 _ _ _ hI eqx.rf Mo.rf (Lx.rf hes) eqx.rf (show -1 ≤ z90.toInt ∧ z90.toInt ≤ 7 from ⟨o89, o90⟩) hP hD hS (lv_sub hl [3, 2, 1, 0] rfl)
          · have tc155 := (show z87.toInt ≠ 0 from ti_ne rfl rg_11 c155)
            refine lv_aload_n hx hb dX12_readLine_54 rfl (lv_at hl 3 rfl) ?_
            refine va_get (D := (dC, dI)) (ci := 12) (v := .ref (ad 13)) (C := RX12) (T := TX12) (N := 59) hx hb hts hin12 hown hK hP 0 rfl rfl 13 (Nat.le_of_ble_eq_true rfl) (ho (.fieldLink RX12 27 "NearEnoughModel" "endMany" "[I") (List.mem_of_getElem? (i := 4) rfl)) (fun _ h9 => h9) rfl dX12_readLine_55 ?_
            refine lv_aload_n hx hb dX12_readLine_58 rfl (lv_at hl 3 rfl) ?_
            refine va_get (D := (dC, dI)) (ci := 12) (v := .int (σ.1 30)) (C := RX12) (T := TX12) (N := 59) hx hb hts hin12 hown hK hP 0 rfl rfl 30 (Nat.le_of_ble_eq_true rfl) (ho (.fieldLink RX12 243 "NearEnoughModel" "rb" "I") (List.mem_of_getElem? (i := 3) rfl)) (fun _ h9 => h9) rfl dX12_readLine_59 ?_
            have bσ_30 : 0 ≤ (σ.1 30).toInt ∧ (σ.1 30).toInt ≤ 1 := hI.1 30
            have o91 : 0 ≤ (σ.1 30).toInt := by omega
            have o92 : (σ.1 30).toInt < ((2 : Nat) : Int) := by omega
            refine va_iald hx hb hK hP 5 4 rfl rfl (ti_inx o91 o92) dX12_readLine_62 ?_
            refine lv_topi (fun z161 ez161 => ?_)
            have gz161 : z161.toInt = ((σ.2.1 13) (Int32.toNatClampNeg (σ.1 30))).toInt := congrArg Int32.toInt (ez161.trans (congrFun rfl (Int32.toNatClampNeg (σ.1 30))))
            have bz161 : 0 ≤ z161.toInt ∧ z161.toInt ≤ 4 := by rw [ez161]; exact (hI.2 13) _ (cl_lt (n := 2) o91 o92)
            refine lv_iconst (v := 4) hx hb dX12_readLine_63 rg_31 ?_
            refine lv_icmp_eq (tgt := 85) hx hb dX12_readLine_64 rfl (fun c162 => ?_) (fun c162 => ?_)
            · have tc162 := (show z161.toInt = 4 from ti_eq rfl rg_32 c162)
              have o93 : -1 ≤ z90.toInt := by omega
              have o94 : z90.toInt ≤ 7 := by omega
              exact pt_85 σ z84 z87 z90 _ _ _ hI eqx.rf Mo.rf (Lx.rf hes) eqx.rf (show -1 ≤ z90.toInt ∧ z90.toInt ≤ 7 from ⟨o93, o94⟩) hP hD hS (lv_sub hl [3, 2, 1, 0] rfl)
            · have tc162 := (show z161.toInt ≠ 4 from ti_ne rfl rg_32 c162)
              refine lv_iload_n hx hb dX12_readLine_67 rfl (lv_at hl 0 rfl) ?_
              refine lv_if_lt (tgt := 89) hx hb dX12_readLine_68 rfl (fun c163 => ?_) (fun c163 => ?_)
              · have tc163 := (show z90.toInt < 0 from ti_lt rfl rg_11 c163)
                have N164 : When σ ((z84.toInt ≠ 0 → (σ.2.1 11 (σ.1 30).toNatClampNeg).toInt ≤ 1) ∧ (z84.toInt = 0 → z87.toInt ≠ 0 → (σ.2.1 13 (σ.1 30).toNatClampNeg).toInt ≤ 3) ∧ (z84.toInt = 0 → z87.toInt = 0 → 0 ≤ z90.toInt ∧ (σ.2.1 12 (σ.1 30).toNatClampNeg).toInt ≤ 11)) := fun _ => by omega
                have o95 : -1 ≤ z90.toInt := by omega
                have o96 : z90.toInt ≤ 7 := by omega
                exact pt_89 σ z84 z87 z90 _ _ _ hI eqx.rf Mo.rf (Lx.rf hes) eqx.rf (show -1 ≤ z90.toInt ∧ z90.toInt ≤ 7 from ⟨o95, o96⟩) N164 hP hD hS (lv_sub hl [3, 2, 1, 0] rfl)
              · have tc163 := (show 0 ≤ z90.toInt from ti_nlt rfl rg_11 c163)
                refine lv_aload_n hx hb dX12_readLine_71 rfl (lv_at hl 3 rfl) ?_
                refine va_get (D := (dC, dI)) (ci := 12) (v := .ref (ad 12)) (C := RX12) (T := TX12) (N := 59) hx hb hts hin12 hown hK hP 0 rfl rfl 12 (Nat.le_of_ble_eq_true rfl) (ho (.fieldLink RX12 24 "NearEnoughModel" "stepMany" "[I") (List.mem_of_getElem? (i := 2) rfl)) (fun _ h9 => h9) rfl dX12_readLine_72 ?_
                refine lv_aload_n hx hb dX12_readLine_75 rfl (lv_at hl 3 rfl) ?_
                refine va_get (D := (dC, dI)) (ci := 12) (v := .int (σ.1 30)) (C := RX12) (T := TX12) (N := 59) hx hb hts hin12 hown hK hP 0 rfl rfl 30 (Nat.le_of_ble_eq_true rfl) (ho (.fieldLink RX12 243 "NearEnoughModel" "rb" "I") (List.mem_of_getElem? (i := 3) rfl)) (fun _ h9 => h9) rfl dX12_readLine_76 ?_
                have bσ_30 : 0 ≤ (σ.1 30).toInt ∧ (σ.1 30).toInt ≤ 1 := hI.1 30
                refine va_iald hx hb hK hP 4 3 rfl rfl (ti_inx o91 o92) dX12_readLine_79 ?_
                refine lv_topi (fun z165 ez165 => ?_)
                have gz165 : z165.toInt = ((σ.2.1 12) (Int32.toNatClampNeg (σ.1 30))).toInt := congrArg Int32.toInt (ez165.trans (congrFun rfl (Int32.toNatClampNeg (σ.1 30))))
                have bz165 : 0 ≤ z165.toInt ∧ z165.toInt ≤ 12 := by rw [ez165]; exact (hI.2 12) _ (cl_lt (n := 2) o91 o92)
                refine lv_bipush (v := 12) hx hb dX12_readLine_80 rg_57 ?_
                refine lv_icmp_ne (tgt := 89) hx hb dX12_readLine_82 rfl (fun c166 => ?_) (fun c166 => ?_)
                · have tc166 := (show z165.toInt ≠ 12 from ti_ne rfl rg_58 c166)
                  have N167 : When σ ((z84.toInt ≠ 0 → (σ.2.1 11 (σ.1 30).toNatClampNeg).toInt ≤ 1) ∧ (z84.toInt = 0 → z87.toInt ≠ 0 → (σ.2.1 13 (σ.1 30).toNatClampNeg).toInt ≤ 3) ∧ (z84.toInt = 0 → z87.toInt = 0 → 0 ≤ z90.toInt ∧ (σ.2.1 12 (σ.1 30).toNatClampNeg).toInt ≤ 11)) := fun _ => by omega
                  have o97 : -1 ≤ z90.toInt := by omega
                  have o98 : z90.toInt ≤ 7 := by omega
                  exact pt_89 σ z84 z87 z90 _ _ _ hI eqx.rf Mo.rf (Lx.rf hes) eqx.rf (show -1 ≤ z90.toInt ∧ z90.toInt ≤ 7 from ⟨o97, o98⟩) N167 hP hD hS (lv_sub hl [3, 2, 1, 0] rfl)
                · have tc166 := (show z165.toInt = 12 from ti_eq rfl rg_58 c166)
                  have o99 : -1 ≤ z90.toInt := by omega
                  have o100 : z90.toInt ≤ 7 := by omega
                  exact pt_85 σ z84 z87 z90 _ _ _ hI eqx.rf Mo.rf (Lx.rf hes) eqx.rf (show -1 ≤ z90.toInt ∧ z90.toInt ≤ 7 from ⟨o99, o100⟩) hP hD hS (lv_sub hl [3, 2, 1, 0] rfl)
        · have tc154 := (show z84.toInt ≠ 0 from ti_ne rfl rg_11 c154)
          refine lv_aload_n hx hb dX12_readLine_37 rfl (lv_at hl 3 rfl) ?_
          refine va_get (D := (dC, dI)) (ci := 12) (v := .ref (ad 11)) (C := RX12) (T := TX12) (N := 59) hx hb hts hin12 hown hK hP 0 rfl rfl 11 (Nat.le_of_ble_eq_true rfl) (ho (.fieldLink RX12 20 "NearEnoughModel" "rowMany" "[I") (List.mem_of_getElem? (i := 5) rfl)) (fun _ h9 => h9) rfl dX12_readLine_38 ?_
          refine lv_aload_n hx hb dX12_readLine_41 rfl (lv_at hl 3 rfl) ?_
          refine va_get (D := (dC, dI)) (ci := 12) (v := .int (σ.1 30)) (C := RX12) (T := TX12) (N := 59) hx hb hts hin12 hown hK hP 0 rfl rfl 30 (Nat.le_of_ble_eq_true rfl) (ho (.fieldLink RX12 243 "NearEnoughModel" "rb" "I") (List.mem_of_getElem? (i := 3) rfl)) (fun _ h9 => h9) rfl dX12_readLine_42 ?_
          have bσ_30 : 0 ≤ (σ.1 30).toInt ∧ (σ.1 30).toInt ≤ 1 := hI.1 30
          have o101 : 0 ≤ (σ.1 30).toInt := by omega
          have o102 : (σ.1 30).toInt < ((2 : Nat) : Int) := by omega
          refine va_iald hx hb hK hP 3 2 rfl rfl (ti_inx o101 o102) dX12_readLine_45 ?_
          refine lv_topi (fun z168 ez168 => ?_)
          have gz168 : z168.toInt = ((σ.2.1 11) (Int32.toNatClampNeg (σ.1 30))).toInt := congrArg Int32.toInt (ez168.trans (congrFun rfl (Int32.toNatClampNeg (σ.1 30))))
          have bz168 : 0 ≤ z168.toInt ∧ z168.toInt ≤ 2 := by rw [ez168]; exact (hI.2 11) _ (cl_lt (n := 2) o101 o102)
          refine lv_iconst (v := 2) hx hb dX12_readLine_46 rg_19 ?_
          refine lv_icmp_eq (tgt := 85) hx hb dX12_readLine_47 rfl (fun c169 => ?_) (fun c169 => ?_)
          · have tc169 := (show z168.toInt = 2 from ti_eq rfl rg_20 c169)
            have o103 : -1 ≤ z90.toInt := by omega
            have o104 : z90.toInt ≤ 7 := by omega
            exact pt_85 σ z84 z87 z90 _ _ _ hI eqx.rf Mo.rf (Lx.rf hes) eqx.rf (show -1 ≤ z90.toInt ∧ z90.toInt ≤ 7 from ⟨o103, o104⟩) hP hD hS (lv_sub hl [3, 2, 1, 0] rfl)
          · have tc169 := (show z168.toInt ≠ 2 from ti_ne rfl rg_20 c169)
            refine lv_iload_n hx hb dX12_readLine_50 rfl (lv_at hl 1 rfl) ?_
            refine lv_if_eq (tgt := 67) hx hb dX12_readLine_51 rfl (fun c170 => ?_) (fun c170 => ?_)
            · have tc170 := (show z87.toInt = 0 from ti_eq rfl rg_11 c170)
              refine lv_iload_n hx hb dX12_readLine_67 rfl (lv_at hl 0 rfl) ?_
              refine lv_if_lt (tgt := 89) hx hb dX12_readLine_68 rfl (fun c171 => ?_) (fun c171 => ?_)
              · have tc171 := (show z90.toInt < 0 from ti_lt rfl rg_11 c171)
                have N172 : When σ ((z84.toInt ≠ 0 → (σ.2.1 11 (σ.1 30).toNatClampNeg).toInt ≤ 1) ∧ (z84.toInt = 0 → z87.toInt ≠ 0 → (σ.2.1 13 (σ.1 30).toNatClampNeg).toInt ≤ 3) ∧ (z84.toInt = 0 → z87.toInt = 0 → 0 ≤ z90.toInt ∧ (σ.2.1 12 (σ.1 30).toNatClampNeg).toInt ≤ 11)) := fun _ => by omega
                have o105 : -1 ≤ z90.toInt := by omega
                have o106 : z90.toInt ≤ 7 := by omega
                exact pt_89 σ z84 z87 z90 _ _ _ hI eqx.rf Mo.rf (Lx.rf hes) eqx.rf (show -1 ≤ z90.toInt ∧ z90.toInt ≤ 7 from ⟨o105, o106⟩) N172 hP hD hS (lv_sub hl [3, 2, 1, 0] rfl)
              · have tc171 := (show 0 ≤ z90.toInt from ti_nlt rfl rg_11 c171)
                refine lv_aload_n hx hb dX12_readLine_71 rfl (lv_at hl 3 rfl) ?_
                refine va_get (D := (dC, dI)) (ci := 12) (v := .ref (ad 12)) (C := RX12) (T := TX12) (N := 59) hx hb hts hin12 hown hK hP 0 rfl rfl 12 (Nat.le_of_ble_eq_true rfl) (ho (.fieldLink RX12 24 "NearEnoughModel" "stepMany" "[I") (List.mem_of_getElem? (i := 2) rfl)) (fun _ h9 => h9) rfl dX12_readLine_72 ?_
                refine lv_aload_n hx hb dX12_readLine_75 rfl (lv_at hl 3 rfl) ?_
                refine va_get (D := (dC, dI)) (ci := 12) (v := .int (σ.1 30)) (C := RX12) (T := TX12) (N := 59) hx hb hts hin12 hown hK hP 0 rfl rfl 30 (Nat.le_of_ble_eq_true rfl) (ho (.fieldLink RX12 243 "NearEnoughModel" "rb" "I") (List.mem_of_getElem? (i := 3) rfl)) (fun _ h9 => h9) rfl dX12_readLine_76 ?_
                have bσ_30 : 0 ≤ (σ.1 30).toInt ∧ (σ.1 30).toInt ≤ 1 := hI.1 30
                refine va_iald hx hb hK hP 4 3 rfl rfl (ti_inx o101 o102) dX12_readLine_79 ?_
                refine lv_topi (fun z173 ez173 => ?_)
                have gz173 : z173.toInt = ((σ.2.1 12) (Int32.toNatClampNeg (σ.1 30))).toInt := congrArg Int32.toInt (ez173.trans (congrFun rfl (Int32.toNatClampNeg (σ.1 30))))
                have bz173 : 0 ≤ z173.toInt ∧ z173.toInt ≤ 12 := by rw [ez173]; exact (hI.2 12) _ (cl_lt (n := 2) o101 o102)
                refine lv_bipush (v := 12) hx hb dX12_readLine_80 rg_57 ?_
                refine lv_icmp_ne (tgt := 89) hx hb dX12_readLine_82 rfl (fun c174 => ?_) (fun c174 => ?_)
                · have tc174 := (show z173.toInt ≠ 12 from ti_ne rfl rg_58 c174)
                  have N175 : When σ ((z84.toInt ≠ 0 → (σ.2.1 11 (σ.1 30).toNatClampNeg).toInt ≤ 1) ∧ (z84.toInt = 0 → z87.toInt ≠ 0 → (σ.2.1 13 (σ.1 30).toNatClampNeg).toInt ≤ 3) ∧ (z84.toInt = 0 → z87.toInt = 0 → 0 ≤ z90.toInt ∧ (σ.2.1 12 (σ.1 30).toNatClampNeg).toInt ≤ 11)) := fun _ => by omega
                  have o107 : -1 ≤ z90.toInt := by omega
                  have o108 : z90.toInt ≤ 7 := by omega
                  exact pt_89 σ z84 z87 z90 _ _ _ hI eqx.rf Mo.rf (Lx.rf hes) eqx.rf (show -1 ≤ z90.toInt ∧ z90.toInt ≤ 7 from ⟨o107, o108⟩) N175 hP hD hS (lv_sub hl [3, 2, 1, 0] rfl)
                · have tc174 := (show z173.toInt = 12 from ti_eq rfl rg_58 c174)
                  have o109 : -1 ≤ z90.toInt := by omega
                  have o110 : z90.toInt ≤ 7 := by omega
                  exact pt_85 σ z84 z87 z90 _ _ _ hI eqx.rf Mo.rf (Lx.rf hes) eqx.rf (show -1 ≤ z90.toInt ∧ z90.toInt ≤ 7 from ⟨o109, o110⟩) hP hD hS (lv_sub hl [3, 2, 1, 0] rfl)
            · have tc170 := (show z87.toInt ≠ 0 from ti_ne rfl rg_11 c170)
              refine lv_aload_n hx hb dX12_readLine_54 rfl (lv_at hl 3 rfl) ?_
              refine va_get (D := (dC, dI)) (ci := 12) (v := .ref (ad 13)) (C := RX12) (T := TX12) (N := 59) hx hb hts hin12 hown hK hP 0 rfl rfl 13 (Nat.le_of_ble_eq_true rfl) (ho (.fieldLink RX12 27 "NearEnoughModel" "endMany" "[I") (List.mem_of_getElem? (i := 4) rfl)) (fun _ h9 => h9) rfl dX12_readLine_55 ?_
              refine lv_aload_n hx hb dX12_readLine_58 rfl (lv_at hl 3 rfl) ?_
              refine va_get (D := (dC, dI)) (ci := 12) (v := .int (σ.1 30)) (C := RX12) (T := TX12) (N := 59) hx hb hts hin12 hown hK hP 0 rfl rfl 30 (Nat.le_of_ble_eq_true rfl) (ho (.fieldLink RX12 243 "NearEnoughModel" "rb" "I") (List.mem_of_getElem? (i := 3) rfl)) (fun _ h9 => h9) rfl dX12_readLine_59 ?_
              have bσ_30 : 0 ≤ (σ.1 30).toInt ∧ (σ.1 30).toInt ≤ 1 := hI.1 30
              refine va_iald hx hb hK hP 5 4 rfl rfl (ti_inx o101 o102) dX12_readLine_62 ?_
              refine lv_topi (fun z176 ez176 => ?_)
              have gz176 : z176.toInt = ((σ.2.1 13) (Int32.toNatClampNeg (σ.1 30))).toInt := congrArg Int32.toInt (ez176.trans (congrFun rfl (Int32.toNatClampNeg (σ.1 30))))
              have bz176 : 0 ≤ z176.toInt ∧ z176.toInt ≤ 4 := by rw [ez176]; exact (hI.2 13) _ (cl_lt (n := 2) o101 o102)
              refine lv_iconst (v := 4) hx hb dX12_readLine_63 rg_31 ?_
              refine lv_icmp_eq (tgt := 85) hx hb dX12_readLine_64 rfl (fun c177 => ?_) (fun c177 => ?_)
              · have tc177 := (show z176.toInt = 4 from ti_eq rfl rg_32 c177)
                have o111 : -1 ≤ z90.toInt := by omega
                have o112 : z90.toInt ≤ 7 := by omega
                exact pt_85 σ z84 z87 z90 _ _ _ hI eqx.rf Mo.rf (Lx.rf hes) eqx.rf (show -1 ≤ z90.toInt ∧ z90.toInt ≤ 7 from ⟨o111, o112⟩) hP hD hS (lv_sub hl [3, 2, 1, 0] rfl)
              · have tc177 := (show z176.toInt ≠ 4 from ti_ne rfl rg_32 c177)
                refine lv_iload_n hx hb dX12_readLine_67 rfl (lv_at hl 0 rfl) ?_
                refine lv_if_lt (tgt := 89) hx hb dX12_readLine_68 rfl (fun c178 => ?_) (fun c178 => ?_)
                · have tc178 := (show z90.toInt < 0 from ti_lt rfl rg_11 c178)
                  have N179 : When σ ((z84.toInt ≠ 0 → (σ.2.1 11 (σ.1 30).toNatClampNeg).toInt ≤ 1) ∧ (z84.toInt = 0 → z87.toInt ≠ 0 → (σ.2.1 13 (σ.1 30).toNatClampNeg).toInt ≤ 3) ∧ (z84.toInt = 0 → z87.toInt = 0 → 0 ≤ z90.toInt ∧ (σ.2.1 12 (σ.1 30).toNatClampNeg).toInt ≤ 11)) := fun _ => by omega
                  have o113 : -1 ≤ z90.toInt := by omega
                  have o114 : z90.toInt ≤ 7 := by omega
                  exact pt_89 σ z84 z87 z90 _ _ _ hI eqx.rf Mo.rf (Lx.rf hes) eqx.rf (show -1 ≤ z90.toInt ∧ z90.toInt ≤ 7 from ⟨o113, o114⟩) N179 hP hD hS (lv_sub hl [3, 2, 1, 0] rfl)
                · have tc178 := (show 0 ≤ z90.toInt from ti_nlt rfl rg_11 c178)
                  refine lv_aload_n hx hb dX12_readLine_71 rfl (lv_at hl 3 rfl) ?_
                  refine va_get (D := (dC, dI)) (ci := 12) (v := .ref (ad 12)) (C := RX12) (T := TX12) (N := 59) hx hb hts hin12 hown hK hP 0 rfl rfl 12 (Nat.le_of_ble_eq_true rfl) (ho (.fieldLink RX12 24 "NearEnoughModel" "stepMany" "[I") (List.mem_of_getElem? (i := 2) rfl)) (fun _ h9 => h9) rfl dX12_readLine_72 ?_
                  refine lv_aload_n hx hb dX12_readLine_75 rfl (lv_at hl 3 rfl) ?_
                  refine va_get (D := (dC, dI)) (ci := 12) (v := .int (σ.1 30)) (C := RX12) (T := TX12) (N := 59) hx hb hts hin12 hown hK hP 0 rfl rfl 30 (Nat.le_of_ble_eq_true rfl) (ho (.fieldLink RX12 243 "NearEnoughModel" "rb" "I") (List.mem_of_getElem? (i := 3) rfl)) (fun _ h9 => h9) rfl dX12_readLine_76 ?_
                  have bσ_30 : 0 ≤ (σ.1 30).toInt ∧ (σ.1 30).toInt ≤ 1 := hI.1 30
                  refine va_iald hx hb hK hP 4 3 rfl rfl (ti_inx o101 o102) dX12_readLine_79 ?_
                  refine lv_topi (fun z180 ez180 => ?_)
                  have gz180 : z180.toInt = ((σ.2.1 12) (Int32.toNatClampNeg (σ.1 30))).toInt := congrArg Int32.toInt (ez180.trans (congrFun rfl (Int32.toNatClampNeg (σ.1 30))))
                  have bz180 : 0 ≤ z180.toInt ∧ z180.toInt ≤ 12 := by rw [ez180]; exact (hI.2 12) _ (cl_lt (n := 2) o101 o102)
                  refine lv_bipush (v := 12) hx hb dX12_readLine_80 rg_57 ?_
                  refine lv_icmp_ne (tgt := 89) hx hb dX12_readLine_82 rfl (fun c181 => ?_) (fun c181 => ?_)
                  · have tc181 := (show z180.toInt ≠ 12 from ti_ne rfl rg_58 c181)
                    have N182 : When σ ((z84.toInt ≠ 0 → (σ.2.1 11 (σ.1 30).toNatClampNeg).toInt ≤ 1) ∧ (z84.toInt = 0 → z87.toInt ≠ 0 → (σ.2.1 13 (σ.1 30).toNatClampNeg).toInt ≤ 3) ∧ (z84.toInt = 0 → z87.toInt = 0 → 0 ≤ z90.toInt ∧ (σ.2.1 12 (σ.1 30).toNatClampNeg).toInt ≤ 11)) := fun _ => by omega
                    have o115 : -1 ≤ z90.toInt := by omega
                    have o116 : z90.toInt ≤ 7 := by omega
                    exact pt_89 σ z84 z87 z90 _ _ _ hI eqx.rf Mo.rf (Lx.rf hes) eqx.rf (show -1 ≤ z90.toInt ∧ z90.toInt ≤ 7 from ⟨o115, o116⟩) N182 hP hD hS (lv_sub hl [3, 2, 1, 0] rfl)
                  · have tc181 := (show z180.toInt = 12 from ti_eq rfl rg_58 c181)
                    have o117 : -1 ≤ z90.toInt := by omega
                    have o118 : z90.toInt ≤ 7 := by omega
                    exact pt_85 σ z84 z87 z90 _ _ _ hI eqx.rf Mo.rf (Lx.rf hes) eqx.rf (show -1 ≤ z90.toInt ∧ z90.toInt ≤ 7 from ⟨o117, o118⟩) hP hD hS (lv_sub hl [3, 2, 1, 0] rfl)
