
theorem rg_560 : 27 ∉ [4, 5] := by decide
theorem rg_561 : 28 ∉ [4, 5] := by decide
theorem rg_562 : 0 < (7 : Int32).toInt := by decide
def ow_n_readStepV : List Cond := [.fieldLink RX12 67 "NearEnoughModel" "sName" "[J", .fieldLink RX12 24 "NearEnoughModel" "stepMany" "[I", .fieldLink RX12 243 "NearEnoughModel" "rb" "I", .fieldLink RX12 70 "NearEnoughModel" "sLeast" "[J", .constantLong RX12 310 (-1000000000), .fieldLink RX12 73 "NearEnoughModel" "sMost" "[J", .constantLong RX12 312 (1000000000), .constantLong RX12 175 (26982), .fieldLink RX12 48 "NearEnoughModel" "sC" "[I", .constantLong RX12 177 (504363246962), .fieldLink RX12 51 "NearEnoughModel" "sD" "[I", .constantLong RX12 165 (25209), .fieldLink RX12 45 "NearEnoughModel" "sB" "[I", .constantLong RX12 167 (1870030194), .constantLong RX12 171 (482854658917), .fieldLink RX12 42 "NearEnoughModel" "sA" "[I", .fieldLink RX12 39 "NearEnoughModel" "sKind" "[I", .constantLong RX12 153 (28518), .fieldLink RX12 192 "NearEnoughModel" "at" "I", .fieldLink RX12 206 "NearEnoughModel" "name" "J", .fieldLink RX12 199 "NearEnoughModel" "token" "I"]
def vs_n_readStepV : List Cond := .code yX12_readStep cX12_readStep 6 none :: (ow_n_readStepV ++ (([.methodLink RX12 224 yX12_isGood, .instanceMethod yX12_isGood, .selects RX12 yX12_isGood yX12_isGood, .initialized RX12] : List Cond) ++ (vs_n_isGood ++ (([.methodLink RX12 307 yX12_laySpan, .instanceMethod yX12_laySpan, .selects RX12 yX12_laySpan yX12_laySpan, .initialized RX12] : List Cond) ++ (vs_n_laySpanV ++ (([.methodLink RX12 220 yX12_fails, .instanceMethod yX12_fails, .selects RX12 yX12_fails yX12_fails, .initialized RX12] : List Cond) ++ (vs_n_fails ++ (([.methodLink RX12 261 yX12_isWord, .instanceMethod yX12_isWord, .selects RX12 yX12_isWord yX12_isWord, .initialized RX12] : List Cond) ++ (vs_n_isWord ++ (([.methodLink RX12 278 yX12_must, .instanceMethod yX12_must, .selects RX12 yX12_must yX12_must, .initialized RX12] : List Cond) ++ (vs_n_must ++ (([.methodLink RX12 304 yX12_aStep, .instanceMethod yX12_aStep, .selects RX12 yX12_aStep yX12_aStep, .initialized RX12] : List Cond) ++ (vs_n_aStep ++ (([.methodLink RX12 295 yX12_signed, .instanceMethod yX12_signed, .selects RX12 yX12_signed yX12_signed, .initialized RX12] : List Cond) ++ (vs_n_signed ++ (([.methodLink RX12 291 yX12_numeral, .instanceMethod yX12_numeral, .selects RX12 yX12_numeral yX12_numeral, .initialized RX12] : List Cond) ++ (vs_n_numeral ++ (([.methodLink RX12 301 yX12_aRow, .instanceMethod yX12_aRow, .selects RX12 yX12_aRow yX12_aRow, .initialized RX12] : List Cond) ++ (vs_n_aRow ++ (([.methodLink RX12 288 yX12_fresh, .instanceMethod yX12_fresh, .selects RX12 yX12_fresh yX12_fresh, .initialized RX12] : List Cond) ++ (vs_n_fresh ++ (wsX120))))))))))))))))))))))
theorem vg_n_readStepV : vs_n_readStepV.all goodWord = true := by decide +kernel
theorem dd_n_readStepV : yX12_readStep.cls = RX12 ∧ yX12_readStep.cls ≠ "java/lang/invoke/MethodHandle" ∧ yX12_readStep.cls ≠ "java/lang/invoke/VarHandle" ∧ (parseMethodDescriptor yX12_readStep.desc).map (fun d => d.parameters.length) = some 1 := by decide +kernel
def rm_n_readStepV : Room := { frames := 4, cells := 0, slots := 0, locals := 84 }
theorem gd_n_readStepV_224_n_isGood : GoodIn vs_n_readStepV (wsV RX12 224 RX12 yX12_isGood vs_n_isGood) := goodIn_app (goodIn_sub (fun w h => (List.mem_cons_of_mem _ (List.mem_append_right _ (List.mem_append_left _ h)))) (by decide +kernel)) (goodIn_sub (fun w h => (List.mem_cons_of_mem _ (List.mem_append_right _ (List.mem_append_right _ (List.mem_append_left _ h))))) vg_n_isGood)
theorem gd_n_readStepV_307_n_laySpanV : GoodIn vs_n_readStepV (wsV RX12 307 RX12 yX12_laySpan vs_n_laySpanV) := goodIn_app (goodIn_sub (fun w h => (List.mem_cons_of_mem _ (List.mem_append_right _ (List.mem_append_right _ (List.mem_append_right _ (List.mem_append_left _ h)))))) (by decide +kernel)) (goodIn_sub (fun w h => (List.mem_cons_of_mem _ (List.mem_append_right _ (List.mem_append_right _ (List.mem_append_right _ (List.mem_append_right _ (List.mem_append_left _ h))))))) vg_n_laySpanV)
theorem gd_n_readStepV_220_n_fails : GoodIn vs_n_readStepV (wsV RX12 220 RX12 yX12_fails vs_n_fails) := goodIn_app (goodIn_sub (fun w h => (List.mem_cons_of_mem _ (List.mem_append_right _ (List.mem_append_right _ (List.mem_append_right _ (List.mem_append_right _ (List.mem_append_right _ (List.mem_append_left _ h)))))))) (by decide +kernel)) (goodIn_sub (fun w h => (List.mem_cons_of_mem _ (List.mem_append_right _ (List.mem_append_right _ (List.mem_append_right _ (List.mem_append_right _ (List.mem_append_right _ (List.mem_append_right _ (List.mem_append_left _ h))))))))) vg_n_fails)
theorem gd_n_readStepV_261_n_isWord : GoodIn vs_n_readStepV (wsV RX12 261 RX12 yX12_isWord vs_n_isWord) := goodIn_app (goodIn_sub (fun w h => (List.mem_cons_of_mem _ (List.mem_append_right _ (List.mem_append_right _ (List.mem_append_right _ (List.mem_append_right _ (List.mem_append_right _ (List.mem_append_right _ (List.mem_append_right _ (List.mem_append_left _ h)))))))))) (by decide +kernel)) (goodIn_sub (fun w h => (List.mem_cons_of_mem _ (List.mem_append_right _ (List.mem_append_right _ (List.mem_append_right _ (List.mem_append_right _ (List.mem_append_right _ (List.mem_append_right _ (List.mem_append_right _ (List.mem_append_right _ (List.mem_append_left _ h))))))))))) vg_n_isWord)
theorem gd_n_readStepV_278_n_must : GoodIn vs_n_readStepV (wsV RX12 278 RX12 yX12_must vs_n_must) := goodIn_app (goodIn_sub (fun w h => (List.mem_cons_of_mem _ (List.mem_append_right _ (List.mem_append_right _ (List.mem_append_right _ (List.mem_append_right _ (List.mem_append_right _ (List.mem_append_right _ (List.mem_append_right _ (List.mem_append_right _ (List.mem_append_right _ (List.mem_append_left _ h)))))))))))) (by decide +kernel)) (goodIn_sub (fun w h => (List.mem_cons_of_mem _ (List.mem_append_right _ (List.mem_append_right _ (List.mem_append_right _ (List.mem_append_right _ (List.mem_append_right _ (List.mem_append_right _ (List.mem_append_right _ (List.mem_append_right _ (List.mem_append_right _ (List.mem_append_right _ (List.mem_append_left _ h))))))))))))) vg_n_must)
theorem gd_n_readStepV_304_n_aStep : GoodIn vs_n_readStepV (wsV RX12 304 RX12 yX12_aStep vs_n_aStep) := goodIn_app (goodIn_sub (fun w h => (List.mem_cons_of_mem _ (List.mem_append_right _ (List.mem_append_right _ (List.mem_append_right _ (List.mem_append_right _ (List.mem_append_right _ (List.mem_append_right _ (List.mem_append_right _ (List.mem_append_right _ (List.mem_append_right _ (List.mem_append_right _ (List.mem_append_right _ (List.mem_append_left _ h)))))))))))))) (by decide +kernel)) (goodIn_sub (fun w h => (List.mem_cons_of_mem _ (List.mem_append_right _ (List.mem_append_right _ (List.mem_append_right _ (List.mem_append_right _ (List.mem_append_right _ (List.mem_append_right _ (List.mem_append_right _ (List.mem_append_right _ (List.mem_append_right _ (List.mem_append_right _ (List.mem_append_right _ (List.mem_append_right _ (List.mem_append_left _ h))))))))))))))) vg_n_aStep)
theorem gd_n_readStepV_295_n_signed : GoodIn vs_n_readStepV (wsV RX12 295 RX12 yX12_signed vs_n_signed) := goodIn_app (goodIn_sub (fun w h => (List.mem_cons_of_mem _ (List.mem_append_right _ (List.mem_append_right _ (List.mem_append_right _ (List.mem_append_right _ (List.mem_append_right _ (List.mem_append_right _ (List.mem_append_right _ (List.mem_append_right _ (List.mem_append_right _ (List.mem_append_right _ (List.mem_append_right _ (List.mem_append_right _ (List.mem_append_right _ (List.mem_append_left _ h)))))))))))))))) (by decide +kernel)) (goodIn_sub (fun w h => (List.mem_cons_of_mem _ (List.mem_append_right _ (List.mem_append_right _ (List.mem_append_right _ (List.mem_append_right _ (List.mem_append_right _ (List.mem_append_right _ (List.mem_append_right _ (List.mem_append_right _ (List.mem_append_right _ (List.mem_append_right _ (List.mem_append_right _ (List.mem_append_right _ (List.mem_append_right _ (List.mem_append_right _ (List.mem_append_left _ h))))))))))))))))) vg_n_signed)
theorem gd_n_readStepV_291_n_numeral : GoodIn vs_n_readStepV (wsV RX12 291 RX12 yX12_numeral vs_n_numeral) := goodIn_app (goodIn_sub (fun w h => (List.mem_cons_of_mem _ (List.mem_append_right _ (List.mem_append_right _ (List.mem_append_right _ (List.mem_append_right _ (List.mem_append_right _ (List.mem_append_right _ (List.mem_append_right _ (List.mem_append_right _ (List.mem_append_right _ (List.mem_append_right _ (List.mem_append_right _ (List.mem_append_right _ (List.mem_append_right _ (List.mem_append_right _ (List.mem_append_right _ (List.mem_append_left _ h)))))))))))))))))) (by decide +kernel)) (goodIn_sub (fun w h => (List.mem_cons_of_mem _ (List.mem_append_right _ (List.mem_append_right _ (List.mem_append_right _ (List.mem_append_right _ (List.mem_append_right _ (List.mem_append_right _ (List.mem_append_right _ (List.mem_append_right _ (List.mem_append_right _ (List.mem_append_right _ (List.mem_append_right _ (List.mem_append_right _ (List.mem_append_right _ (List.mem_append_right _ (List.mem_append_right _ (List.mem_append_right _ (List.mem_append_left _ h))))))))))))))))))) vg_n_numeral)
theorem gd_n_readStepV_301_n_aRow : GoodIn vs_n_readStepV (wsV RX12 301 RX12 yX12_aRow vs_n_aRow) := goodIn_app (goodIn_sub (fun w h => (List.mem_cons_of_mem _ (List.mem_append_right _ (List.mem_append_right _ (List.mem_append_right _ (List.mem_append_right _ (List.mem_append_right _ (List.mem_append_right _ (List.mem_append_right _ (List.mem_append_right _ (List.mem_append_right _ (List.mem_append_right _ (List.mem_append_right _ (List.mem_append_right _ (List.mem_append_right _ (List.mem_append_right _ (List.mem_append_right _ (List.mem_append_right _ (List.mem_append_right _ (List.mem_append_left _ h)))))))))))))))))))) (by decide +kernel)) (goodIn_sub (fun w h => (List.mem_cons_of_mem _ (List.mem_append_right _ (List.mem_append_right _ (List.mem_append_right _ (List.mem_append_right _ (List.mem_append_right _ (List.mem_append_right _ (List.mem_append_right _ (List.mem_append_right _ (List.mem_append_right _ (List.mem_append_right _ (List.mem_append_right _ (List.mem_append_right _ (List.mem_append_right _ (List.mem_append_right _ (List.mem_append_right _ (List.mem_append_right _ (List.mem_append_right _ (List.mem_append_right _ (List.mem_append_left _ h))))))))))))))))))))) vg_n_aRow)
theorem gd_n_readStepV_288_n_fresh : GoodIn vs_n_readStepV (wsV RX12 288 RX12 yX12_fresh vs_n_fresh) := goodIn_app (goodIn_sub (fun w h => (List.mem_cons_of_mem _ (List.mem_append_right _ (List.mem_append_right _ (List.mem_append_right _ (List.mem_append_right _ (List.mem_append_right _ (List.mem_append_right _ (List.mem_append_right _ (List.mem_append_right _ (List.mem_append_right _ (List.mem_append_right _ (List.mem_append_right _ (List.mem_append_right _ (List.mem_append_right _ (List.mem_append_right _ (List.mem_append_right _ (List.mem_append_right _ (List.mem_append_right _ (List.mem_append_right _ (List.mem_append_right _ (List.mem_append_left _ h)))))))))))))))))))))) (by decide +kernel)) (goodIn_sub (fun w h => (List.mem_cons_of_mem _ (List.mem_append_right _ (List.mem_append_right _ (List.mem_append_right _ (List.mem_append_right _ (List.mem_append_right _ (List.mem_append_right _ (List.mem_append_right _ (List.mem_append_right _ (List.mem_append_right _ (List.mem_append_right _ (List.mem_append_right _ (List.mem_append_right _ (List.mem_append_right _ (List.mem_append_right _ (List.mem_append_right _ (List.mem_append_right _ (List.mem_append_right _ (List.mem_append_right _ (List.mem_append_right _ (List.mem_append_right _ (List.mem_append_left _ h))))))))))))))))))))))) vg_n_fresh)
set_option maxHeartbeats 4000000 in
set_option maxRecDepth 100000 in
theorem n_readStepV (l : Launch) (dC : Nat → ClassId) (dI : Nat → Nat → Nat) (h : Nat) (ad : Nat → Nat) (cl : Nat → ClassId) (sz : Nat) (σ : MS) (k : Int32) (hI : Inv σ) (hk : 0 ≤ k.toInt ∧ k.toInt ≤ 7) (hsm : (σ.2.1 12 (σ.1 30).toNatClampNeg).toInt ≤ 11) (hes : Es σ) : Met l yX12_readStep vs_n_readStepV rm_n_readStepV (va_Pc [.ref h, .int k] (wSt dC dI (mW h ad cl σ) (mT cl) sz)) (va_Qv (fun (τ : MS) => Inv τ ∧ eqx [6, 7, 8, 9, 10, 4, 5, 17, 18, 19, 20, 21, 27, 28, 26, 12] τ σ ∧ ((τ.1 4).toInt = 0 → RelP σ (σ.1 30).toNatClampNeg → RelP τ (σ.1 30).toNatClampNeg) ∧ (∀ bk, bk < 2 → bk ≠ (σ.1 30).toNatClampNeg → SameB τ σ bk) ∧ ((τ.1 4).toInt = 0 → RelP σ (σ.1 30).toNatClampNeg → RelJ σ (σ.1 30).toNatClampNeg → RelJ τ (σ.1 30).toNatClampNeg) ∧ (∀ bk, bk < 2 → bk ≠ (σ.1 30).toNatClampNeg → SameJ τ σ bk) ∧ Mo τ σ ∧ Lx τ σ) (fun (τ : MS) => wEn dC dI (va_A (mW h ad cl σ) sz) (mW h ad cl τ) []) (va_A (mW h ad cl σ) sz)) 0 0 (va_A (mW h ad cl σ) sz) := by
  refine Met.ofW (cc := cX12_readStep) (maxL := 6) (ret := none) (by decide) rfl ?_
  intro p e s m args below meth c s₁ B hml hv
  obtain ⟨rfl, hsz, hP, hK, hD0, hE⟩ := hv
  have hx := B.exec
  have hb := B.bytes
  have hr := B.returns
  have hts := atoms_spec (ws := vs_n_readStepV) B.pre
  have hown : s.vm.findClass RX12 = some m.cls := findClass_of_methodNamed B.named
  have hlocks := B.notSynchronized
  subst hsz
  have hD := hD0.self (sz := s.heap.size)
  generalize hAe : va_A (mW h ad cl σ) s.heap.size = A at hD ⊢
  have hA : ∀ q : Nat, s.heap.size ≤ q → A q := fun q h => by rw [← hAe]; exact Or.inr h
  have hl := lv_entry ([.ref h, .int k]) (n := 6) (Nat.le_of_ble_eq_true rfl)
  rw [lg_entry_eq]
  generalize (lg_sl ([.ref h, .int k]) ++ List.replicate (6 - (lg_sl ([.ref h, .int k])).length) Slot.unset).toArray = ls at hl ⊢
  have hl : lv_has ls 6 [(0, .ref h), (1, .int k)] := hl
  have ho := fun w (h : w ∈ ow_n_readStepV) => hts w (List.mem_cons_of_mem _ (List.mem_append_left _ h))
  have hin12 : ∀ w ∈ u_ws RX12 TX12 59, w ∈ vs_n_readStepV := fun w h => (List.mem_cons_of_mem _ (List.mem_append_right _ (List.mem_append_right _ (List.mem_append_right _ (List.mem_append_right _ (List.mem_append_right _ (List.mem_append_right _ (List.mem_append_right _ (List.mem_append_right _ (List.mem_append_right _ (List.mem_append_right _ (List.mem_append_right _ (List.mem_append_right _ (List.mem_append_right _ (List.mem_append_right _ (List.mem_append_right _ (List.mem_append_right _ (List.mem_append_right _ (List.mem_append_right _ (List.mem_append_right _ (List.mem_append_right _ (List.mem_append_right _ h))))))))))))))))))))))
  refine zQ (fun Q hQ => ?_)
  have bn12 : 0 ≤ (σ.2.1 12 (σ.1 30).toNatClampNeg).toInt ∧ (σ.2.1 12 (σ.1 30).toNatClampNeg).toInt ≤ 12 := hI.2 12 _ (cl_lt (n := 2) (hI.1 30).1 (Int.lt_of_le_of_lt (hI.1 30).2 (by decide)))
  have bn11 : 0 ≤ (σ.2.1 11 (σ.1 30).toNatClampNeg).toInt ∧ (σ.2.1 11 (σ.1 30).toNatClampNeg).toInt ≤ 2 := hI.2 11 _ (cl_lt (n := 2) (hI.1 30).1 (Int.lt_of_le_of_lt (hI.1 30).2 (by decide)))
  have brb : 0 ≤ (σ.1 30).toInt ∧ (σ.1 30).toInt ≤ 1 := hI.1 30
  have pt_286 : ∀ (τ : MS) (sx : Int32) (pl : Int32) (ow : Int64) (va : Int32) (vb : Int32) (vc : Int32) (vd : Int32) (v27 : Int64) (v28 : Int64) (H : Heap) (locs : List Loc) (ls : Array Slot), (Inv τ) → (eqx [6, 7, 8, 9, 10, 4, 5, 17, 18, 19, 20, 21, 27, 28, 26, 12] τ σ) → (Mo τ σ) → (Lx τ σ) → (sx.toInt = 12 * (σ.1 30).toInt + (σ.2.1 12 (σ.1 30).toNatClampNeg).toInt) → (∀ p9, 11 ≤ p9 → p9 ≤ 22 → ¬ (17 ≤ p9 ∧ p9 ≤ 16 + 5) → τ.2.1 p9 = σ.2.1 p9) → (τ.2.1 17 = upd (σ.2.1 17) (Int32.toNatClampNeg sx) k) → (τ.2.1 18 = upd (σ.2.1 18) (Int32.toNatClampNeg sx) va) → (τ.2.1 19 = upd (σ.2.1 19) (Int32.toNatClampNeg sx) vb) → (τ.2.1 20 = upd (σ.2.1 20) (Int32.toNatClampNeg sx) vc) → (τ.2.1 21 = upd (σ.2.1 21) (Int32.toNatClampNeg sx) vd) → (When τ (StOk k.toInt va.toInt vb.toInt vc.toInt vd.toInt (σ.2.1 11 (σ.1 30).toNatClampNeg).toInt (σ.2.1 12 (σ.1 30).toNatClampNeg).toInt)) → (τ.2.2.1 27 = vp_updL (σ.2.2.1 27) (Int32.toNatClampNeg sx) v27) → (τ.2.2.1 28 = vp_updL (σ.2.2.1 28) (Int32.toNatClampNeg sx) v28) → (∃ τa : MS, (∀ p9, 11 ≤ p9 → p9 ≤ 21 → p9 ≠ 12 → τ.2.1 p9 = τa.2.1 p9) ∧ (∀ p9, p9 = 27 ∨ p9 = 28 → τa.2.2.1 p9 = σ.2.2.1 p9) ∧ SpnV (σ.1 30).toNatClampNeg (Int32.toNatClampNeg sx) τa.2.1 τa.2.2.1 v27 v28) → (When τ (-1000000000 ≤ v27.toInt ∧ v28.toInt ≤ 1000000000)) → va_P (dC, dI) vwCl (mW h ad cl τ) H → va_D A (mW h ad cl τ) → va_S A s.heap H locs → lv_has ls 6 [(0, .ref h), (1, .int k), (2, .int sx), (3, .int pl), (4, .long ow)] → W p l e (headSpec vs_n_readStepV rm_n_readStepV).room s m #[Value.ref h, Value.int k] below meth c H locs 0 0 Q (F0 m 286 ls []) := by
    intro τ sx pl ow va vb vc vd v27 v28 H locs ls hIτ hxτ hmτ hgτ hR hT h17 h18 h19 h20 h21 hw0 hJ27 hJ28 hSP hB hP hD hS hl
    refine lv_aload_n hx hb dX12_readStep_286 rfl (lv_at hl 0 rfl) ?_
    refine va_get (D := (dC, dI)) (ci := 12) (v := .ref (ad 26)) (C := RX12) (T := TX12) (N := 59) hx hb hts hin12 hown hK hP 0 rfl rfl 26 (Nat.le_of_ble_eq_true rfl) (ho (.fieldLink RX12 67 "NearEnoughModel" "sName" "[J") (List.mem_of_getElem? (i := 0) rfl)) (fun _ h9 => h9) rfl dX12_readStep_287 ?_
    refine lv_iload_n hx hb dX12_readStep_290 rfl (lv_at hl 2 rfl) ?_
    refine lv_lload hx hb dX12_readStep_291 (lv_at hl 4 rfl) ?_
    have o1 : 0 ≤ sx.toInt := by omega
    have o2 : sx.toInt < ((24 : Nat) : Int) := by omega
    refine va_last hx hb hK hP hD hS 18 17 rfl rfl (ti_inx o1 o2) dX12_readStep_293 (fun H locs hP hD hS => ?_)
    rw [wS26] at hP hD
    obtain ⟨τ1, eτ1⟩ : ∃ x9 : MS, x9 = sJ τ 26 (vp_updL (τ.2.2.1 26) (Int32.toNatClampNeg sx) ow) := ⟨_, rfl⟩
    have hP : va_P (dC, dI) vwCl (mW h ad cl τ1) H := by rw [eτ1]; exact hP
    have hD : va_D A (mW h ad cl τ1) := by rw [eτ1]; exact hD
    have hIτ1 : Inv τ1 := by rw [eτ1]; exact (Inv.sJ hIτ)
    have Xτ1 : eqx [6, 7, 8, 9, 10, 4, 5, 17, 18, 19, 20, 21, 27, 28, 26, 12] τ1 σ := (eqx.eq eτ1 (eqx.sJ hxτ rg_171))
    have Mτ1 : Mo τ1 σ := Mo.eq eτ1 (fun h9 => hmτ h9)
    have Lτ1 : Lx τ1 σ := Lx.eq eτ1 hgτ
    have W2 : When τ1 (StOk k.toInt va.toInt vb.toInt vc.toInt vd.toInt (σ.2.1 11 (σ.1 30).toNatClampNeg).toInt (σ.2.1 12 (σ.1 30).toNatClampNeg).toInt) := When.mo hw0 (Mo.eq eτ1 (fun h9 => h9))
    have W3 : When τ1 (-1000000000 ≤ v27.toInt ∧ v28.toInt ≤ 1000000000) := When.mo hB (Mo.eq eτ1 (fun h9 => h9))
    refine lv_aload_n hx hb dX12_readStep_294 rfl (lv_at hl 0 rfl) ?_
    refine va_get (D := (dC, dI)) (ci := 12) (v := .ref (ad 12)) (C := RX12) (T := TX12) (N := 59) hx hb hts hin12 hown hK hP 0 rfl rfl 12 (Nat.le_of_ble_eq_true rfl) (ho (.fieldLink RX12 24 "NearEnoughModel" "stepMany" "[I") (List.mem_of_getElem? (i := 1) rfl)) (fun _ h9 => h9) rfl dX12_readStep_295 ?_
    refine lv_aload_n hx hb dX12_readStep_298 rfl (lv_at hl 0 rfl) ?_
    refine va_get (D := (dC, dI)) (ci := 12) (v := .int (τ1.1 30)) (C := RX12) (T := TX12) (N := 59) hx hb hts hin12 hown hK hP 0 rfl rfl 30 (Nat.le_of_ble_eq_true rfl) (ho (.fieldLink RX12 243 "NearEnoughModel" "rb" "I") (List.mem_of_getElem? (i := 2) rfl)) (fun _ h9 => h9) rfl dX12_readStep_299 ?_
    refine zi (v := (σ.1 30)) (show τ1.1 30 = (σ.1 30) from (congrArg (fun x9 : MS => x9.1 30) eτ1).trans ((hxτ 30 rg_172).1)) ?_
    have bb4 : 0 ≤ (σ.1 30).toInt ∧ (σ.1 30).toInt ≤ 1 := by have h9 := hIτ1.1 30; rw [show (τ1.1 30) = (σ.1 30) from (show τ1.1 30 = (σ.1 30) from (congrArg (fun x9 : MS => x9.1 30) eτ1).trans ((hxτ 30 rg_172).1))] at h9; exact h9
    refine lv_dup2_11 hx hb dX12_readStep_302 rfl rfl ?_
    have o3 : 0 ≤ (σ.1 30).toInt := by omega
    have o4 : (σ.1 30).toInt < ((2 : Nat) : Int) := by omega
    refine va_iald hx hb hK hP 4 3 rfl rfl (ti_inx o3 o4) dX12_readStep_303 ?_
    refine lv_topi (fun z5 ez5 => ?_)
    have gz5 : z5.toInt = ((σ.2.1 12) (Int32.toNatClampNeg (σ.1 30))).toInt := congrArg Int32.toInt (ez5.trans (congrFun ((congrArg (fun x9 : MS => x9.2.1 12) eτ1).trans (tJ.trans (hT 12 rg_173 rg_174 rg_175))) (Int32.toNatClampNeg (σ.1 30))))
    have bz5 : 0 ≤ z5.toInt ∧ z5.toInt ≤ 12 := by rw [ez5]; exact (hIτ1.2 12) _ (cl_lt (n := 2) o3 o4)
    refine lv_iconst (v := 1) hx hb dX12_readStep_304 rg_6 ?_
    refine lv_iadd hx hb dX12_readStep_305 ?_
    refine lv_topi (fun z6 ez6 => ?_)
    have o5 : -2147483648 ≤ z5.toInt + 1 := by omega
    have o6 : z5.toInt + 1 ≤ 2147483647 := by omega
    have tz6 : z6.toInt = z5.toInt + 1 := ti_add ez6 rfl rg_18 o5 o6
    refine va_iast hx hb hK hP hD hS 4 3 rfl rfl (ti_inx o3 o4) dX12_readStep_306 (fun H locs hP hD hS => ?_)
    rw [wS12] at hP hD
    obtain ⟨τ7, eτ7⟩ : ∃ x9 : MS, x9 = sA τ1 12 (upd (τ1.2.1 12) (Int32.toNatClampNeg (σ.1 30)) z6) := ⟨_, rfl⟩
    have hP : va_P (dC, dI) vwCl (mW h ad cl τ7) H := by rw [eτ7]; exact hP
    have hD : va_D A (mW h ad cl τ7) := by rw [eτ7]; exact hD
    have o7 : (0 : Int) ≤ (z6 : Int32).toInt := by omega
    have o8 : (z6 : Int32).toInt ≤ 12 := by omega
    have hIτ7 : Inv τ7 := by rw [eτ7]; exact (Inv_sA1 hIτ1 (rgu (hIτ1.2 12) (show (0 : Int) ≤ (z6 : Int32).toInt ∧ (z6 : Int32).toInt ≤ 12 from ⟨o7, o8⟩)))
    have Xτ7 : eqx [6, 7, 8, 9, 10, 4, 5, 17, 18, 19, 20, 21, 27, 28, 26, 12] τ7 σ := (eqx.eq eτ7 (eqx.sA Xτ1 rg_176))
    have Mτ7 : Mo τ7 σ := Mo.eq eτ7 (fun h9 => Mτ1 h9)
    have Lτ7 : Lx τ7 σ := Lx.eq eτ7 Lτ1
    have W8 : When τ7 (StOk k.toInt va.toInt vb.toInt vc.toInt vd.toInt (σ.2.1 11 (σ.1 30).toNatClampNeg).toInt (σ.2.1 12 (σ.1 30).toNatClampNeg).toInt) := When.mo W2 (Mo.eq eτ7 (fun h9 => h9))
    have W9 : When τ7 (-1000000000 ≤ v27.toInt ∧ v28.toInt ≤ 1000000000) := When.mo W3 (Mo.eq eτ7 (fun h9 => h9))
    rw [hQ]
    have qq10 : (τ7.1 4).toInt = ((τ.1 4) : Int32).toInt := congrArg Int32.toInt ((show τ7.1 4 = (τ.1 4) from (congrArg (fun x9 : MS => x9.1 4) eτ7).trans (show τ1.1 4 = (τ.1 4) from (congrArg (fun x9 : MS => x9.1 4) eτ1).trans rfl)))
    have C11 : (τ7).2.1 11 = (σ.2.1 11) := ((congrArg (fun x9 : MS => x9.2.1 11) eτ7).trans ((tA rg_180).trans ((congrArg (fun x9 : MS => x9.2.1 11) eτ1).trans (tJ.trans (hT 11 rg_177 rg_178 rg_179)))))
    have C12 : (τ7).2.1 12 = (upd (σ.2.1 12) (Int32.toNatClampNeg (σ.1 30)) z6) := ((congrArg (fun x9 : MS => x9.2.1 12) eτ7).trans (tAe.trans (congrArg (fun f9 => (upd f9 (Int32.toNatClampNeg (σ.1 30)) z6)) ((congrArg (fun x9 : MS => x9.2.1 12) eτ1).trans (tJ.trans (hT 12 rg_173 rg_174 rg_175))))))
    have C13 : (τ7).2.1 13 = (σ.2.1 13) := ((congrArg (fun x9 : MS => x9.2.1 13) eτ7).trans ((tA rg_184).trans ((congrArg (fun x9 : MS => x9.2.1 13) eτ1).trans (tJ.trans (hT 13 rg_181 rg_182 rg_183)))))
    have C14 : (τ7).2.1 14 = (σ.2.1 14) := ((congrArg (fun x9 : MS => x9.2.1 14) eτ7).trans ((tA rg_188).trans ((congrArg (fun x9 : MS => x9.2.1 14) eτ1).trans (tJ.trans (hT 14 rg_185 rg_186 rg_187)))))
    have C15 : (τ7).2.1 15 = (σ.2.1 15) := ((congrArg (fun x9 : MS => x9.2.1 15) eτ7).trans ((tA rg_192).trans ((congrArg (fun x9 : MS => x9.2.1 15) eτ1).trans (tJ.trans (hT 15 rg_189 rg_190 rg_191)))))
    have C16 : (τ7).2.1 16 = (σ.2.1 16) := ((congrArg (fun x9 : MS => x9.2.1 16) eτ7).trans ((tA rg_196).trans ((congrArg (fun x9 : MS => x9.2.1 16) eτ1).trans (tJ.trans (hT 16 rg_193 rg_194 rg_195)))))
    have C17 : (τ7).2.1 17 = (upd (σ.2.1 17) (Int32.toNatClampNeg sx) k) := ((congrArg (fun x9 : MS => x9.2.1 17) eτ7).trans ((tA rg_197).trans ((congrArg (fun x9 : MS => x9.2.1 17) eτ1).trans (tJ.trans h17))))
    have C18 : (τ7).2.1 18 = (upd (σ.2.1 18) (Int32.toNatClampNeg sx) va) := ((congrArg (fun x9 : MS => x9.2.1 18) eτ7).trans ((tA rg_198).trans ((congrArg (fun x9 : MS => x9.2.1 18) eτ1).trans (tJ.trans h18))))
    have C19 : (τ7).2.1 19 = (upd (σ.2.1 19) (Int32.toNatClampNeg sx) vb) := ((congrArg (fun x9 : MS => x9.2.1 19) eτ7).trans ((tA rg_199).trans ((congrArg (fun x9 : MS => x9.2.1 19) eτ1).trans (tJ.trans h19))))
    have C20 : (τ7).2.1 20 = (upd (σ.2.1 20) (Int32.toNatClampNeg sx) vc) := ((congrArg (fun x9 : MS => x9.2.1 20) eτ7).trans ((tA rg_200).trans ((congrArg (fun x9 : MS => x9.2.1 20) eτ1).trans (tJ.trans h20))))
    have C21 : (τ7).2.1 21 = (upd (σ.2.1 21) (Int32.toNatClampNeg sx) vd) := ((congrArg (fun x9 : MS => x9.2.1 21) eτ7).trans ((tA rg_201).trans ((congrArg (fun x9 : MS => x9.2.1 21) eτ1).trans (tJ.trans h21))))
    have C22 : (τ7).2.1 22 = (σ.2.1 22) := ((congrArg (fun x9 : MS => x9.2.1 22) eτ7).trans ((tA rg_204).trans ((congrArg (fun x9 : MS => x9.2.1 22) eτ1).trans (tJ.trans (hT 22 rg_178 rg_202 rg_203)))))
    have o9 : (σ.1 30).toInt ≤ 1 := by omega
    have o10 : 0 ≤ (σ.2.1 12 (σ.1 30).toNatClampNeg).toInt := by omega
    have o11 : (σ.2.1 12 (σ.1 30).toNatClampNeg).toInt ≤ 11 := by omega
    have o12 : sx.toInt = 12 * (σ.1 30).toInt + (σ.2.1 12 (σ.1 30).toNatClampNeg).toInt := by omega
    have o13 : z6.toInt = (σ.2.1 12 (σ.1 30).toNatClampNeg).toInt + 1 := by omega
    have RR := rel_step (n := (σ.2.1 12 (σ.1 30).toNatClampNeg)) hI ⟨o3, o9⟩ rfl o10 o11 o12 C11 C12 C13 (crL C14 C15 C16) (csL C17 C18 C19 C20 C21) C22 o13
    have K27_0 : τ.2.2.1 27 = vp_updL (σ.2.2.1 27) (Int32.toNatClampNeg sx) v27 := hJ27
    have K27_1 : τ1.2.2.1 27 = vp_updL (σ.2.2.1 27) (Int32.toNatClampNeg sx) v27 := by rw [eτ1]; exact K27_0
    have K27_2 : τ7.2.2.1 27 = vp_updL (σ.2.2.1 27) (Int32.toNatClampNeg sx) v27 := by rw [eτ7]; exact K27_1
    have K28_0 : τ.2.2.1 28 = vp_updL (σ.2.2.1 28) (Int32.toNatClampNeg sx) v28 := hJ28
    have K28_1 : τ1.2.2.1 28 = vp_updL (σ.2.2.1 28) (Int32.toNatClampNeg sx) v28 := by rw [eτ1]; exact K28_0
    have K28_2 : τ7.2.2.1 28 = vp_updL (σ.2.2.1 28) (Int32.toNatClampNeg sx) v28 := by rw [eτ7]; exact K28_1
    have EA : ∀ p9, 11 ≤ p9 → p9 ≤ 21 → p9 ≠ 12 → (τ7).2.1 p9 = τ.2.1 p9 := fun p9 h1 h2 h3 => by rcases (show p9 = 11 ∨ p9 = 13 ∨ p9 = 14 ∨ p9 = 15 ∨ p9 = 16 ∨ p9 = 17 ∨ p9 = 18 ∨ p9 = 19 ∨ p9 = 20 ∨ p9 = 21 by omega) with rfl | rfl | rfl | rfl | rfl | rfl | rfl | rfl | rfl | rfl <;> first | exact C11.trans (hT 11 rg_177 rg_178 rg_179).symm | exact C13.trans (hT 13 rg_181 rg_182 rg_183).symm | exact C14.trans (hT 14 rg_185 rg_186 rg_187).symm | exact C15.trans (hT 15 rg_189 rg_190 rg_191).symm | exact C16.trans (hT 16 rg_193 rg_194 rg_195).symm | exact C17.trans (h17).symm | exact C18.trans (h18).symm | exact C19.trans (h19).symm | exact C20.trans (h20).symm | exact C21.trans (h21).symm
    obtain ⟨τa, EAa, hJa, HSP⟩ := hSP
    exact W.vret hx hb hr (fun t ht hW => ⟨⟨τ7, rfl, ⟨hIτ7, Xτ7, (fun h9 hr9 => RR.1 hr9 ((W8 h9).cells C17 C18 C19 C20 C21)), RR.2, (fun h9 => relj_step (n := (σ.2.1 12 (σ.1 30).toNatClampNeg)) (τa := τa) hI ⟨o3, o9⟩ rfl o10 o12 C11 C12 o13 (crL C14 C15 C16) (csL C17 C18 C19 C20 C21) (fun p9 h1 h2 h3 => (EA p9 h1 h2 h3).trans (EAa p9 h1 h2 h3)) hJa K27_2 K28_2 HSP (W9 h9).1 (W9 h9).2 ((W8 h9).cells C17 C18 C19 C20 C21)), samej_step (n := (σ.2.1 12 (σ.1 30).toNatClampNeg)) ⟨o3, o9⟩ o10 o11 o12 K27_2 K28_2, Mτ7, Lτ7⟩, wEn_of hP (hK.sub [] rfl) hD ht hW⟩, hS.F ht⟩) hS.2.2 dX12_readStep_307
  have pt_240 : ∀ (τ : MS) (sx : Int32) (pl : Int32) (ow : Int64) (va : Int32) (vb : Int32) (vc : Int32) (vd : Int32) (H : Heap) (locs : List Loc) (ls : Array Slot), (Inv τ) → (eqx [6, 7, 8, 9, 10, 4, 5, 17, 18, 19, 20, 21, 27, 28, 26, 12] τ σ) → (Mo τ σ) → (Lx τ σ) → (sx.toInt = 12 * (σ.1 30).toInt + (σ.2.1 12 (σ.1 30).toNatClampNeg).toInt) → (∀ p9, 11 ≤ p9 → p9 ≤ 22 → ¬ (17 ≤ p9 ∧ p9 ≤ 16 + 5) → τ.2.1 p9 = σ.2.1 p9) → (τ.2.1 17 = upd (σ.2.1 17) (Int32.toNatClampNeg sx) k) → (τ.2.1 18 = upd (σ.2.1 18) (Int32.toNatClampNeg sx) va) → (τ.2.1 19 = upd (σ.2.1 19) (Int32.toNatClampNeg sx) vb) → (τ.2.1 20 = upd (σ.2.1 20) (Int32.toNatClampNeg sx) vc) → (τ.2.1 21 = upd (σ.2.1 21) (Int32.toNatClampNeg sx) vd) → (When τ ((k.toInt = 0 ∨ k.toInt = 1 ∨ k.toInt = 6 → 0 ≤ va.toInt ∧ va.toInt < (σ.2.1 11 (σ.1 30).toNatClampNeg).toInt) ∧ (k.toInt ≠ 0 ∧ k.toInt ≠ 1 ∧ k.toInt ≠ 6 → 0 ≤ va.toInt ∧ va.toInt < (σ.2.1 12 (σ.1 30).toNatClampNeg).toInt))) → (When τ (k.toInt = 2 ∨ k.toInt = 3 ∨ k.toInt = 4 ∨ k.toInt = 6 ∨ k.toInt = 7 → 0 ≤ vb.toInt ∧ vb.toInt < (σ.2.1 12 (σ.1 30).toNatClampNeg).toInt)) → (When τ (k.toInt = 5 → -99 ≤ vb.toInt ∧ vb.toInt ≤ 99 ∧ 1 ≤ vc.toInt ∧ vc.toInt ≤ 99)) → (When τ (k.toInt = 7 → 0 ≤ vc.toInt ∧ vc.toInt < (σ.2.1 12 (σ.1 30).toNatClampNeg).toInt ∧ 0 ≤ vd.toInt ∧ vd.toInt < (σ.2.1 12 (σ.1 30).toNatClampNeg).toInt)) → (∀ p9, p9 = 27 ∨ p9 = 28 → τ.2.2.1 p9 = σ.2.2.1 p9) → va_P (dC, dI) vwCl (mW h ad cl τ) H → va_D A (mW h ad cl τ) → va_S A s.heap H locs → lv_has ls 6 [(0, .ref h), (1, .int k), (2, .int sx), (3, .int pl), (4, .long ow)] → W p l e (headSpec vs_n_readStepV rm_n_readStepV).room s m #[Value.ref h, Value.int k] below meth c H locs 0 0 Q (F0 m 240 ls []) := by
    intro τ sx pl ow va vb vc vd H locs ls hIτ hxτ hmτ hgτ hR hT h17 h18 h19 h20 h21 hw0 hw1 hw2 hw3 hJ hP hD hS hl
    refine lv_aload_n hx hb dX12_readStep_240 rfl (lv_at hl 0 rfl) ?_
    refine zy_i (va_runV (As := []) (rest := []) ⟨hx, hb, hml, hown, hts⟩ (n_isGood l dC dI h ad cl H.size τ  hIτ) (cwV 0 hts gd_n_readStepV_224_n_isGood rfl rfl rfl dd_n_isGood ⟨Nat.le_of_ble_eq_true rfl, Nat.le_of_ble_eq_true rfl⟩) (preV hP hK hD hE (ci := 12) (q0 := 0) rfl rfl) rfl rfl hl.1 rfl (lv_room (Nat.le_of_ble_eq_true rfl)) dX12_readStep_241 ⟨Nat.le_of_ble_eq_true rfl, Nat.le_of_ble_eq_true rfl⟩) hD hS hA (fun z12 τ11 H locs hq hP hD hS => ?_)
    obtain ⟨rfl, f13⟩ := hq
    refine W.widen (k := 0) (n := 0) (Nat.le_of_ble_eq_true rfl) (Nat.le_of_ble_eq_true rfl) ?_
    refine lv_if_ne (tgt := 248) hx hb dX12_readStep_244 rfl (fun c14 => ?_) (fun c14 => ?_)
    · have tc14 := (show z12.toInt ≠ 0 from ti_ne rfl rg_11 c14)
      refine lv_aload_n hx hb dX12_readStep_248 rfl (lv_at hl 0 rfl) ?_
      refine lv_iload_n hx hb dX12_readStep_249 rfl (lv_at hl 2 rfl) ?_
      have o14 : 0 ≤ sx.toInt := by omega
      have o15 : sx.toInt ≤ 23 := by omega
      have h8 : (τ.1 4).toInt = 0 := by omega
      have K15 : StOk k.toInt va.toInt vb.toInt vc.toInt vd.toInt (σ.2.1 11 (σ.1 30).toNatClampNeg).toInt (σ.2.1 12 (σ.1 30).toNatClampNeg).toInt := by have q0 := hw0 h8; have q1 := hw1 h8; have q2 := hw2 h8; have q3 := hw3 h8; unfold StOk; omega
      have o16 : (σ.2.1 11 (σ.1 30).toNatClampNeg).toInt ≤ 2 := by omega
      have o17 : (σ.2.1 12 (σ.1 30).toNatClampNeg).toInt ≤ 12 := by omega
      refine zy_v (va_runV (As := [.int sx]) (rest := []) ⟨hx, hb, hml, hown, hts⟩ (n_laySpanV l dC dI h ad cl H.size τ sx hIτ ⟨o14, o15⟩ ((StOk.up K15 o16 o17).cells h17 h18 h19 h20 h21)) (cwV 1 hts gd_n_readStepV_307_n_laySpanV rfl rfl rfl dd_n_laySpanV ⟨Nat.le_of_ble_eq_true rfl, Nat.le_of_ble_eq_true rfl⟩) (preV hP hK hD hE (ci := 12) (q0 := 0) rfl rfl) rfl rfl hl.1 rfl (lv_room (Nat.le_of_ble_eq_true rfl)) dX12_readStep_250 ⟨Nat.le_of_ble_eq_true rfl, Nat.le_of_ble_eq_true rfl⟩) hD hS hA (fun τ16 H locs hq hP hD hS => ?_)
      obtain ⟨hI18, hx19, f20⟩ := hq
      have Xτ16 : eqx [6, 7, 8, 9, 10, 4, 5, 17, 18, 19, 20, 21, 27, 28, 26, 12] τ16 σ := eqx.tr hx19 hxτ rg_205
      have Mτ16 : Mo τ16 σ := Mo.tr (Mo.of hx19 rg_206) (fun h9 => hmτ h9)
      have Lτ16 : Lx τ16 σ := Lx.tr (Lx.of hx19 (Lx.es hgτ) rg_207 rg_208 rg_209) hgτ
      have W21 : When τ16 ((k.toInt = 0 ∨ k.toInt = 1 ∨ k.toInt = 6 → 0 ≤ va.toInt ∧ va.toInt < (σ.2.1 11 (σ.1 30).toNatClampNeg).toInt) ∧ (k.toInt ≠ 0 ∧ k.toInt ≠ 1 ∧ k.toInt ≠ 6 → 0 ≤ va.toInt ∧ va.toInt < (σ.2.1 12 (σ.1 30).toNatClampNeg).toInt)) := When.mo hw0 (Mo.of hx19 rg_206)
      have W22 : When τ16 (k.toInt = 2 ∨ k.toInt = 3 ∨ k.toInt = 4 ∨ k.toInt = 6 ∨ k.toInt = 7 → 0 ≤ vb.toInt ∧ vb.toInt < (σ.2.1 12 (σ.1 30).toNatClampNeg).toInt) := When.mo hw1 (Mo.of hx19 rg_206)
      have W23 : When τ16 (k.toInt = 5 → -99 ≤ vb.toInt ∧ vb.toInt ≤ 99 ∧ 1 ≤ vc.toInt ∧ vc.toInt ≤ 99) := When.mo hw2 (Mo.of hx19 rg_206)
      have W24 : When τ16 (k.toInt = 7 → 0 ≤ vc.toInt ∧ vc.toInt < (σ.2.1 12 (σ.1 30).toNatClampNeg).toInt ∧ 0 ≤ vd.toInt ∧ vd.toInt < (σ.2.1 12 (σ.1 30).toNatClampNeg).toInt) := When.mo hw3 (Mo.of hx19 rg_206)
      have W25 : When τ16 (StOk k.toInt va.toInt vb.toInt vc.toInt vd.toInt (σ.2.1 11 (σ.1 30).toNatClampNeg).toInt (σ.2.1 12 (σ.1 30).toNatClampNeg).toInt) := When.mo (fun _ => K15) (Mo.of hx19 rg_206)
      refine W.widen (k := 0) (n := 0) (Nat.le_of_ble_eq_true rfl) (Nat.le_of_ble_eq_true rfl) ?_
      obtain ⟨v27, v28, H27, H28, HSP⟩ := f20
      have H30 : τ.1 30 = σ.1 30 := (hxτ 30 rg_172).1
      rw [H30] at HSP
      have qq26 : (τ16.1 4).toInt = ((τ.1 4) : Int32).toInt := congrArg Int32.toInt ((show τ16.1 4 = (τ.1 4) from ((hx19 4 rg_206).1).trans rfl))
      refine lv_aload_n hx hb dX12_readStep_253 rfl (lv_at hl 0 rfl) ?_
      refine va_get (D := (dC, dI)) (ci := 12) (v := .ref (ad 27)) (C := RX12) (T := TX12) (N := 59) hx hb hts hin12 hown hK hP 0 rfl rfl 27 (Nat.le_of_ble_eq_true rfl) (ho (.fieldLink RX12 70 "NearEnoughModel" "sLeast" "[J") (List.mem_of_getElem? (i := 3) rfl)) (fun _ h9 => h9) rfl dX12_readStep_254 ?_
      refine lv_iload_n hx hb dX12_readStep_257 rfl (lv_at hl 2 rfl) ?_
      have o18 : sx.toInt < ((24 : Nat) : Int) := by omega
      refine va_lald hx hb hK hP 19 18 rfl rfl (ti_inx o14 o18) dX12_readStep_258 ?_
      refine lv_topl (fun y27 ey27 => ?_)
      refine lv_ldc2 (v := (-1000000000)) hx hb hown (ho (.constantLong RX12 310 (-1000000000)) (List.mem_of_getElem? (i := 4) rfl)) dX12_readStep_259 ?_
      refine W.lcmp hx hb dX12_readStep_262 ?_
      refine lv_topi (fun z28 ez28 => ?_)
      refine lv_if_lt (tgt := 279) hx hb dX12_readStep_263 rfl (fun c29 => ?_) (fun c29 => ?_)
      · have tc29 := (show z28.toInt < 0 from ti_lt rfl rg_11 c29)
        have lc29 : y27 < (-1000000000) := (lg_cmp_lt y27 (-1000000000)).mp (by rw [← ez28]; exact c29)
        refine lv_aload_n hx hb dX12_readStep_279 rfl (lv_at hl 0 rfl) ?_
        refine lv_bipush (v := 7) hx hb dX12_readStep_280 rg_54 ?_
        refine lv_iload_n hx hb dX12_readStep_282 rfl (lv_at hl 3 rfl) ?_
        have kk30 : (7 : Int32).toInt = 7 := rg_77
        have o19 : 0 ≤ (7 : Int32).toInt := by omega
        have o20 : (7 : Int32).toInt ≤ 7 := by omega
        refine zy_v (va_runV (As := [.int 7, .int pl]) (rest := []) ⟨hx, hb, hml, hown, hts⟩ (n_fails l dC dI h ad cl H.size τ16 7 pl hI18 ⟨o19, o20⟩) (cwV 2 hts gd_n_readStepV_220_n_fails rfl rfl rfl dd_n_fails ⟨Nat.le_of_ble_eq_true rfl, Nat.le_of_ble_eq_true rfl⟩) (preV hP hK hD hE (ci := 12) (q0 := 0) rfl rfl) rfl rfl hl.1 rfl (lv_room (Nat.le_of_ble_eq_true rfl)) dX12_readStep_283 ⟨Nat.le_of_ble_eq_true rfl, Nat.le_of_ble_eq_true rfl⟩) hD hS hA (fun τ31 H locs hq hP hD hS => ?_)
        obtain ⟨hI33, hx34, f35, mo36⟩ := hq
        have Xτ31 : eqx [6, 7, 8, 9, 10, 4, 5, 17, 18, 19, 20, 21, 27, 28, 26, 12] τ31 σ := eqx.tr hx34 Xτ16 rg_210
        have Mτ31 : Mo τ31 σ := Mo.tr mo36 (fun h9 => Mτ16 h9)
        have Lτ31 : Lx τ31 σ := Lx.tr (Lx.of hx34 (Lx.es Lτ16) rg_47 rg_48 rg_49) Lτ16
        have W37 : When τ31 ((k.toInt = 0 ∨ k.toInt = 1 ∨ k.toInt = 6 → 0 ≤ va.toInt ∧ va.toInt < (σ.2.1 11 (σ.1 30).toNatClampNeg).toInt) ∧ (k.toInt ≠ 0 ∧ k.toInt ≠ 1 ∧ k.toInt ≠ 6 → 0 ≤ va.toInt ∧ va.toInt < (σ.2.1 12 (σ.1 30).toNatClampNeg).toInt)) := When.mo W21 mo36
        have W38 : When τ31 (k.toInt = 2 ∨ k.toInt = 3 ∨ k.toInt = 4 ∨ k.toInt = 6 ∨ k.toInt = 7 → 0 ≤ vb.toInt ∧ vb.toInt < (σ.2.1 12 (σ.1 30).toNatClampNeg).toInt) := When.mo W22 mo36
        have W39 : When τ31 (k.toInt = 5 → -99 ≤ vb.toInt ∧ vb.toInt ≤ 99 ∧ 1 ≤ vc.toInt ∧ vc.toInt ≤ 99) := When.mo W23 mo36
        have W40 : When τ31 (k.toInt = 7 → 0 ≤ vc.toInt ∧ vc.toInt < (σ.2.1 12 (σ.1 30).toNatClampNeg).toInt ∧ 0 ≤ vd.toInt ∧ vd.toInt < (σ.2.1 12 (σ.1 30).toNatClampNeg).toInt) := When.mo W24 mo36
        have W41 : When τ31 (StOk k.toInt va.toInt vb.toInt vc.toInt vd.toInt (σ.2.1 11 (σ.1 30).toNatClampNeg).toInt (σ.2.1 12 (σ.1 30).toNatClampNeg).toInt) := When.mo W25 mo36
        refine W.widen (k := 0) (n := 0) (Nat.le_of_ble_eq_true rfl) (Nat.le_of_ble_eq_true rfl) ?_
        have C11 : (τ31).2.1 11 = (σ.2.1 11) := (((hx34 11 rg_103).2.1).trans (((hx19 11 rg_211).2.1).trans (hT 11 rg_177 rg_178 rg_179)))
        have C12 : (τ31).2.1 12 = (σ.2.1 12) := (((hx34 12 rg_109).2.1).trans (((hx19 12 rg_212).2.1).trans (hT 12 rg_173 rg_174 rg_175)))
        have C13 : (τ31).2.1 13 = (σ.2.1 13) := (((hx34 13 rg_115).2.1).trans (((hx19 13 rg_213).2.1).trans (hT 13 rg_181 rg_182 rg_183)))
        have C14 : (τ31).2.1 14 = (σ.2.1 14) := (((hx34 14 rg_121).2.1).trans (((hx19 14 rg_214).2.1).trans (hT 14 rg_185 rg_186 rg_187)))
        have C15 : (τ31).2.1 15 = (σ.2.1 15) := (((hx34 15 rg_99).2.1).trans (((hx19 15 rg_215).2.1).trans (hT 15 rg_189 rg_190 rg_191)))
        have C16 : (τ31).2.1 16 = (σ.2.1 16) := (((hx34 16 rg_128).2.1).trans (((hx19 16 rg_216).2.1).trans (hT 16 rg_193 rg_194 rg_195)))
        have C17 : (τ31).2.1 17 = (upd (σ.2.1 17) (Int32.toNatClampNeg sx) k) := (((hx34 17 rg_133).2.1).trans (((hx19 17 rg_217).2.1).trans h17))
        have C18 : (τ31).2.1 18 = (upd (σ.2.1 18) (Int32.toNatClampNeg sx) va) := (((hx34 18 rg_139).2.1).trans (((hx19 18 rg_218).2.1).trans h18))
        have C19 : (τ31).2.1 19 = (upd (σ.2.1 19) (Int32.toNatClampNeg sx) vb) := (((hx34 19 rg_145).2.1).trans (((hx19 19 rg_219).2.1).trans h19))
        have C20 : (τ31).2.1 20 = (upd (σ.2.1 20) (Int32.toNatClampNeg sx) vc) := (((hx34 20 rg_151).2.1).trans (((hx19 20 rg_220).2.1).trans h20))
        have C21 : (τ31).2.1 21 = (upd (σ.2.1 21) (Int32.toNatClampNeg sx) vd) := (((hx34 21 rg_157).2.1).trans (((hx19 21 rg_221).2.1).trans h21))
        have C22 : (τ31).2.1 22 = (σ.2.1 22) := (((hx34 22 rg_163).2.1).trans (((hx19 22 rg_222).2.1).trans (hT 22 rg_178 rg_202 rg_203)))
        have K27_0 : τ16.2.2.1 27 = vp_updL (σ.2.2.1 27) (Int32.toNatClampNeg sx) v27 := by rw [H27, hJ 27 (by decide)]
        have K27_1 : τ31.2.2.1 27 = vp_updL (σ.2.2.1 27) (Int32.toNatClampNeg sx) v27 := ((hx34 27 rg_560).2.2.1).trans K27_0
        have K28_0 : τ16.2.2.1 28 = vp_updL (σ.2.2.1 28) (Int32.toNatClampNeg sx) v28 := by rw [H28, hJ 28 (by decide)]
        have K28_1 : τ31.2.2.1 28 = vp_updL (σ.2.2.1 28) (Int32.toNatClampNeg sx) v28 := ((hx34 28 rg_561).2.2.1).trans K28_0
        have J43 : ∀ p9, 11 ≤ p9 → p9 ≤ 21 → p9 ≠ 12 → (τ31).2.1 p9 = τ.2.1 p9 := fun p9 h1 h2 h3 => by rcases (show p9 = 11 ∨ p9 = 13 ∨ p9 = 14 ∨ p9 = 15 ∨ p9 = 16 ∨ p9 = 17 ∨ p9 = 18 ∨ p9 = 19 ∨ p9 = 20 ∨ p9 = 21 by omega) with rfl | rfl | rfl | rfl | rfl | rfl | rfl | rfl | rfl | rfl <;> first | exact C11.trans (hT 11 rg_177 rg_178 rg_179).symm | exact C13.trans (hT 13 rg_181 rg_182 rg_183).symm | exact C14.trans (hT 14 rg_185 rg_186 rg_187).symm | exact C15.trans (hT 15 rg_189 rg_190 rg_191).symm | exact C16.trans (hT 16 rg_193 rg_194 rg_195).symm | exact C17.trans (h17).symm | exact C18.trans (h18).symm | exact C19.trans (h19).symm | exact C20.trans (h20).symm | exact C21.trans (h21).symm
        have J44 : ∃ τa : MS, (∀ p9, 11 ≤ p9 → p9 ≤ 21 → p9 ≠ 12 → (τ31).2.1 p9 = τa.2.1 p9) ∧ (∀ p9, p9 = 27 ∨ p9 = 28 → τa.2.2.1 p9 = σ.2.2.1 p9) ∧ SpnV (σ.1 30).toNatClampNeg (Int32.toNatClampNeg sx) τa.2.1 τa.2.2.1 v27 v28 := ⟨τ, J43, hJ, HSP⟩
        have o21 : (τ16.1 4).toInt = 0 := by omega
        have NF : (τ31.1 4).toInt ≠ 0 := f35 o21 rg_562
        have J45 : When τ31 (-1000000000 ≤ v27.toInt ∧ v28.toInt ≤ 1000000000) := fun h9 => absurd h9 NF
        have o22 : sx.toInt = 12 * (σ.1 30).toInt + (σ.2.1 12 (σ.1 30).toNatClampNeg).toInt := by omega
        exact pt_286 τ31 sx pl ow va vb vc vd v27 v28 _ _ _ hI33 Xτ31 Mτ31 Lτ31 (show sx.toInt = 12 * (σ.1 30).toInt + (σ.2.1 12 (σ.1 30).toNatClampNeg).toInt from o22) (tabL 5 C11 C12 C13 C14 C15 C16 (Or.inl rg_223) (Or.inl rg_224) (Or.inl rg_225) (Or.inl rg_226) (Or.inl rg_227) C22) C17 C18 C19 C20 C21 W41 K27_1 K28_1 J44 J45 hP hD hS (lv_sub hl [0, 1, 2, 3, 4] rfl)
      · have tc29 := (show 0 ≤ z28.toInt from ti_nlt rfl rg_11 c29)
        have lc29 : ¬ y27 < (-1000000000) := fun h => c29 (by rw [ez28]; exact (lg_cmp_lt y27 (-1000000000)).mpr h)
        refine lv_aload_n hx hb dX12_readStep_266 rfl (lv_at hl 0 rfl) ?_
        refine va_get (D := (dC, dI)) (ci := 12) (v := .ref (ad 28)) (C := RX12) (T := TX12) (N := 59) hx hb hts hin12 hown hK hP 0 rfl rfl 28 (Nat.le_of_ble_eq_true rfl) (ho (.fieldLink RX12 73 "NearEnoughModel" "sMost" "[J") (List.mem_of_getElem? (i := 5) rfl)) (fun _ h9 => h9) rfl dX12_readStep_267 ?_
        refine lv_iload_n hx hb dX12_readStep_270 rfl (lv_at hl 2 rfl) ?_
        refine va_lald hx hb hK hP 20 19 rfl rfl (ti_inx o14 o18) dX12_readStep_271 ?_
        refine lv_topl (fun y46 ey46 => ?_)
        refine lv_ldc2 (v := (1000000000)) hx hb hown (ho (.constantLong RX12 312 (1000000000)) (List.mem_of_getElem? (i := 6) rfl)) dX12_readStep_272 ?_
        refine W.lcmp hx hb dX12_readStep_275 ?_
        refine lv_topi (fun z47 ez47 => ?_)
        refine lv_if_le (tgt := 286) hx hb dX12_readStep_276 rfl (fun c48 => ?_) (fun c48 => ?_)
        · have tc48 := (show z47.toInt ≤ 0 from ti_le rfl rg_11 c48)
          have lc48 : y46 ≤ 1000000000 := (lg_cmp_le y46 1000000000).mp (by rw [← ez47]; exact c48)
          have C11 : (τ16).2.1 11 = (σ.2.1 11) := (((hx19 11 rg_211).2.1).trans (hT 11 rg_177 rg_178 rg_179))
          have C12 : (τ16).2.1 12 = (σ.2.1 12) := (((hx19 12 rg_212).2.1).trans (hT 12 rg_173 rg_174 rg_175))
          have C13 : (τ16).2.1 13 = (σ.2.1 13) := (((hx19 13 rg_213).2.1).trans (hT 13 rg_181 rg_182 rg_183))
          have C14 : (τ16).2.1 14 = (σ.2.1 14) := (((hx19 14 rg_214).2.1).trans (hT 14 rg_185 rg_186 rg_187))
          have C15 : (τ16).2.1 15 = (σ.2.1 15) := (((hx19 15 rg_215).2.1).trans (hT 15 rg_189 rg_190 rg_191))
          have C16 : (τ16).2.1 16 = (σ.2.1 16) := (((hx19 16 rg_216).2.1).trans (hT 16 rg_193 rg_194 rg_195))
          have C17 : (τ16).2.1 17 = (upd (σ.2.1 17) (Int32.toNatClampNeg sx) k) := (((hx19 17 rg_217).2.1).trans h17)
          have C18 : (τ16).2.1 18 = (upd (σ.2.1 18) (Int32.toNatClampNeg sx) va) := (((hx19 18 rg_218).2.1).trans h18)
          have C19 : (τ16).2.1 19 = (upd (σ.2.1 19) (Int32.toNatClampNeg sx) vb) := (((hx19 19 rg_219).2.1).trans h19)
          have C20 : (τ16).2.1 20 = (upd (σ.2.1 20) (Int32.toNatClampNeg sx) vc) := (((hx19 20 rg_220).2.1).trans h20)
          have C21 : (τ16).2.1 21 = (upd (σ.2.1 21) (Int32.toNatClampNeg sx) vd) := (((hx19 21 rg_221).2.1).trans h21)
          have C22 : (τ16).2.1 22 = (σ.2.1 22) := (((hx19 22 rg_222).2.1).trans (hT 22 rg_178 rg_202 rg_203))
          have K27_0 : τ16.2.2.1 27 = vp_updL (σ.2.2.1 27) (Int32.toNatClampNeg sx) v27 := by rw [H27, hJ 27 (by decide)]
          have K28_0 : τ16.2.2.1 28 = vp_updL (σ.2.2.1 28) (Int32.toNatClampNeg sx) v28 := by rw [H28, hJ 28 (by decide)]
          have J50 : ∀ p9, 11 ≤ p9 → p9 ≤ 21 → p9 ≠ 12 → (τ16).2.1 p9 = τ.2.1 p9 := fun p9 h1 h2 h3 => by rcases (show p9 = 11 ∨ p9 = 13 ∨ p9 = 14 ∨ p9 = 15 ∨ p9 = 16 ∨ p9 = 17 ∨ p9 = 18 ∨ p9 = 19 ∨ p9 = 20 ∨ p9 = 21 by omega) with rfl | rfl | rfl | rfl | rfl | rfl | rfl | rfl | rfl | rfl <;> first | exact C11.trans (hT 11 rg_177 rg_178 rg_179).symm | exact C13.trans (hT 13 rg_181 rg_182 rg_183).symm | exact C14.trans (hT 14 rg_185 rg_186 rg_187).symm | exact C15.trans (hT 15 rg_189 rg_190 rg_191).symm | exact C16.trans (hT 16 rg_193 rg_194 rg_195).symm | exact C17.trans (h17).symm | exact C18.trans (h18).symm | exact C19.trans (h19).symm | exact C20.trans (h20).symm | exact C21.trans (h21).symm
          have J51 : ∃ τa : MS, (∀ p9, 11 ≤ p9 → p9 ≤ 21 → p9 ≠ 12 → (τ16).2.1 p9 = τa.2.1 p9) ∧ (∀ p9, p9 = 27 ∨ p9 = 28 → τa.2.2.1 p9 = σ.2.2.1 p9) ∧ SpnV (σ.1 30).toNatClampNeg (Int32.toNatClampNeg sx) τa.2.1 τa.2.2.1 v27 v28 := ⟨τ, J50, hJ, HSP⟩
          have B1 : -1000000000 ≤ v27.toInt := by have h8 := nlt64 lc29; rw [b9a] at h8; rw [show y27 = v27 from by rw [ey27]; exact vuS K27_0] at h8; exact h8
          have B2 : v28.toInt ≤ 1000000000 := by have h8 := le64 lc48; rw [b9b] at h8; rw [show y46 = v28 from by rw [ey46]; exact vuS K28_0] at h8; exact h8
          have J52 : When τ16 (-1000000000 ≤ v27.toInt ∧ v28.toInt ≤ 1000000000) := fun _ => ⟨B1, B2⟩
          have o23 : sx.toInt = 12 * (σ.1 30).toInt + (σ.2.1 12 (σ.1 30).toNatClampNeg).toInt := by omega
          exact pt_286 τ16 sx pl ow va vb vc vd v27 v28 _ _ _ hI18 Xτ16 Mτ16 Lτ16 (show sx.toInt = 12 * (σ.1 30).toInt + (σ.2.1 12 (σ.1 30).toNatClampNeg).toInt from o23) (tabL 5 C11 C12 C13 C14 C15 C16 (Or.inl rg_223) (Or.inl rg_224) (Or.inl rg_225) (Or.inl rg_226) (Or.inl rg_227) C22) C17 C18 C19 C20 C21 W25 K27_0 K28_0 J51 J52 hP hD hS (lv_sub hl [0, 1, 2, 3, 4] rfl)
        · have tc48 := (show 0 < z47.toInt from ti_nle rfl rg_11 c48)
          have lc48 : ¬ y46 ≤ 1000000000 := fun h => c48 (by rw [ez47]; exact (lg_cmp_le y46 1000000000).mpr h)
          refine lv_aload_n hx hb dX12_readStep_279 rfl (lv_at hl 0 rfl) ?_
          refine lv_bipush (v := 7) hx hb dX12_readStep_280 rg_54 ?_
          refine lv_iload_n hx hb dX12_readStep_282 rfl (lv_at hl 3 rfl) ?_
          have kk53 : (7 : Int32).toInt = 7 := rg_77
          have o24 : 0 ≤ (7 : Int32).toInt := by omega
          have o25 : (7 : Int32).toInt ≤ 7 := by omega
          refine zy_v (va_runV (As := [.int 7, .int pl]) (rest := []) ⟨hx, hb, hml, hown, hts⟩ (n_fails l dC dI h ad cl H.size τ16 7 pl hI18 ⟨o24, o25⟩) (cwV 2 hts gd_n_readStepV_220_n_fails rfl rfl rfl dd_n_fails ⟨Nat.le_of_ble_eq_true rfl, Nat.le_of_ble_eq_true rfl⟩) (preV hP hK hD hE (ci := 12) (q0 := 0) rfl rfl) rfl rfl hl.1 rfl (lv_room (Nat.le_of_ble_eq_true rfl)) dX12_readStep_283 ⟨Nat.le_of_ble_eq_true rfl, Nat.le_of_ble_eq_true rfl⟩) hD hS hA (fun τ54 H locs hq hP hD hS => ?_)
          obtain ⟨hI56, hx57, f58, mo59⟩ := hq
          have Xτ54 : eqx [6, 7, 8, 9, 10, 4, 5, 17, 18, 19, 20, 21, 27, 28, 26, 12] τ54 σ := eqx.tr hx57 Xτ16 rg_210
          have Mτ54 : Mo τ54 σ := Mo.tr mo59 (fun h9 => Mτ16 h9)
          have Lτ54 : Lx τ54 σ := Lx.tr (Lx.of hx57 (Lx.es Lτ16) rg_47 rg_48 rg_49) Lτ16
          have W60 : When τ54 ((k.toInt = 0 ∨ k.toInt = 1 ∨ k.toInt = 6 → 0 ≤ va.toInt ∧ va.toInt < (σ.2.1 11 (σ.1 30).toNatClampNeg).toInt) ∧ (k.toInt ≠ 0 ∧ k.toInt ≠ 1 ∧ k.toInt ≠ 6 → 0 ≤ va.toInt ∧ va.toInt < (σ.2.1 12 (σ.1 30).toNatClampNeg).toInt)) := When.mo W21 mo59
          have W61 : When τ54 (k.toInt = 2 ∨ k.toInt = 3 ∨ k.toInt = 4 ∨ k.toInt = 6 ∨ k.toInt = 7 → 0 ≤ vb.toInt ∧ vb.toInt < (σ.2.1 12 (σ.1 30).toNatClampNeg).toInt) := When.mo W22 mo59
          have W62 : When τ54 (k.toInt = 5 → -99 ≤ vb.toInt ∧ vb.toInt ≤ 99 ∧ 1 ≤ vc.toInt ∧ vc.toInt ≤ 99) := When.mo W23 mo59
          have W63 : When τ54 (k.toInt = 7 → 0 ≤ vc.toInt ∧ vc.toInt < (σ.2.1 12 (σ.1 30).toNatClampNeg).toInt ∧ 0 ≤ vd.toInt ∧ vd.toInt < (σ.2.1 12 (σ.1 30).toNatClampNeg).toInt) := When.mo W24 mo59
          have W64 : When τ54 (StOk k.toInt va.toInt vb.toInt vc.toInt vd.toInt (σ.2.1 11 (σ.1 30).toNatClampNeg).toInt (σ.2.1 12 (σ.1 30).toNatClampNeg).toInt) := When.mo W25 mo59
          refine W.widen (k := 0) (n := 0) (Nat.le_of_ble_eq_true rfl) (Nat.le_of_ble_eq_true rfl) ?_
          have C11 : (τ54).2.1 11 = (σ.2.1 11) := (((hx57 11 rg_103).2.1).trans (((hx19 11 rg_211).2.1).trans (hT 11 rg_177 rg_178 rg_179)))
          have C12 : (τ54).2.1 12 = (σ.2.1 12) := (((hx57 12 rg_109).2.1).trans (((hx19 12 rg_212).2.1).trans (hT 12 rg_173 rg_174 rg_175)))
          have C13 : (τ54).2.1 13 = (σ.2.1 13) := (((hx57 13 rg_115).2.1).trans (((hx19 13 rg_213).2.1).trans (hT 13 rg_181 rg_182 rg_183)))
          have C14 : (τ54).2.1 14 = (σ.2.1 14) := (((hx57 14 rg_121).2.1).trans (((hx19 14 rg_214).2.1).trans (hT 14 rg_185 rg_186 rg_187)))
          have C15 : (τ54).2.1 15 = (σ.2.1 15) := (((hx57 15 rg_99).2.1).trans (((hx19 15 rg_215).2.1).trans (hT 15 rg_189 rg_190 rg_191)))
          have C16 : (τ54).2.1 16 = (σ.2.1 16) := (((hx57 16 rg_128).2.1).trans (((hx19 16 rg_216).2.1).trans (hT 16 rg_193 rg_194 rg_195)))
          have C17 : (τ54).2.1 17 = (upd (σ.2.1 17) (Int32.toNatClampNeg sx) k) := (((hx57 17 rg_133).2.1).trans (((hx19 17 rg_217).2.1).trans h17))
          have C18 : (τ54).2.1 18 = (upd (σ.2.1 18) (Int32.toNatClampNeg sx) va) := (((hx57 18 rg_139).2.1).trans (((hx19 18 rg_218).2.1).trans h18))
          have C19 : (τ54).2.1 19 = (upd (σ.2.1 19) (Int32.toNatClampNeg sx) vb) := (((hx57 19 rg_145).2.1).trans (((hx19 19 rg_219).2.1).trans h19))
          have C20 : (τ54).2.1 20 = (upd (σ.2.1 20) (Int32.toNatClampNeg sx) vc) := (((hx57 20 rg_151).2.1).trans (((hx19 20 rg_220).2.1).trans h20))
          have C21 : (τ54).2.1 21 = (upd (σ.2.1 21) (Int32.toNatClampNeg sx) vd) := (((hx57 21 rg_157).2.1).trans (((hx19 21 rg_221).2.1).trans h21))
          have C22 : (τ54).2.1 22 = (σ.2.1 22) := (((hx57 22 rg_163).2.1).trans (((hx19 22 rg_222).2.1).trans (hT 22 rg_178 rg_202 rg_203)))
          have K27_0 : τ16.2.2.1 27 = vp_updL (σ.2.2.1 27) (Int32.toNatClampNeg sx) v27 := by rw [H27, hJ 27 (by decide)]
          have K27_1 : τ54.2.2.1 27 = vp_updL (σ.2.2.1 27) (Int32.toNatClampNeg sx) v27 := ((hx57 27 rg_560).2.2.1).trans K27_0
          have K28_0 : τ16.2.2.1 28 = vp_updL (σ.2.2.1 28) (Int32.toNatClampNeg sx) v28 := by rw [H28, hJ 28 (by decide)]
          have K28_1 : τ54.2.2.1 28 = vp_updL (σ.2.2.1 28) (Int32.toNatClampNeg sx) v28 := ((hx57 28 rg_561).2.2.1).trans K28_0
          have J66 : ∀ p9, 11 ≤ p9 → p9 ≤ 21 → p9 ≠ 12 → (τ54).2.1 p9 = τ.2.1 p9 := fun p9 h1 h2 h3 => by rcases (show p9 = 11 ∨ p9 = 13 ∨ p9 = 14 ∨ p9 = 15 ∨ p9 = 16 ∨ p9 = 17 ∨ p9 = 18 ∨ p9 = 19 ∨ p9 = 20 ∨ p9 = 21 by omega) with rfl | rfl | rfl | rfl | rfl | rfl | rfl | rfl | rfl | rfl <;> first | exact C11.trans (hT 11 rg_177 rg_178 rg_179).symm | exact C13.trans (hT 13 rg_181 rg_182 rg_183).symm | exact C14.trans (hT 14 rg_185 rg_186 rg_187).symm | exact C15.trans (hT 15 rg_189 rg_190 rg_191).symm | exact C16.trans (hT 16 rg_193 rg_194 rg_195).symm | exact C17.trans (h17).symm | exact C18.trans (h18).symm | exact C19.trans (h19).symm | exact C20.trans (h20).symm | exact C21.trans (h21).symm
          have J67 : ∃ τa : MS, (∀ p9, 11 ≤ p9 → p9 ≤ 21 → p9 ≠ 12 → (τ54).2.1 p9 = τa.2.1 p9) ∧ (∀ p9, p9 = 27 ∨ p9 = 28 → τa.2.2.1 p9 = σ.2.2.1 p9) ∧ SpnV (σ.1 30).toNatClampNeg (Int32.toNatClampNeg sx) τa.2.1 τa.2.2.1 v27 v28 := ⟨τ, J66, hJ, HSP⟩
          have o26 : (τ16.1 4).toInt = 0 := by omega
          have NF : (τ54.1 4).toInt ≠ 0 := f58 o26 rg_562
          have J68 : When τ54 (-1000000000 ≤ v27.toInt ∧ v28.toInt ≤ 1000000000) := fun h9 => absurd h9 NF
          have o27 : sx.toInt = 12 * (σ.1 30).toInt + (σ.2.1 12 (σ.1 30).toNatClampNeg).toInt := by omega
          exact pt_286 τ54 sx pl ow va vb vc vd v27 v28 _ _ _ hI56 Xτ54 Mτ54 Lτ54 (show sx.toInt = 12 * (σ.1 30).toInt + (σ.2.1 12 (σ.1 30).toNatClampNeg).toInt from o27) (tabL 5 C11 C12 C13 C14 C15 C16 (Or.inl rg_223) (Or.inl rg_224) (Or.inl rg_225) (Or.inl rg_226) (Or.inl rg_227) C22) C17 C18 C19 C20 C21 W64 K27_1 K28_1 J67 J68 hP hD hS (lv_sub hl [0, 1, 2, 3, 4] rfl)
    · have tc14 := (show z12.toInt = 0 from ti_eq rfl rg_11 c14)
      rw [hQ]
      have C11 : (τ).2.1 11 = (σ.2.1 11) := (hT 11 rg_177 rg_178 rg_179)
      have C12 : (τ).2.1 12 = (σ.2.1 12) := (hT 12 rg_173 rg_174 rg_175)
      have C13 : (τ).2.1 13 = (σ.2.1 13) := (hT 13 rg_181 rg_182 rg_183)
      have C14 : (τ).2.1 14 = (σ.2.1 14) := (hT 14 rg_185 rg_186 rg_187)
      have C15 : (τ).2.1 15 = (σ.2.1 15) := (hT 15 rg_189 rg_190 rg_191)
      have C16 : (τ).2.1 16 = (σ.2.1 16) := (hT 16 rg_193 rg_194 rg_195)
      have C17 : (τ).2.1 17 = (upd (σ.2.1 17) (Int32.toNatClampNeg sx) k) := h17
      have C18 : (τ).2.1 18 = (upd (σ.2.1 18) (Int32.toNatClampNeg sx) va) := h18
      have C19 : (τ).2.1 19 = (upd (σ.2.1 19) (Int32.toNatClampNeg sx) vb) := h19
      have C20 : (τ).2.1 20 = (upd (σ.2.1 20) (Int32.toNatClampNeg sx) vc) := h20
      have C21 : (τ).2.1 21 = (upd (σ.2.1 21) (Int32.toNatClampNeg sx) vd) := h21
      have C22 : (τ).2.1 22 = (σ.2.1 22) := (hT 22 rg_178 rg_202 rg_203)
      have o28 : 0 ≤ (σ.1 30).toInt := by omega
      have o29 : (σ.1 30).toInt ≤ 1 := by omega
      have o30 : 0 ≤ (σ.2.1 12 (σ.1 30).toNatClampNeg).toInt := by omega
      have o31 : (σ.2.1 12 (σ.1 30).toNatClampNeg).toInt ≤ 11 := by omega
      have o32 : sx.toInt = 12 * (σ.1 30).toInt + (σ.2.1 12 (σ.1 30).toNatClampNeg).toInt := by omega
      have RR := rel_other (n := (σ.2.1 12 (σ.1 30).toNatClampNeg)) hI ⟨o28, o29⟩ ⟨o30, o31⟩ o32 (Or.inl trivial) C11 C12 C13 (crL C14 C15 C16) (csL C17 C18 C19 C20 C21) C22
      have o33 : (τ.1 4).toInt ≠ 0 := by omega
      have JJ : ∀ p9, p9 = 27 ∨ p9 = 28 → (τ).2.2.1 p9 = σ.2.2.1 p9 := hJ
      exact W.vret hx hb hr (fun t ht hW => ⟨⟨τ, rfl, ⟨hIτ, hxτ, (fun h9 _ => absurd (show (τ.1 4).toInt = 0 from h9) o33), RR, (fun h9 _ _ => absurd (show (τ.1 4).toInt = 0 from h9) o33), (fun bk _ _ => SameJ.eqs JJ), hmτ, hgτ⟩, wEn_of hP (hK.sub [] rfl) hD ht hW⟩, hS.F ht⟩) hS.2.2 dX12_readStep_247
  have pt_192 : ∀ (τ : MS) (sx : Int32) (pl : Int32) (ow : Int64) (va : Int32) (vb : Int32) (vc : Int32) (H : Heap) (locs : List Loc) (ls : Array Slot), (Inv τ) → (eqx [6, 7, 8, 9, 10, 4, 5, 17, 18, 19, 20, 21, 27, 28, 26, 12] τ σ) → (Mo τ σ) → (Lx τ σ) → (sx.toInt = 12 * (σ.1 30).toInt + (σ.2.1 12 (σ.1 30).toNatClampNeg).toInt) → (∀ p9, 11 ≤ p9 → p9 ≤ 22 → ¬ (17 ≤ p9 ∧ p9 ≤ 16 + 4) → τ.2.1 p9 = σ.2.1 p9) → (τ.2.1 17 = upd (σ.2.1 17) (Int32.toNatClampNeg sx) k) → (τ.2.1 18 = upd (σ.2.1 18) (Int32.toNatClampNeg sx) va) → (τ.2.1 19 = upd (σ.2.1 19) (Int32.toNatClampNeg sx) vb) → (τ.2.1 20 = upd (σ.2.1 20) (Int32.toNatClampNeg sx) vc) → (When τ ((k.toInt = 0 ∨ k.toInt = 1 ∨ k.toInt = 6 → 0 ≤ va.toInt ∧ va.toInt < (σ.2.1 11 (σ.1 30).toNatClampNeg).toInt) ∧ (k.toInt ≠ 0 ∧ k.toInt ≠ 1 ∧ k.toInt ≠ 6 → 0 ≤ va.toInt ∧ va.toInt < (σ.2.1 12 (σ.1 30).toNatClampNeg).toInt))) → (When τ (k.toInt = 2 ∨ k.toInt = 3 ∨ k.toInt = 4 ∨ k.toInt = 6 ∨ k.toInt = 7 → 0 ≤ vb.toInt ∧ vb.toInt < (σ.2.1 12 (σ.1 30).toNatClampNeg).toInt)) → (When τ (k.toInt = 5 → -99 ≤ vb.toInt ∧ vb.toInt ≤ 99 ∧ 1 ≤ vc.toInt ∧ vc.toInt ≤ 99)) → (∀ p9, p9 = 27 ∨ p9 = 28 → τ.2.2.1 p9 = σ.2.2.1 p9) → va_P (dC, dI) vwCl (mW h ad cl τ) H → va_D A (mW h ad cl τ) → va_S A s.heap H locs → lv_has ls 6 [(0, .ref h), (1, .int k), (2, .int sx), (3, .int pl), (4, .long ow)] → W p l e (headSpec vs_n_readStepV rm_n_readStepV).room s m #[Value.ref h, Value.int k] below meth c H locs 0 0 Q (F0 m 192 ls []) := by
    intro τ sx pl ow va vb vc H locs ls hIτ hxτ hmτ hgτ hR hT h17 h18 h19 h20 hw0 hw1 hw2 hJ hP hD hS hl
    refine lv_iload_n hx hb dX12_readStep_192 rfl (lv_at hl 1 rfl) ?_
    refine lv_bipush (v := 7) hx hb dX12_readStep_193 rg_54 ?_
    refine lv_icmp_ne (tgt := 240) hx hb dX12_readStep_195 rfl (fun c69 => ?_) (fun c69 => ?_)
    · have tc69 := (show k.toInt ≠ 7 from ti_ne rfl rg_77 c69)
      have C11 : (τ).2.1 11 = (σ.2.1 11) := (hT 11 rg_177 rg_178 rg_228)
      have C12 : (τ).2.1 12 = (σ.2.1 12) := (hT 12 rg_173 rg_174 rg_229)
      have C13 : (τ).2.1 13 = (σ.2.1 13) := (hT 13 rg_181 rg_182 rg_230)
      have C14 : (τ).2.1 14 = (σ.2.1 14) := (hT 14 rg_185 rg_186 rg_231)
      have C15 : (τ).2.1 15 = (σ.2.1 15) := (hT 15 rg_189 rg_190 rg_232)
      have C16 : (τ).2.1 16 = (σ.2.1 16) := (hT 16 rg_193 rg_194 rg_233)
      have C17 : (τ).2.1 17 = (upd (σ.2.1 17) (Int32.toNatClampNeg sx) k) := h17
      have C18 : (τ).2.1 18 = (upd (σ.2.1 18) (Int32.toNatClampNeg sx) va) := h18
      have C19 : (τ).2.1 19 = (upd (σ.2.1 19) (Int32.toNatClampNeg sx) vb) := h19
      have C20 : (τ).2.1 20 = (upd (σ.2.1 20) (Int32.toNatClampNeg sx) vc) := h20
      have C21 : (τ).2.1 21 = (σ.2.1 21) := (hT 21 rg_234 rg_235 rg_236)
      have C22 : (τ).2.1 22 = (σ.2.1 22) := (hT 22 rg_178 rg_202 rg_237)
      have N73 : When τ (k.toInt = 7 → 0 ≤ vc.toInt ∧ vc.toInt < (σ.2.1 12 (σ.1 30).toNatClampNeg).toInt ∧ 0 ≤ ((σ.2.1 21) (Int32.toNatClampNeg sx)).toInt ∧ ((σ.2.1 21) (Int32.toNatClampNeg sx)).toInt < (σ.2.1 12 (σ.1 30).toNatClampNeg).toInt) := fun h9 => by have q0 := hw0 h9; have q1 := hw1 h9; have q2 := hw2 h9; omega
      have J74 : ∀ p9, p9 = 27 ∨ p9 = 28 → (τ).2.2.1 p9 = σ.2.2.1 p9 := hJ
      have o34 : sx.toInt = 12 * (σ.1 30).toInt + (σ.2.1 12 (σ.1 30).toNatClampNeg).toInt := by omega
      exact pt_240 τ sx pl ow va vb vc ((σ.2.1 21) (Int32.toNatClampNeg sx)) _ _ _ hIτ hxτ hmτ hgτ (show sx.toInt = 12 * (σ.1 30).toInt + (σ.2.1 12 (σ.1 30).toNatClampNeg).toInt from o34) (tabL 5 C11 C12 C13 C14 C15 C16 (Or.inl rg_223) (Or.inl rg_224) (Or.inl rg_225) (Or.inl rg_226) (Or.inl rg_227) C22) C17 C18 C19 C20 (C21.trans upd_self) hw0 hw1 hw2 N73 J74 hP hD hS (lv_sub hl [0, 1, 2, 3, 4] rfl)
    · have tc69 := (show k.toInt = 7 from ti_eq rfl rg_77 c69)
      refine lv_aload_n hx hb dX12_readStep_198 rfl (lv_at hl 0 rfl) ?_
      refine lv_aload_n hx hb dX12_readStep_199 rfl (lv_at hl 0 rfl) ?_
      refine lv_ldc2 (v := (26982)) hx hb hown (ho (.constantLong RX12 175 (26982)) (List.mem_of_getElem? (i := 7) rfl)) dX12_readStep_200 ?_
      refine zy_i (va_runV (As := [.long 26982]) (rest := [.ref h]) ⟨hx, hb, hml, hown, hts⟩ (n_isWord l dC dI h ad cl H.size τ 26982 hIτ) (cwV 1 hts gd_n_readStepV_261_n_isWord rfl rfl rfl dd_n_isWord ⟨Nat.le_of_ble_eq_true rfl, Nat.le_of_ble_eq_true rfl⟩) (preV hP hK hD hE (ci := 12) (q0 := 0) rfl rfl) rfl rfl hl.1 rfl (lv_room (Nat.le_of_ble_eq_true rfl)) dX12_readStep_203 ⟨Nat.le_of_ble_eq_true rfl, Nat.le_of_ble_eq_true rfl⟩) hD hS hA (fun z76 τ75 H locs hq hP hD hS => ?_)
      obtain ⟨rfl, f77⟩ := hq
      refine W.widen (k := 0) (n := 0) (Nat.le_of_ble_eq_true rfl) (Nat.le_of_ble_eq_true rfl) ?_
      refine zy_v (va_runV (As := [.int z76]) (rest := []) ⟨hx, hb, hml, hown, hts⟩ (n_must l dC dI h ad cl H.size τ z76 hIτ (Lx.es hgτ)) (cwV 1 hts gd_n_readStepV_278_n_must rfl rfl rfl dd_n_must ⟨Nat.le_of_ble_eq_true rfl, Nat.le_of_ble_eq_true rfl⟩) (preV hP hK hD hE (ci := 12) (q0 := 0) rfl rfl) rfl rfl hl.1 rfl (lv_room (Nat.le_of_ble_eq_true rfl)) dX12_readStep_206 ⟨Nat.le_of_ble_eq_true rfl, Nat.le_of_ble_eq_true rfl⟩) hD hS hA (fun τ78 H locs hq hP hD hS => ?_)
      obtain ⟨hI80, hx81, mo82, lx83⟩ := hq
      have Xτ78 : eqx [6, 7, 8, 9, 10, 4, 5, 17, 18, 19, 20, 21, 27, 28, 26, 12] τ78 σ := eqx.tr hx81 hxτ rg_238
      have Mτ78 : Mo τ78 σ := Mo.tr mo82 (fun h9 => hmτ h9)
      have Lτ78 : Lx τ78 σ := Lx.tr lx83 hgτ
      have W84 : When τ78 ((k.toInt = 0 ∨ k.toInt = 1 ∨ k.toInt = 6 → 0 ≤ va.toInt ∧ va.toInt < (σ.2.1 11 (σ.1 30).toNatClampNeg).toInt) ∧ (k.toInt ≠ 0 ∧ k.toInt ≠ 1 ∧ k.toInt ≠ 6 → 0 ≤ va.toInt ∧ va.toInt < (σ.2.1 12 (σ.1 30).toNatClampNeg).toInt)) := When.mo hw0 mo82
      have W85 : When τ78 (k.toInt = 2 ∨ k.toInt = 3 ∨ k.toInt = 4 ∨ k.toInt = 6 ∨ k.toInt = 7 → 0 ≤ vb.toInt ∧ vb.toInt < (σ.2.1 12 (σ.1 30).toNatClampNeg).toInt) := When.mo hw1 mo82
      have W86 : When τ78 (k.toInt = 5 → -99 ≤ vb.toInt ∧ vb.toInt ≤ 99 ∧ 1 ≤ vc.toInt ∧ vc.toInt ≤ 99) := When.mo hw2 mo82
      refine W.widen (k := 0) (n := 0) (Nat.le_of_ble_eq_true rfl) (Nat.le_of_ble_eq_true rfl) ?_
      refine lv_aload_n hx hb dX12_readStep_209 rfl (lv_at hl 0 rfl) ?_
      refine va_get (D := (dC, dI)) (ci := 12) (v := .ref (ad 20)) (C := RX12) (T := TX12) (N := 59) hx hb hts hin12 hown hK hP 0 rfl rfl 20 (Nat.le_of_ble_eq_true rfl) (ho (.fieldLink RX12 48 "NearEnoughModel" "sC" "[I") (List.mem_of_getElem? (i := 8) rfl)) (fun _ h9 => h9) rfl dX12_readStep_210 ?_
      refine lv_iload_n hx hb dX12_readStep_213 rfl (lv_at hl 2 rfl) ?_
      refine lv_aload_n hx hb dX12_readStep_214 rfl (lv_at hl 0 rfl) ?_
      refine zy_i (va_runV (As := []) (rest := [.int sx, .ref (ad 20)]) ⟨hx, hb, hml, hown, hts⟩ (n_aStep l dC dI h ad cl H.size τ78  hI80 (Lx.es Lτ78)) (cwV 0 hts gd_n_readStepV_304_n_aStep rfl rfl rfl dd_n_aStep ⟨Nat.le_of_ble_eq_true rfl, Nat.le_of_ble_eq_true rfl⟩) (preV hP hK hD hE (ci := 12) (q0 := 0) rfl rfl) rfl rfl hl.1 rfl (lv_room (Nat.le_of_ble_eq_true rfl)) dX12_readStep_215 ⟨Nat.le_of_ble_eq_true rfl, Nat.le_of_ble_eq_true rfl⟩) hD hS hA (fun z88 τ87 H locs hq hP hD hS => ?_)
      obtain ⟨hI89, hx90, f91, f92, f93, mo94, lx95⟩ := hq
      have Xτ87 : eqx [6, 7, 8, 9, 10, 4, 5, 17, 18, 19, 20, 21, 27, 28, 26, 12] τ87 σ := eqx.tr hx90 Xτ78 rg_238
      have Mτ87 : Mo τ87 σ := Mo.tr mo94 (fun h9 => Mτ78 h9)
      have Lτ87 : Lx τ87 σ := Lx.tr lx95 Lτ78
      have W96 : When τ87 ((k.toInt = 0 ∨ k.toInt = 1 ∨ k.toInt = 6 → 0 ≤ va.toInt ∧ va.toInt < (σ.2.1 11 (σ.1 30).toNatClampNeg).toInt) ∧ (k.toInt ≠ 0 ∧ k.toInt ≠ 1 ∧ k.toInt ≠ 6 → 0 ≤ va.toInt ∧ va.toInt < (σ.2.1 12 (σ.1 30).toNatClampNeg).toInt)) := When.mo W84 mo94
      have W97 : When τ87 (k.toInt = 2 ∨ k.toInt = 3 ∨ k.toInt = 4 ∨ k.toInt = 6 ∨ k.toInt = 7 → 0 ≤ vb.toInt ∧ vb.toInt < (σ.2.1 12 (σ.1 30).toNatClampNeg).toInt) := When.mo W85 mo94
      have W98 : When τ87 (k.toInt = 5 → -99 ≤ vb.toInt ∧ vb.toInt ≤ 99 ∧ 1 ≤ vc.toInt ∧ vc.toInt ≤ 99) := When.mo W86 mo94
      have W99 : When τ87 (0 ≤ z88.toInt ∧ z88.toInt < ((σ.2.1 12) ((σ.1 30)).toNatClampNeg).toInt) := When.cv f93 (((hx81 12 rg_110).2.1).trans (hT 12 rg_173 rg_174 rg_229)) (show τ78.1 30 = (σ.1 30) from ((hx81 30 rg_94).1).trans ((hxτ 30 rg_172).1))
      refine W.widen (k := 0) (n := 0) (Nat.le_of_ble_eq_true rfl) (Nat.le_of_ble_eq_true rfl) ?_
      have o35 : 0 ≤ sx.toInt := by omega
      have o36 : sx.toInt < ((24 : Nat) : Int) := by omega
      refine va_iast hx hb hK hP hD hS 12 11 rfl rfl (ti_inx o35 o36) dX12_readStep_218 (fun H locs hP hD hS => ?_)
      rw [wS20] at hP hD
      obtain ⟨τ100, eτ100⟩ : ∃ x9 : MS, x9 = sA τ87 20 (upd (τ87.2.1 20) (Int32.toNatClampNeg sx) z88) := ⟨_, rfl⟩
      have hP : va_P (dC, dI) vwCl (mW h ad cl τ100) H := by rw [eτ100]; exact hP
      have hD : va_D A (mW h ad cl τ100) := by rw [eτ100]; exact hD
      have o37 : ((-1) : Int) ≤ (z88 : Int32).toInt := by omega
      have o38 : (z88 : Int32).toInt ≤ 99 := by omega
      have hIτ100 : Inv τ100 := by rw [eτ100]; exact (Inv_sA1 hI89 (rgu (hI89.2 20) (show ((-1) : Int) ≤ (z88 : Int32).toInt ∧ (z88 : Int32).toInt ≤ 99 from ⟨o37, o38⟩)))
      have Xτ100 : eqx [6, 7, 8, 9, 10, 4, 5, 17, 18, 19, 20, 21, 27, 28, 26, 12] τ100 σ := (eqx.eq eτ100 (eqx.sA Xτ87 rg_239))
      have Mτ100 : Mo τ100 σ := Mo.eq eτ100 (fun h9 => Mτ87 h9)
      have Lτ100 : Lx τ100 σ := Lx.eq eτ100 Lτ87
      have W101 : When τ100 ((k.toInt = 0 ∨ k.toInt = 1 ∨ k.toInt = 6 → 0 ≤ va.toInt ∧ va.toInt < (σ.2.1 11 (σ.1 30).toNatClampNeg).toInt) ∧ (k.toInt ≠ 0 ∧ k.toInt ≠ 1 ∧ k.toInt ≠ 6 → 0 ≤ va.toInt ∧ va.toInt < (σ.2.1 12 (σ.1 30).toNatClampNeg).toInt)) := When.mo W96 (Mo.eq eτ100 (fun h9 => h9))
      have W102 : When τ100 (k.toInt = 2 ∨ k.toInt = 3 ∨ k.toInt = 4 ∨ k.toInt = 6 ∨ k.toInt = 7 → 0 ≤ vb.toInt ∧ vb.toInt < (σ.2.1 12 (σ.1 30).toNatClampNeg).toInt) := When.mo W97 (Mo.eq eτ100 (fun h9 => h9))
      have W103 : When τ100 (k.toInt = 5 → -99 ≤ vb.toInt ∧ vb.toInt ≤ 99 ∧ 1 ≤ vc.toInt ∧ vc.toInt ≤ 99) := When.mo W98 (Mo.eq eτ100 (fun h9 => h9))
      have W104 : When τ100 (0 ≤ z88.toInt ∧ z88.toInt < ((σ.2.1 12) ((σ.1 30)).toNatClampNeg).toInt) := When.mo W99 (Mo.eq eτ100 (fun h9 => h9))
      refine lv_aload_n hx hb dX12_readStep_219 rfl (lv_at hl 0 rfl) ?_
      refine lv_aload_n hx hb dX12_readStep_220 rfl (lv_at hl 0 rfl) ?_
      refine lv_ldc2 (v := (504363246962)) hx hb hown (ho (.constantLong RX12 177 (504363246962)) (List.mem_of_getElem? (i := 9) rfl)) dX12_readStep_221 ?_
      refine zy_i (va_runV (As := [.long 504363246962]) (rest := [.ref h]) ⟨hx, hb, hml, hown, hts⟩ (n_isWord l dC dI h ad cl H.size τ100 504363246962 hIτ100) (cwV 1 hts gd_n_readStepV_261_n_isWord rfl rfl rfl dd_n_isWord ⟨Nat.le_of_ble_eq_true rfl, Nat.le_of_ble_eq_true rfl⟩) (preV hP hK hD hE (ci := 12) (q0 := 0) rfl rfl) rfl rfl hl.1 rfl (lv_room (Nat.le_of_ble_eq_true rfl)) dX12_readStep_224 ⟨Nat.le_of_ble_eq_true rfl, Nat.le_of_ble_eq_true rfl⟩) hD hS hA (fun z106 τ105 H locs hq hP hD hS => ?_)
      obtain ⟨rfl, f107⟩ := hq
      refine W.widen (k := 0) (n := 0) (Nat.le_of_ble_eq_true rfl) (Nat.le_of_ble_eq_true rfl) ?_
      refine zy_v (va_runV (As := [.int z106]) (rest := []) ⟨hx, hb, hml, hown, hts⟩ (n_must l dC dI h ad cl H.size τ100 z106 hIτ100 (Lx.es Lτ100)) (cwV 1 hts gd_n_readStepV_278_n_must rfl rfl rfl dd_n_must ⟨Nat.le_of_ble_eq_true rfl, Nat.le_of_ble_eq_true rfl⟩) (preV hP hK hD hE (ci := 12) (q0 := 0) rfl rfl) rfl rfl hl.1 rfl (lv_room (Nat.le_of_ble_eq_true rfl)) dX12_readStep_227 ⟨Nat.le_of_ble_eq_true rfl, Nat.le_of_ble_eq_true rfl⟩) hD hS hA (fun τ108 H locs hq hP hD hS => ?_)
      obtain ⟨hI110, hx111, mo112, lx113⟩ := hq
      have Xτ108 : eqx [6, 7, 8, 9, 10, 4, 5, 17, 18, 19, 20, 21, 27, 28, 26, 12] τ108 σ := eqx.tr hx111 Xτ100 rg_238
      have Mτ108 : Mo τ108 σ := Mo.tr mo112 (fun h9 => Mτ100 h9)
      have Lτ108 : Lx τ108 σ := Lx.tr lx113 Lτ100
      have W114 : When τ108 ((k.toInt = 0 ∨ k.toInt = 1 ∨ k.toInt = 6 → 0 ≤ va.toInt ∧ va.toInt < (σ.2.1 11 (σ.1 30).toNatClampNeg).toInt) ∧ (k.toInt ≠ 0 ∧ k.toInt ≠ 1 ∧ k.toInt ≠ 6 → 0 ≤ va.toInt ∧ va.toInt < (σ.2.1 12 (σ.1 30).toNatClampNeg).toInt)) := When.mo W101 mo112
      have W115 : When τ108 (k.toInt = 2 ∨ k.toInt = 3 ∨ k.toInt = 4 ∨ k.toInt = 6 ∨ k.toInt = 7 → 0 ≤ vb.toInt ∧ vb.toInt < (σ.2.1 12 (σ.1 30).toNatClampNeg).toInt) := When.mo W102 mo112
      have W116 : When τ108 (k.toInt = 5 → -99 ≤ vb.toInt ∧ vb.toInt ≤ 99 ∧ 1 ≤ vc.toInt ∧ vc.toInt ≤ 99) := When.mo W103 mo112
      have W117 : When τ108 (0 ≤ z88.toInt ∧ z88.toInt < ((σ.2.1 12) ((σ.1 30)).toNatClampNeg).toInt) := When.mo W104 mo112
      refine W.widen (k := 0) (n := 0) (Nat.le_of_ble_eq_true rfl) (Nat.le_of_ble_eq_true rfl) ?_
      refine lv_aload_n hx hb dX12_readStep_230 rfl (lv_at hl 0 rfl) ?_
      refine va_get (D := (dC, dI)) (ci := 12) (v := .ref (ad 21)) (C := RX12) (T := TX12) (N := 59) hx hb hts hin12 hown hK hP 0 rfl rfl 21 (Nat.le_of_ble_eq_true rfl) (ho (.fieldLink RX12 51 "NearEnoughModel" "sD" "[I") (List.mem_of_getElem? (i := 10) rfl)) (fun _ h9 => h9) rfl dX12_readStep_231 ?_
      refine lv_iload_n hx hb dX12_readStep_234 rfl (lv_at hl 2 rfl) ?_
      refine lv_aload_n hx hb dX12_readStep_235 rfl (lv_at hl 0 rfl) ?_
      refine zy_i (va_runV (As := []) (rest := [.int sx, .ref (ad 21)]) ⟨hx, hb, hml, hown, hts⟩ (n_aStep l dC dI h ad cl H.size τ108  hI110 (Lx.es Lτ108)) (cwV 0 hts gd_n_readStepV_304_n_aStep rfl rfl rfl dd_n_aStep ⟨Nat.le_of_ble_eq_true rfl, Nat.le_of_ble_eq_true rfl⟩) (preV hP hK hD hE (ci := 12) (q0 := 0) rfl rfl) rfl rfl hl.1 rfl (lv_room (Nat.le_of_ble_eq_true rfl)) dX12_readStep_236 ⟨Nat.le_of_ble_eq_true rfl, Nat.le_of_ble_eq_true rfl⟩) hD hS hA (fun z119 τ118 H locs hq hP hD hS => ?_)
      obtain ⟨hI120, hx121, f122, f123, f124, mo125, lx126⟩ := hq
      have Xτ118 : eqx [6, 7, 8, 9, 10, 4, 5, 17, 18, 19, 20, 21, 27, 28, 26, 12] τ118 σ := eqx.tr hx121 Xτ108 rg_238
      have Mτ118 : Mo τ118 σ := Mo.tr mo125 (fun h9 => Mτ108 h9)
      have Lτ118 : Lx τ118 σ := Lx.tr lx126 Lτ108
      have W127 : When τ118 ((k.toInt = 0 ∨ k.toInt = 1 ∨ k.toInt = 6 → 0 ≤ va.toInt ∧ va.toInt < (σ.2.1 11 (σ.1 30).toNatClampNeg).toInt) ∧ (k.toInt ≠ 0 ∧ k.toInt ≠ 1 ∧ k.toInt ≠ 6 → 0 ≤ va.toInt ∧ va.toInt < (σ.2.1 12 (σ.1 30).toNatClampNeg).toInt)) := When.mo W114 mo125
      have W128 : When τ118 (k.toInt = 2 ∨ k.toInt = 3 ∨ k.toInt = 4 ∨ k.toInt = 6 ∨ k.toInt = 7 → 0 ≤ vb.toInt ∧ vb.toInt < (σ.2.1 12 (σ.1 30).toNatClampNeg).toInt) := When.mo W115 mo125
      have W129 : When τ118 (k.toInt = 5 → -99 ≤ vb.toInt ∧ vb.toInt ≤ 99 ∧ 1 ≤ vc.toInt ∧ vc.toInt ≤ 99) := When.mo W116 mo125
      have W130 : When τ118 (0 ≤ z88.toInt ∧ z88.toInt < ((σ.2.1 12) ((σ.1 30)).toNatClampNeg).toInt) := When.mo W117 mo125
      have W131 : When τ118 (0 ≤ z119.toInt ∧ z119.toInt < ((σ.2.1 12) ((σ.1 30)).toNatClampNeg).toInt) := When.cv f124 (((hx111 12 rg_110).2.1).trans ((congrArg (fun x9 : MS => x9.2.1 12) eτ100).trans ((tA rg_240).trans (((hx90 12 rg_110).2.1).trans (((hx81 12 rg_110).2.1).trans (hT 12 rg_173 rg_174 rg_229)))))) (show τ108.1 30 = (σ.1 30) from ((hx111 30 rg_94).1).trans (show τ100.1 30 = (σ.1 30) from (congrArg (fun x9 : MS => x9.1 30) eτ100).trans (show τ87.1 30 = (σ.1 30) from ((hx90 30 rg_94).1).trans (show τ78.1 30 = (σ.1 30) from ((hx81 30 rg_94).1).trans ((hxτ 30 rg_172).1)))))
      refine W.widen (k := 0) (n := 0) (Nat.le_of_ble_eq_true rfl) (Nat.le_of_ble_eq_true rfl) ?_
      refine va_iast hx hb hK hP hD hS 13 12 rfl rfl (ti_inx o35 o36) dX12_readStep_239 (fun H locs hP hD hS => ?_)
      rw [wS21] at hP hD
      obtain ⟨τ132, eτ132⟩ : ∃ x9 : MS, x9 = sA τ118 21 (upd (τ118.2.1 21) (Int32.toNatClampNeg sx) z119) := ⟨_, rfl⟩
      have hP : va_P (dC, dI) vwCl (mW h ad cl τ132) H := by rw [eτ132]; exact hP
      have hD : va_D A (mW h ad cl τ132) := by rw [eτ132]; exact hD
      have o39 : ((-1) : Int) ≤ (z119 : Int32).toInt := by omega
      have o40 : (z119 : Int32).toInt ≤ 11 := by omega
      have hIτ132 : Inv τ132 := by rw [eτ132]; exact (Inv_sA1 hI120 (rgu (hI120.2 21) (show ((-1) : Int) ≤ (z119 : Int32).toInt ∧ (z119 : Int32).toInt ≤ 11 from ⟨o39, o40⟩)))
      have Xτ132 : eqx [6, 7, 8, 9, 10, 4, 5, 17, 18, 19, 20, 21, 27, 28, 26, 12] τ132 σ := (eqx.eq eτ132 (eqx.sA Xτ118 rg_241))
      have Mτ132 : Mo τ132 σ := Mo.eq eτ132 (fun h9 => Mτ118 h9)
      have Lτ132 : Lx τ132 σ := Lx.eq eτ132 Lτ118
      have W133 : When τ132 ((k.toInt = 0 ∨ k.toInt = 1 ∨ k.toInt = 6 → 0 ≤ va.toInt ∧ va.toInt < (σ.2.1 11 (σ.1 30).toNatClampNeg).toInt) ∧ (k.toInt ≠ 0 ∧ k.toInt ≠ 1 ∧ k.toInt ≠ 6 → 0 ≤ va.toInt ∧ va.toInt < (σ.2.1 12 (σ.1 30).toNatClampNeg).toInt)) := When.mo W127 (Mo.eq eτ132 (fun h9 => h9))
      have W134 : When τ132 (k.toInt = 2 ∨ k.toInt = 3 ∨ k.toInt = 4 ∨ k.toInt = 6 ∨ k.toInt = 7 → 0 ≤ vb.toInt ∧ vb.toInt < (σ.2.1 12 (σ.1 30).toNatClampNeg).toInt) := When.mo W128 (Mo.eq eτ132 (fun h9 => h9))
      have W135 : When τ132 (k.toInt = 5 → -99 ≤ vb.toInt ∧ vb.toInt ≤ 99 ∧ 1 ≤ vc.toInt ∧ vc.toInt ≤ 99) := When.mo W129 (Mo.eq eτ132 (fun h9 => h9))
      have W136 : When τ132 (0 ≤ z88.toInt ∧ z88.toInt < ((σ.2.1 12) ((σ.1 30)).toNatClampNeg).toInt) := When.mo W130 (Mo.eq eτ132 (fun h9 => h9))
      have W137 : When τ132 (0 ≤ z119.toInt ∧ z119.toInt < ((σ.2.1 12) ((σ.1 30)).toNatClampNeg).toInt) := When.mo W131 (Mo.eq eτ132 (fun h9 => h9))
      have C11 : (τ132).2.1 11 = (σ.2.1 11) := ((congrArg (fun x9 : MS => x9.2.1 11) eτ132).trans ((tA rg_243).trans (((hx121 11 rg_104).2.1).trans (((hx111 11 rg_104).2.1).trans ((congrArg (fun x9 : MS => x9.2.1 11) eτ100).trans ((tA rg_242).trans (((hx90 11 rg_104).2.1).trans (((hx81 11 rg_104).2.1).trans (hT 11 rg_177 rg_178 rg_228)))))))))
      have C12 : (τ132).2.1 12 = (σ.2.1 12) := ((congrArg (fun x9 : MS => x9.2.1 12) eτ132).trans ((tA rg_244).trans (((hx121 12 rg_110).2.1).trans (((hx111 12 rg_110).2.1).trans ((congrArg (fun x9 : MS => x9.2.1 12) eτ100).trans ((tA rg_240).trans (((hx90 12 rg_110).2.1).trans (((hx81 12 rg_110).2.1).trans (hT 12 rg_173 rg_174 rg_229)))))))))
      have C13 : (τ132).2.1 13 = (σ.2.1 13) := ((congrArg (fun x9 : MS => x9.2.1 13) eτ132).trans ((tA rg_246).trans (((hx121 13 rg_116).2.1).trans (((hx111 13 rg_116).2.1).trans ((congrArg (fun x9 : MS => x9.2.1 13) eτ100).trans ((tA rg_245).trans (((hx90 13 rg_116).2.1).trans (((hx81 13 rg_116).2.1).trans (hT 13 rg_181 rg_182 rg_230)))))))))
      have C14 : (τ132).2.1 14 = (σ.2.1 14) := ((congrArg (fun x9 : MS => x9.2.1 14) eτ132).trans ((tA rg_248).trans (((hx121 14 rg_122).2.1).trans (((hx111 14 rg_122).2.1).trans ((congrArg (fun x9 : MS => x9.2.1 14) eτ100).trans ((tA rg_247).trans (((hx90 14 rg_122).2.1).trans (((hx81 14 rg_122).2.1).trans (hT 14 rg_185 rg_186 rg_231)))))))))
      have C15 : (τ132).2.1 15 = (σ.2.1 15) := ((congrArg (fun x9 : MS => x9.2.1 15) eτ132).trans ((tA rg_250).trans (((hx121 15 rg_100).2.1).trans (((hx111 15 rg_100).2.1).trans ((congrArg (fun x9 : MS => x9.2.1 15) eτ100).trans ((tA rg_249).trans (((hx90 15 rg_100).2.1).trans (((hx81 15 rg_100).2.1).trans (hT 15 rg_189 rg_190 rg_232)))))))))
      have C16 : (τ132).2.1 16 = (σ.2.1 16) := ((congrArg (fun x9 : MS => x9.2.1 16) eτ132).trans ((tA rg_252).trans (((hx121 16 rg_129).2.1).trans (((hx111 16 rg_129).2.1).trans ((congrArg (fun x9 : MS => x9.2.1 16) eτ100).trans ((tA rg_251).trans (((hx90 16 rg_129).2.1).trans (((hx81 16 rg_129).2.1).trans (hT 16 rg_193 rg_194 rg_233)))))))))
      have C17 : (τ132).2.1 17 = (upd (σ.2.1 17) (Int32.toNatClampNeg sx) k) := ((congrArg (fun x9 : MS => x9.2.1 17) eτ132).trans ((tA rg_254).trans (((hx121 17 rg_134).2.1).trans (((hx111 17 rg_134).2.1).trans ((congrArg (fun x9 : MS => x9.2.1 17) eτ100).trans ((tA rg_253).trans (((hx90 17 rg_134).2.1).trans (((hx81 17 rg_134).2.1).trans h17))))))))
      have C18 : (τ132).2.1 18 = (upd (σ.2.1 18) (Int32.toNatClampNeg sx) va) := ((congrArg (fun x9 : MS => x9.2.1 18) eτ132).trans ((tA rg_256).trans (((hx121 18 rg_140).2.1).trans (((hx111 18 rg_140).2.1).trans ((congrArg (fun x9 : MS => x9.2.1 18) eτ100).trans ((tA rg_255).trans (((hx90 18 rg_140).2.1).trans (((hx81 18 rg_140).2.1).trans h18))))))))
      have C19 : (τ132).2.1 19 = (upd (σ.2.1 19) (Int32.toNatClampNeg sx) vb) := ((congrArg (fun x9 : MS => x9.2.1 19) eτ132).trans ((tA rg_258).trans (((hx121 19 rg_146).2.1).trans (((hx111 19 rg_146).2.1).trans ((congrArg (fun x9 : MS => x9.2.1 19) eτ100).trans ((tA rg_257).trans (((hx90 19 rg_146).2.1).trans (((hx81 19 rg_146).2.1).trans h19))))))))
      have C20 : (τ132).2.1 20 = (upd (upd (σ.2.1 20) (Int32.toNatClampNeg sx) vc) (Int32.toNatClampNeg sx) z88) := ((congrArg (fun x9 : MS => x9.2.1 20) eτ132).trans ((tA rg_259).trans (((hx121 20 rg_152).2.1).trans (((hx111 20 rg_152).2.1).trans ((congrArg (fun x9 : MS => x9.2.1 20) eτ100).trans (tAe.trans (congrArg (fun f9 => (upd f9 (Int32.toNatClampNeg sx) z88)) (((hx90 20 rg_152).2.1).trans (((hx81 20 rg_152).2.1).trans h20)))))))))
      have C21 : (τ132).2.1 21 = (upd (σ.2.1 21) (Int32.toNatClampNeg sx) z119) := ((congrArg (fun x9 : MS => x9.2.1 21) eτ132).trans (tAe.trans (congrArg (fun f9 => (upd f9 (Int32.toNatClampNeg sx) z119)) (((hx121 21 rg_158).2.1).trans (((hx111 21 rg_158).2.1).trans ((congrArg (fun x9 : MS => x9.2.1 21) eτ100).trans ((tA rg_260).trans (((hx90 21 rg_158).2.1).trans (((hx81 21 rg_158).2.1).trans (hT 21 rg_234 rg_235 rg_236))))))))))
      have C22 : (τ132).2.1 22 = (σ.2.1 22) := ((congrArg (fun x9 : MS => x9.2.1 22) eτ132).trans ((tA rg_262).trans (((hx121 22 rg_164).2.1).trans (((hx111 22 rg_164).2.1).trans ((congrArg (fun x9 : MS => x9.2.1 22) eτ100).trans ((tA rg_261).trans (((hx90 22 rg_164).2.1).trans (((hx81 22 rg_164).2.1).trans (hT 22 rg_178 rg_202 rg_237)))))))))
      have N140 : When τ132 (k.toInt = 5 → -99 ≤ vb.toInt ∧ vb.toInt ≤ 99 ∧ 1 ≤ z88.toInt ∧ z88.toInt ≤ 99) := fun h9 => by have q0 := W133 h9; have q1 := W134 h9; have q2 := W135 h9; have q3 := W136 h9; have q4 := W137 h9; omega
      have N141 : When τ132 (k.toInt = 7 → 0 ≤ z88.toInt ∧ z88.toInt < (σ.2.1 12 (σ.1 30).toNatClampNeg).toInt ∧ 0 ≤ z119.toInt ∧ z119.toInt < (σ.2.1 12 (σ.1 30).toNatClampNeg).toInt) := fun h9 => by have q0 := W133 h9; have q1 := W134 h9; have q2 := W135 h9; have q3 := W136 h9; have q4 := W137 h9; omega
      have J142 : ∀ p9, p9 = 27 ∨ p9 = 28 → (τ132).2.2.1 p9 = σ.2.2.1 p9 := (fun p9 h9 => (congrArg (fun x9 : MS => x9.2.2.1 p9) eτ132).trans ((fun p9 h9 => ((hx121 p9 (rg_559 p9 h9)).2.2.1).trans ((fun p9 h9 => ((hx111 p9 (rg_559 p9 h9)).2.2.1).trans ((fun p9 h9 => (congrArg (fun x9 : MS => x9.2.2.1 p9) eτ100).trans ((fun p9 h9 => ((hx90 p9 (rg_559 p9 h9)).2.2.1).trans ((fun p9 h9 => ((hx81 p9 (rg_559 p9 h9)).2.2.1).trans (hJ p9 h9)) p9 h9)) p9 h9)) p9 h9)) p9 h9)) p9 h9))
      have o41 : sx.toInt = 12 * (σ.1 30).toInt + (σ.2.1 12 (σ.1 30).toNatClampNeg).toInt := by omega
      exact pt_240 τ132 sx pl ow va vb z88 z119 _ _ _ hIτ132 Xτ132 Mτ132 Lτ132 (show sx.toInt = 12 * (σ.1 30).toInt + (σ.2.1 12 (σ.1 30).toNatClampNeg).toInt from o41) (tabL 5 C11 C12 C13 C14 C15 C16 (Or.inl rg_223) (Or.inl rg_224) (Or.inl rg_225) (Or.inl rg_226) (Or.inl rg_227) C22) C17 C18 C19 (C20.trans upd_upd) C21 W133 W134 N140 N141 J142 hP hD hS (lv_sub hl [0, 1, 2, 3, 4] rfl)
  have pt_138 : ∀ (τ : MS) (sx : Int32) (pl : Int32) (ow : Int64) (va : Int32) (vb : Int32) (H : Heap) (locs : List Loc) (ls : Array Slot), (Inv τ) → (eqx [6, 7, 8, 9, 10, 4, 5, 17, 18, 19, 20, 21, 27, 28, 26, 12] τ σ) → (Mo τ σ) → (Lx τ σ) → (sx.toInt = 12 * (σ.1 30).toInt + (σ.2.1 12 (σ.1 30).toNatClampNeg).toInt) → (∀ p9, 11 ≤ p9 → p9 ≤ 22 → ¬ (17 ≤ p9 ∧ p9 ≤ 16 + 3) → τ.2.1 p9 = σ.2.1 p9) → (τ.2.1 17 = upd (σ.2.1 17) (Int32.toNatClampNeg sx) k) → (τ.2.1 18 = upd (σ.2.1 18) (Int32.toNatClampNeg sx) va) → (τ.2.1 19 = upd (σ.2.1 19) (Int32.toNatClampNeg sx) vb) → (When τ ((k.toInt = 0 ∨ k.toInt = 1 ∨ k.toInt = 6 → 0 ≤ va.toInt ∧ va.toInt < (σ.2.1 11 (σ.1 30).toNatClampNeg).toInt) ∧ (k.toInt ≠ 0 ∧ k.toInt ≠ 1 ∧ k.toInt ≠ 6 → 0 ≤ va.toInt ∧ va.toInt < (σ.2.1 12 (σ.1 30).toNatClampNeg).toInt))) → (When τ (k.toInt = 2 ∨ k.toInt = 3 ∨ k.toInt = 4 ∨ k.toInt = 6 ∨ k.toInt = 7 → 0 ≤ vb.toInt ∧ vb.toInt < (σ.2.1 12 (σ.1 30).toNatClampNeg).toInt)) → (∀ p9, p9 = 27 ∨ p9 = 28 → τ.2.2.1 p9 = σ.2.2.1 p9) → va_P (dC, dI) vwCl (mW h ad cl τ) H → va_D A (mW h ad cl τ) → va_S A s.heap H locs → lv_has ls 6 [(0, .ref h), (1, .int k), (2, .int sx), (3, .int pl), (4, .long ow)] → W p l e (headSpec vs_n_readStepV rm_n_readStepV).room s m #[Value.ref h, Value.int k] below meth c H locs 0 0 Q (F0 m 138 ls []) := by
    intro τ sx pl ow va vb H locs ls hIτ hxτ hmτ hgτ hR hT h17 h18 h19 hw0 hw1 hJ hP hD hS hl
    refine lv_iload_n hx hb dX12_readStep_138 rfl (lv_at hl 1 rfl) ?_
    refine lv_iconst (v := 5) hx hb dX12_readStep_139 rg_14 ?_
    refine lv_icmp_ne (tgt := 192) hx hb dX12_readStep_140 rfl (fun c143 => ?_) (fun c143 => ?_)
    · have tc143 := (show k.toInt ≠ 5 from ti_ne rfl rg_15 c143)
      have C11 : (τ).2.1 11 = (σ.2.1 11) := (hT 11 rg_177 rg_178 rg_263)
      have C12 : (τ).2.1 12 = (σ.2.1 12) := (hT 12 rg_173 rg_174 rg_264)
      have C13 : (τ).2.1 13 = (σ.2.1 13) := (hT 13 rg_181 rg_182 rg_265)
      have C14 : (τ).2.1 14 = (σ.2.1 14) := (hT 14 rg_185 rg_186 rg_266)
      have C15 : (τ).2.1 15 = (σ.2.1 15) := (hT 15 rg_189 rg_190 rg_267)
      have C16 : (τ).2.1 16 = (σ.2.1 16) := (hT 16 rg_193 rg_194 rg_268)
      have C17 : (τ).2.1 17 = (upd (σ.2.1 17) (Int32.toNatClampNeg sx) k) := h17
      have C18 : (τ).2.1 18 = (upd (σ.2.1 18) (Int32.toNatClampNeg sx) va) := h18
      have C19 : (τ).2.1 19 = (upd (σ.2.1 19) (Int32.toNatClampNeg sx) vb) := h19
      have C20 : (τ).2.1 20 = (σ.2.1 20) := (hT 20 rg_269 rg_270 rg_271)
      have C21 : (τ).2.1 21 = (σ.2.1 21) := (hT 21 rg_234 rg_235 rg_272)
      have C22 : (τ).2.1 22 = (σ.2.1 22) := (hT 22 rg_178 rg_202 rg_273)
      have N146 : When τ (k.toInt = 5 → -99 ≤ vb.toInt ∧ vb.toInt ≤ 99 ∧ 1 ≤ ((σ.2.1 20) (Int32.toNatClampNeg sx)).toInt ∧ ((σ.2.1 20) (Int32.toNatClampNeg sx)).toInt ≤ 99) := fun h9 => by have q0 := hw0 h9; have q1 := hw1 h9; omega
      have J147 : ∀ p9, p9 = 27 ∨ p9 = 28 → (τ).2.2.1 p9 = σ.2.2.1 p9 := hJ
      have o42 : sx.toInt = 12 * (σ.1 30).toInt + (σ.2.1 12 (σ.1 30).toNatClampNeg).toInt := by omega
      exact pt_192 τ sx pl ow va vb ((σ.2.1 20) (Int32.toNatClampNeg sx)) _ _ _ hIτ hxτ hmτ hgτ (show sx.toInt = 12 * (σ.1 30).toInt + (σ.2.1 12 (σ.1 30).toNatClampNeg).toInt from o42) (tabL 4 C11 C12 C13 C14 C15 C16 (Or.inl rg_274) (Or.inl rg_275) (Or.inl rg_276) (Or.inl rg_277) (Or.inr C21) C22) C17 C18 C19 (C20.trans upd_self) hw0 hw1 N146 J147 hP hD hS (lv_sub hl [0, 1, 2, 3, 4] rfl)
    · have tc143 := (show k.toInt = 5 from ti_eq rfl rg_15 c143)
      refine lv_aload_n hx hb dX12_readStep_143 rfl (lv_at hl 0 rfl) ?_
      refine lv_aload_n hx hb dX12_readStep_144 rfl (lv_at hl 0 rfl) ?_
      refine lv_ldc2 (v := (25209)) hx hb hown (ho (.constantLong RX12 165 (25209)) (List.mem_of_getElem? (i := 11) rfl)) dX12_readStep_145 ?_
      refine zy_i (va_runV (As := [.long 25209]) (rest := [.ref h]) ⟨hx, hb, hml, hown, hts⟩ (n_isWord l dC dI h ad cl H.size τ 25209 hIτ) (cwV 1 hts gd_n_readStepV_261_n_isWord rfl rfl rfl dd_n_isWord ⟨Nat.le_of_ble_eq_true rfl, Nat.le_of_ble_eq_true rfl⟩) (preV hP hK hD hE (ci := 12) (q0 := 0) rfl rfl) rfl rfl hl.1 rfl (lv_room (Nat.le_of_ble_eq_true rfl)) dX12_readStep_148 ⟨Nat.le_of_ble_eq_true rfl, Nat.le_of_ble_eq_true rfl⟩) hD hS hA (fun z149 τ148 H locs hq hP hD hS => ?_)
      obtain ⟨rfl, f150⟩ := hq
      refine W.widen (k := 0) (n := 0) (Nat.le_of_ble_eq_true rfl) (Nat.le_of_ble_eq_true rfl) ?_
      refine zy_v (va_runV (As := [.int z149]) (rest := []) ⟨hx, hb, hml, hown, hts⟩ (n_must l dC dI h ad cl H.size τ z149 hIτ (Lx.es hgτ)) (cwV 1 hts gd_n_readStepV_278_n_must rfl rfl rfl dd_n_must ⟨Nat.le_of_ble_eq_true rfl, Nat.le_of_ble_eq_true rfl⟩) (preV hP hK hD hE (ci := 12) (q0 := 0) rfl rfl) rfl rfl hl.1 rfl (lv_room (Nat.le_of_ble_eq_true rfl)) dX12_readStep_151 ⟨Nat.le_of_ble_eq_true rfl, Nat.le_of_ble_eq_true rfl⟩) hD hS hA (fun τ151 H locs hq hP hD hS => ?_)
      obtain ⟨hI153, hx154, mo155, lx156⟩ := hq
      have Xτ151 : eqx [6, 7, 8, 9, 10, 4, 5, 17, 18, 19, 20, 21, 27, 28, 26, 12] τ151 σ := eqx.tr hx154 hxτ rg_238
      have Mτ151 : Mo τ151 σ := Mo.tr mo155 (fun h9 => hmτ h9)
      have Lτ151 : Lx τ151 σ := Lx.tr lx156 hgτ
      have W157 : When τ151 ((k.toInt = 0 ∨ k.toInt = 1 ∨ k.toInt = 6 → 0 ≤ va.toInt ∧ va.toInt < (σ.2.1 11 (σ.1 30).toNatClampNeg).toInt) ∧ (k.toInt ≠ 0 ∧ k.toInt ≠ 1 ∧ k.toInt ≠ 6 → 0 ≤ va.toInt ∧ va.toInt < (σ.2.1 12 (σ.1 30).toNatClampNeg).toInt)) := When.mo hw0 mo155
      have W158 : When τ151 (k.toInt = 2 ∨ k.toInt = 3 ∨ k.toInt = 4 ∨ k.toInt = 6 ∨ k.toInt = 7 → 0 ≤ vb.toInt ∧ vb.toInt < (σ.2.1 12 (σ.1 30).toNatClampNeg).toInt) := When.mo hw1 mo155
      refine W.widen (k := 0) (n := 0) (Nat.le_of_ble_eq_true rfl) (Nat.le_of_ble_eq_true rfl) ?_
      refine lv_aload_n hx hb dX12_readStep_154 rfl (lv_at hl 0 rfl) ?_
      refine va_get (D := (dC, dI)) (ci := 12) (v := .ref (ad 19)) (C := RX12) (T := TX12) (N := 59) hx hb hts hin12 hown hK hP 0 rfl rfl 19 (Nat.le_of_ble_eq_true rfl) (ho (.fieldLink RX12 45 "NearEnoughModel" "sB" "[I") (List.mem_of_getElem? (i := 12) rfl)) (fun _ h9 => h9) rfl dX12_readStep_155 ?_
      refine lv_iload_n hx hb dX12_readStep_158 rfl (lv_at hl 2 rfl) ?_
      refine lv_aload_n hx hb dX12_readStep_159 rfl (lv_at hl 0 rfl) ?_
      refine lv_bipush (v := (-99)) hx hb dX12_readStep_160 rg_278 ?_
      refine lv_bipush (v := 99) hx hb dX12_readStep_162 rg_78 ?_
      have kk159 : ((-99) : Int32).toInt = (-99) := rg_279
      have kk160 : (99 : Int32).toInt = 99 := rg_79
      refine zy_i (va_runV (As := [.int (-99), .int 99]) (rest := [.int sx, .ref (ad 19)]) ⟨hx, hb, hml, hown, hts⟩ (n_signed l dC dI h ad cl H.size τ151 (-99) 99 hI153 (by decide) (Lx.es Lτ151)) (cwV 2 hts gd_n_readStepV_295_n_signed rfl rfl rfl dd_n_signed ⟨Nat.le_of_ble_eq_true rfl, Nat.le_of_ble_eq_true rfl⟩) (preV hP hK hD hE (ci := 12) (q0 := 0) rfl rfl) rfl rfl hl.1 rfl (lv_room (Nat.le_of_ble_eq_true rfl)) dX12_readStep_164 ⟨Nat.le_of_ble_eq_true rfl, Nat.le_of_ble_eq_true rfl⟩) hD hS hA (fun z162 τ161 H locs hq hP hD hS => ?_)
      obtain ⟨hI163, hx164, f165, f166, mo167, lx168⟩ := hq
      have Xτ161 : eqx [6, 7, 8, 9, 10, 4, 5, 17, 18, 19, 20, 21, 27, 28, 26, 12] τ161 σ := eqx.tr hx164 Xτ151 rg_238
      have Mτ161 : Mo τ161 σ := Mo.tr mo167 (fun h9 => Mτ151 h9)
      have Lτ161 : Lx τ161 σ := Lx.tr lx168 Lτ151
      have W169 : When τ161 ((k.toInt = 0 ∨ k.toInt = 1 ∨ k.toInt = 6 → 0 ≤ va.toInt ∧ va.toInt < (σ.2.1 11 (σ.1 30).toNatClampNeg).toInt) ∧ (k.toInt ≠ 0 ∧ k.toInt ≠ 1 ∧ k.toInt ≠ 6 → 0 ≤ va.toInt ∧ va.toInt < (σ.2.1 12 (σ.1 30).toNatClampNeg).toInt)) := When.mo W157 mo167
      have W170 : When τ161 (k.toInt = 2 ∨ k.toInt = 3 ∨ k.toInt = 4 ∨ k.toInt = 6 ∨ k.toInt = 7 → 0 ≤ vb.toInt ∧ vb.toInt < (σ.2.1 12 (σ.1 30).toNatClampNeg).toInt) := When.mo W158 mo167
      refine W.widen (k := 0) (n := 0) (Nat.le_of_ble_eq_true rfl) (Nat.le_of_ble_eq_true rfl) ?_
      have o43 : 0 ≤ sx.toInt := by omega
      have o44 : sx.toInt < ((24 : Nat) : Int) := by omega
      refine va_iast hx hb hK hP hD hS 11 10 rfl rfl (ti_inx o43 o44) dX12_readStep_167 (fun H locs hP hD hS => ?_)
      rw [wS19] at hP hD
      obtain ⟨τ171, eτ171⟩ : ∃ x9 : MS, x9 = sA τ161 19 (upd (τ161.2.1 19) (Int32.toNatClampNeg sx) z162) := ⟨_, rfl⟩
      have hP : va_P (dC, dI) vwCl (mW h ad cl τ171) H := by rw [eτ171]; exact hP
      have hD : va_D A (mW h ad cl τ171) := by rw [eτ171]; exact hD
      have o45 : ((-99) : Int) ≤ (z162 : Int32).toInt := by omega
      have o46 : (z162 : Int32).toInt ≤ 99 := by omega
      have hIτ171 : Inv τ171 := by rw [eτ171]; exact (Inv_sA1 hI163 (rgu (hI163.2 19) (show ((-99) : Int) ≤ (z162 : Int32).toInt ∧ (z162 : Int32).toInt ≤ 99 from ⟨o45, o46⟩)))
      have Xτ171 : eqx [6, 7, 8, 9, 10, 4, 5, 17, 18, 19, 20, 21, 27, 28, 26, 12] τ171 σ := (eqx.eq eτ171 (eqx.sA Xτ161 rg_280))
      have Mτ171 : Mo τ171 σ := Mo.eq eτ171 (fun h9 => Mτ161 h9)
      have Lτ171 : Lx τ171 σ := Lx.eq eτ171 Lτ161
      have W172 : When τ171 ((k.toInt = 0 ∨ k.toInt = 1 ∨ k.toInt = 6 → 0 ≤ va.toInt ∧ va.toInt < (σ.2.1 11 (σ.1 30).toNatClampNeg).toInt) ∧ (k.toInt ≠ 0 ∧ k.toInt ≠ 1 ∧ k.toInt ≠ 6 → 0 ≤ va.toInt ∧ va.toInt < (σ.2.1 12 (σ.1 30).toNatClampNeg).toInt)) := When.mo W169 (Mo.eq eτ171 (fun h9 => h9))
      have W173 : When τ171 (k.toInt = 2 ∨ k.toInt = 3 ∨ k.toInt = 4 ∨ k.toInt = 6 ∨ k.toInt = 7 → 0 ≤ vb.toInt ∧ vb.toInt < (σ.2.1 12 (σ.1 30).toNatClampNeg).toInt) := When.mo W170 (Mo.eq eτ171 (fun h9 => h9))
      refine lv_aload_n hx hb dX12_readStep_168 rfl (lv_at hl 0 rfl) ?_
      refine lv_aload_n hx hb dX12_readStep_169 rfl (lv_at hl 0 rfl) ?_
      refine lv_ldc2 (v := (1870030194)) hx hb hown (ho (.constantLong RX12 167 (1870030194)) (List.mem_of_getElem? (i := 13) rfl)) dX12_readStep_170 ?_
      refine zy_i (va_runV (As := [.long 1870030194]) (rest := [.ref h]) ⟨hx, hb, hml, hown, hts⟩ (n_isWord l dC dI h ad cl H.size τ171 1870030194 hIτ171) (cwV 1 hts gd_n_readStepV_261_n_isWord rfl rfl rfl dd_n_isWord ⟨Nat.le_of_ble_eq_true rfl, Nat.le_of_ble_eq_true rfl⟩) (preV hP hK hD hE (ci := 12) (q0 := 0) rfl rfl) rfl rfl hl.1 rfl (lv_room (Nat.le_of_ble_eq_true rfl)) dX12_readStep_173 ⟨Nat.le_of_ble_eq_true rfl, Nat.le_of_ble_eq_true rfl⟩) hD hS hA (fun z175 τ174 H locs hq hP hD hS => ?_)
      obtain ⟨rfl, f176⟩ := hq
      refine W.widen (k := 0) (n := 0) (Nat.le_of_ble_eq_true rfl) (Nat.le_of_ble_eq_true rfl) ?_
      refine zy_v (va_runV (As := [.int z175]) (rest := []) ⟨hx, hb, hml, hown, hts⟩ (n_must l dC dI h ad cl H.size τ171 z175 hIτ171 (Lx.es Lτ171)) (cwV 1 hts gd_n_readStepV_278_n_must rfl rfl rfl dd_n_must ⟨Nat.le_of_ble_eq_true rfl, Nat.le_of_ble_eq_true rfl⟩) (preV hP hK hD hE (ci := 12) (q0 := 0) rfl rfl) rfl rfl hl.1 rfl (lv_room (Nat.le_of_ble_eq_true rfl)) dX12_readStep_176 ⟨Nat.le_of_ble_eq_true rfl, Nat.le_of_ble_eq_true rfl⟩) hD hS hA (fun τ177 H locs hq hP hD hS => ?_)
      obtain ⟨hI179, hx180, mo181, lx182⟩ := hq
      have Xτ177 : eqx [6, 7, 8, 9, 10, 4, 5, 17, 18, 19, 20, 21, 27, 28, 26, 12] τ177 σ := eqx.tr hx180 Xτ171 rg_238
      have Mτ177 : Mo τ177 σ := Mo.tr mo181 (fun h9 => Mτ171 h9)
      have Lτ177 : Lx τ177 σ := Lx.tr lx182 Lτ171
      have W183 : When τ177 ((k.toInt = 0 ∨ k.toInt = 1 ∨ k.toInt = 6 → 0 ≤ va.toInt ∧ va.toInt < (σ.2.1 11 (σ.1 30).toNatClampNeg).toInt) ∧ (k.toInt ≠ 0 ∧ k.toInt ≠ 1 ∧ k.toInt ≠ 6 → 0 ≤ va.toInt ∧ va.toInt < (σ.2.1 12 (σ.1 30).toNatClampNeg).toInt)) := When.mo W172 mo181
      have W184 : When τ177 (k.toInt = 2 ∨ k.toInt = 3 ∨ k.toInt = 4 ∨ k.toInt = 6 ∨ k.toInt = 7 → 0 ≤ vb.toInt ∧ vb.toInt < (σ.2.1 12 (σ.1 30).toNatClampNeg).toInt) := When.mo W173 mo181
      refine W.widen (k := 0) (n := 0) (Nat.le_of_ble_eq_true rfl) (Nat.le_of_ble_eq_true rfl) ?_
      refine lv_aload_n hx hb dX12_readStep_179 rfl (lv_at hl 0 rfl) ?_
      refine va_get (D := (dC, dI)) (ci := 12) (v := .ref (ad 20)) (C := RX12) (T := TX12) (N := 59) hx hb hts hin12 hown hK hP 0 rfl rfl 20 (Nat.le_of_ble_eq_true rfl) (ho (.fieldLink RX12 48 "NearEnoughModel" "sC" "[I") (List.mem_of_getElem? (i := 8) rfl)) (fun _ h9 => h9) rfl dX12_readStep_180 ?_
      refine lv_iload_n hx hb dX12_readStep_183 rfl (lv_at hl 2 rfl) ?_
      refine lv_aload_n hx hb dX12_readStep_184 rfl (lv_at hl 0 rfl) ?_
      refine lv_iconst (v := 1) hx hb dX12_readStep_185 rg_6 ?_
      refine lv_bipush (v := 99) hx hb dX12_readStep_186 rg_78 ?_
      have kk185 : (1 : Int32).toInt = 1 := rg_18
      have kk186 : (99 : Int32).toInt = 99 := rg_79
      refine zy_i (va_runV (As := [.int 1, .int 99]) (rest := [.int sx, .ref (ad 20)]) ⟨hx, hb, hml, hown, hts⟩ (n_numeral l dC dI h ad cl H.size τ177 1 99 hI179 (by decide) (Lx.es Lτ177)) (cwV 2 hts gd_n_readStepV_291_n_numeral rfl rfl rfl dd_n_numeral ⟨Nat.le_of_ble_eq_true rfl, Nat.le_of_ble_eq_true rfl⟩) (preV hP hK hD hE (ci := 12) (q0 := 0) rfl rfl) rfl rfl hl.1 rfl (lv_room (Nat.le_of_ble_eq_true rfl)) dX12_readStep_188 ⟨Nat.le_of_ble_eq_true rfl, Nat.le_of_ble_eq_true rfl⟩) hD hS hA (fun z188 τ187 H locs hq hP hD hS => ?_)
      obtain ⟨hI189, hx190, f191, f192, mo193, lx194⟩ := hq
      have Xτ187 : eqx [6, 7, 8, 9, 10, 4, 5, 17, 18, 19, 20, 21, 27, 28, 26, 12] τ187 σ := eqx.tr hx190 Xτ177 rg_238
      have Mτ187 : Mo τ187 σ := Mo.tr mo193 (fun h9 => Mτ177 h9)
      have Lτ187 : Lx τ187 σ := Lx.tr lx194 Lτ177
      have W195 : When τ187 ((k.toInt = 0 ∨ k.toInt = 1 ∨ k.toInt = 6 → 0 ≤ va.toInt ∧ va.toInt < (σ.2.1 11 (σ.1 30).toNatClampNeg).toInt) ∧ (k.toInt ≠ 0 ∧ k.toInt ≠ 1 ∧ k.toInt ≠ 6 → 0 ≤ va.toInt ∧ va.toInt < (σ.2.1 12 (σ.1 30).toNatClampNeg).toInt)) := When.mo W183 mo193
      have W196 : When τ187 (k.toInt = 2 ∨ k.toInt = 3 ∨ k.toInt = 4 ∨ k.toInt = 6 ∨ k.toInt = 7 → 0 ≤ vb.toInt ∧ vb.toInt < (σ.2.1 12 (σ.1 30).toNatClampNeg).toInt) := When.mo W184 mo193
      refine W.widen (k := 0) (n := 0) (Nat.le_of_ble_eq_true rfl) (Nat.le_of_ble_eq_true rfl) ?_
      refine va_iast hx hb hK hP hD hS 12 11 rfl rfl (ti_inx o43 o44) dX12_readStep_191 (fun H locs hP hD hS => ?_)
      rw [wS20] at hP hD
      obtain ⟨τ197, eτ197⟩ : ∃ x9 : MS, x9 = sA τ187 20 (upd (τ187.2.1 20) (Int32.toNatClampNeg sx) z188) := ⟨_, rfl⟩
      have hP : va_P (dC, dI) vwCl (mW h ad cl τ197) H := by rw [eτ197]; exact hP
      have hD : va_D A (mW h ad cl τ197) := by rw [eτ197]; exact hD
      have o47 : ((-1) : Int) ≤ (z188 : Int32).toInt := by omega
      have o48 : (z188 : Int32).toInt ≤ 99 := by omega
      have hIτ197 : Inv τ197 := by rw [eτ197]; exact (Inv_sA1 hI189 (rgu (hI189.2 20) (show ((-1) : Int) ≤ (z188 : Int32).toInt ∧ (z188 : Int32).toInt ≤ 99 from ⟨o47, o48⟩)))
      have Xτ197 : eqx [6, 7, 8, 9, 10, 4, 5, 17, 18, 19, 20, 21, 27, 28, 26, 12] τ197 σ := (eqx.eq eτ197 (eqx.sA Xτ187 rg_239))
      have Mτ197 : Mo τ197 σ := Mo.eq eτ197 (fun h9 => Mτ187 h9)
      have Lτ197 : Lx τ197 σ := Lx.eq eτ197 Lτ187
      have W198 : When τ197 ((k.toInt = 0 ∨ k.toInt = 1 ∨ k.toInt = 6 → 0 ≤ va.toInt ∧ va.toInt < (σ.2.1 11 (σ.1 30).toNatClampNeg).toInt) ∧ (k.toInt ≠ 0 ∧ k.toInt ≠ 1 ∧ k.toInt ≠ 6 → 0 ≤ va.toInt ∧ va.toInt < (σ.2.1 12 (σ.1 30).toNatClampNeg).toInt)) := When.mo W195 (Mo.eq eτ197 (fun h9 => h9))
      have W199 : When τ197 (k.toInt = 2 ∨ k.toInt = 3 ∨ k.toInt = 4 ∨ k.toInt = 6 ∨ k.toInt = 7 → 0 ≤ vb.toInt ∧ vb.toInt < (σ.2.1 12 (σ.1 30).toNatClampNeg).toInt) := When.mo W196 (Mo.eq eτ197 (fun h9 => h9))
      have C11 : (τ197).2.1 11 = (σ.2.1 11) := ((congrArg (fun x9 : MS => x9.2.1 11) eτ197).trans ((tA rg_242).trans (((hx190 11 rg_104).2.1).trans (((hx180 11 rg_104).2.1).trans ((congrArg (fun x9 : MS => x9.2.1 11) eτ171).trans ((tA rg_281).trans (((hx164 11 rg_104).2.1).trans (((hx154 11 rg_104).2.1).trans (hT 11 rg_177 rg_178 rg_263)))))))))
      have C12 : (τ197).2.1 12 = (σ.2.1 12) := ((congrArg (fun x9 : MS => x9.2.1 12) eτ197).trans ((tA rg_240).trans (((hx190 12 rg_110).2.1).trans (((hx180 12 rg_110).2.1).trans ((congrArg (fun x9 : MS => x9.2.1 12) eτ171).trans ((tA rg_282).trans (((hx164 12 rg_110).2.1).trans (((hx154 12 rg_110).2.1).trans (hT 12 rg_173 rg_174 rg_264)))))))))
      have C13 : (τ197).2.1 13 = (σ.2.1 13) := ((congrArg (fun x9 : MS => x9.2.1 13) eτ197).trans ((tA rg_245).trans (((hx190 13 rg_116).2.1).trans (((hx180 13 rg_116).2.1).trans ((congrArg (fun x9 : MS => x9.2.1 13) eτ171).trans ((tA rg_283).trans (((hx164 13 rg_116).2.1).trans (((hx154 13 rg_116).2.1).trans (hT 13 rg_181 rg_182 rg_265)))))))))
      have C14 : (τ197).2.1 14 = (σ.2.1 14) := ((congrArg (fun x9 : MS => x9.2.1 14) eτ197).trans ((tA rg_247).trans (((hx190 14 rg_122).2.1).trans (((hx180 14 rg_122).2.1).trans ((congrArg (fun x9 : MS => x9.2.1 14) eτ171).trans ((tA rg_284).trans (((hx164 14 rg_122).2.1).trans (((hx154 14 rg_122).2.1).trans (hT 14 rg_185 rg_186 rg_266)))))))))
      have C15 : (τ197).2.1 15 = (σ.2.1 15) := ((congrArg (fun x9 : MS => x9.2.1 15) eτ197).trans ((tA rg_249).trans (((hx190 15 rg_100).2.1).trans (((hx180 15 rg_100).2.1).trans ((congrArg (fun x9 : MS => x9.2.1 15) eτ171).trans ((tA rg_285).trans (((hx164 15 rg_100).2.1).trans (((hx154 15 rg_100).2.1).trans (hT 15 rg_189 rg_190 rg_267)))))))))
      have C16 : (τ197).2.1 16 = (σ.2.1 16) := ((congrArg (fun x9 : MS => x9.2.1 16) eτ197).trans ((tA rg_251).trans (((hx190 16 rg_129).2.1).trans (((hx180 16 rg_129).2.1).trans ((congrArg (fun x9 : MS => x9.2.1 16) eτ171).trans ((tA rg_286).trans (((hx164 16 rg_129).2.1).trans (((hx154 16 rg_129).2.1).trans (hT 16 rg_193 rg_194 rg_268)))))))))
      have C17 : (τ197).2.1 17 = (upd (σ.2.1 17) (Int32.toNatClampNeg sx) k) := ((congrArg (fun x9 : MS => x9.2.1 17) eτ197).trans ((tA rg_253).trans (((hx190 17 rg_134).2.1).trans (((hx180 17 rg_134).2.1).trans ((congrArg (fun x9 : MS => x9.2.1 17) eτ171).trans ((tA rg_287).trans (((hx164 17 rg_134).2.1).trans (((hx154 17 rg_134).2.1).trans h17))))))))
      have C18 : (τ197).2.1 18 = (upd (σ.2.1 18) (Int32.toNatClampNeg sx) va) := ((congrArg (fun x9 : MS => x9.2.1 18) eτ197).trans ((tA rg_255).trans (((hx190 18 rg_140).2.1).trans (((hx180 18 rg_140).2.1).trans ((congrArg (fun x9 : MS => x9.2.1 18) eτ171).trans ((tA rg_288).trans (((hx164 18 rg_140).2.1).trans (((hx154 18 rg_140).2.1).trans h18))))))))
      have C19 : (τ197).2.1 19 = (upd (upd (σ.2.1 19) (Int32.toNatClampNeg sx) vb) (Int32.toNatClampNeg sx) z162) := ((congrArg (fun x9 : MS => x9.2.1 19) eτ197).trans ((tA rg_257).trans (((hx190 19 rg_146).2.1).trans (((hx180 19 rg_146).2.1).trans ((congrArg (fun x9 : MS => x9.2.1 19) eτ171).trans (tAe.trans (congrArg (fun f9 => (upd f9 (Int32.toNatClampNeg sx) z162)) (((hx164 19 rg_146).2.1).trans (((hx154 19 rg_146).2.1).trans h19)))))))))
      have C20 : (τ197).2.1 20 = (upd (σ.2.1 20) (Int32.toNatClampNeg sx) z188) := ((congrArg (fun x9 : MS => x9.2.1 20) eτ197).trans (tAe.trans (congrArg (fun f9 => (upd f9 (Int32.toNatClampNeg sx) z188)) (((hx190 20 rg_152).2.1).trans (((hx180 20 rg_152).2.1).trans ((congrArg (fun x9 : MS => x9.2.1 20) eτ171).trans ((tA rg_289).trans (((hx164 20 rg_152).2.1).trans (((hx154 20 rg_152).2.1).trans (hT 20 rg_269 rg_270 rg_271))))))))))
      have C21 : (τ197).2.1 21 = (σ.2.1 21) := ((congrArg (fun x9 : MS => x9.2.1 21) eτ197).trans ((tA rg_260).trans (((hx190 21 rg_158).2.1).trans (((hx180 21 rg_158).2.1).trans ((congrArg (fun x9 : MS => x9.2.1 21) eτ171).trans ((tA rg_290).trans (((hx164 21 rg_158).2.1).trans (((hx154 21 rg_158).2.1).trans (hT 21 rg_234 rg_235 rg_272)))))))))
      have C22 : (τ197).2.1 22 = (σ.2.1 22) := ((congrArg (fun x9 : MS => x9.2.1 22) eτ197).trans ((tA rg_261).trans (((hx190 22 rg_164).2.1).trans (((hx180 22 rg_164).2.1).trans ((congrArg (fun x9 : MS => x9.2.1 22) eτ171).trans ((tA rg_291).trans (((hx164 22 rg_164).2.1).trans (((hx154 22 rg_164).2.1).trans (hT 22 rg_178 rg_202 rg_273)))))))))
      have N201 : When τ197 (k.toInt = 2 ∨ k.toInt = 3 ∨ k.toInt = 4 ∨ k.toInt = 6 ∨ k.toInt = 7 → 0 ≤ z162.toInt ∧ z162.toInt < (σ.2.1 12 (σ.1 30).toNatClampNeg).toInt) := fun h9 => by have q0 := W198 h9; have q1 := W199 h9; omega
      have N202 : When τ197 (k.toInt = 5 → -99 ≤ z162.toInt ∧ z162.toInt ≤ 99 ∧ 1 ≤ z188.toInt ∧ z188.toInt ≤ 99) := fun h9 => by have q0 := W198 h9; have q1 := W199 h9; omega
      have J203 : ∀ p9, p9 = 27 ∨ p9 = 28 → (τ197).2.2.1 p9 = σ.2.2.1 p9 := (fun p9 h9 => (congrArg (fun x9 : MS => x9.2.2.1 p9) eτ197).trans ((fun p9 h9 => ((hx190 p9 (rg_559 p9 h9)).2.2.1).trans ((fun p9 h9 => ((hx180 p9 (rg_559 p9 h9)).2.2.1).trans ((fun p9 h9 => (congrArg (fun x9 : MS => x9.2.2.1 p9) eτ171).trans ((fun p9 h9 => ((hx164 p9 (rg_559 p9 h9)).2.2.1).trans ((fun p9 h9 => ((hx154 p9 (rg_559 p9 h9)).2.2.1).trans (hJ p9 h9)) p9 h9)) p9 h9)) p9 h9)) p9 h9)) p9 h9))
      have o49 : sx.toInt = 12 * (σ.1 30).toInt + (σ.2.1 12 (σ.1 30).toNatClampNeg).toInt := by omega
      exact pt_192 τ197 sx pl ow va z162 z188 _ _ _ hIτ197 Xτ197 Mτ197 Lτ197 (show sx.toInt = 12 * (σ.1 30).toInt + (σ.2.1 12 (σ.1 30).toNatClampNeg).toInt from o49) (tabL 4 C11 C12 C13 C14 C15 C16 (Or.inl rg_274) (Or.inl rg_275) (Or.inl rg_276) (Or.inl rg_277) (Or.inr C21) C22) C17 C18 (C19.trans upd_upd) C20 W198 N201 N202 J203 hP hD hS (lv_sub hl [0, 1, 2, 3, 4] rfl)
  have pt_118 : ∀ (τ : MS) (sx : Int32) (pl : Int32) (ow : Int64) (va : Int32) (H : Heap) (locs : List Loc) (ls : Array Slot), (Inv τ) → (eqx [6, 7, 8, 9, 10, 4, 5, 17, 18, 19, 20, 21, 27, 28, 26, 12] τ σ) → (Mo τ σ) → (Lx τ σ) → (sx.toInt = 12 * (σ.1 30).toInt + (σ.2.1 12 (σ.1 30).toNatClampNeg).toInt) → (∀ p9, 11 ≤ p9 → p9 ≤ 22 → ¬ (17 ≤ p9 ∧ p9 ≤ 16 + 2) → τ.2.1 p9 = σ.2.1 p9) → (τ.2.1 17 = upd (σ.2.1 17) (Int32.toNatClampNeg sx) k) → (τ.2.1 18 = upd (σ.2.1 18) (Int32.toNatClampNeg sx) va) → (When τ ((k.toInt = 0 ∨ k.toInt = 1 ∨ k.toInt = 6 → 0 ≤ va.toInt ∧ va.toInt < (σ.2.1 11 (σ.1 30).toNatClampNeg).toInt) ∧ (k.toInt ≠ 0 ∧ k.toInt ≠ 1 ∧ k.toInt ≠ 6 → 0 ≤ va.toInt ∧ va.toInt < (σ.2.1 12 (σ.1 30).toNatClampNeg).toInt))) → (∀ p9, p9 = 27 ∨ p9 = 28 → τ.2.2.1 p9 = σ.2.2.1 p9) → va_P (dC, dI) vwCl (mW h ad cl τ) H → va_D A (mW h ad cl τ) → va_S A s.heap H locs → lv_has ls 6 [(0, .ref h), (1, .int k), (2, .int sx), (3, .int pl), (4, .long ow)] → W p l e (headSpec vs_n_readStepV rm_n_readStepV).room s m #[Value.ref h, Value.int k] below meth c H locs 0 0 Q (F0 m 118 ls []) := by
    intro τ sx pl ow va H locs ls hIτ hxτ hmτ hgτ hR hT h17 h18 hw0 hJ hP hD hS hl
    refine lv_iload_n hx hb dX12_readStep_118 rfl (lv_at hl 1 rfl) ?_
    refine lv_iconst (v := 2) hx hb dX12_readStep_119 rg_19 ?_
    refine lv_icmp_lt (tgt := 138) hx hb dX12_readStep_120 rfl (fun c204 => ?_) (fun c204 => ?_)
    · have tc204 := (show k.toInt < 2 from ti_lt rfl rg_20 c204)
      have C11 : (τ).2.1 11 = (σ.2.1 11) := (hT 11 rg_177 rg_178 rg_292)
      have C12 : (τ).2.1 12 = (σ.2.1 12) := (hT 12 rg_173 rg_174 rg_293)
      have C13 : (τ).2.1 13 = (σ.2.1 13) := (hT 13 rg_181 rg_182 rg_294)
      have C14 : (τ).2.1 14 = (σ.2.1 14) := (hT 14 rg_185 rg_186 rg_295)
      have C15 : (τ).2.1 15 = (σ.2.1 15) := (hT 15 rg_189 rg_190 rg_296)
      have C16 : (τ).2.1 16 = (σ.2.1 16) := (hT 16 rg_193 rg_194 rg_297)
      have C17 : (τ).2.1 17 = (upd (σ.2.1 17) (Int32.toNatClampNeg sx) k) := h17
      have C18 : (τ).2.1 18 = (upd (σ.2.1 18) (Int32.toNatClampNeg sx) va) := h18
      have C19 : (τ).2.1 19 = (σ.2.1 19) := (hT 19 rg_298 rg_299 rg_300)
      have C20 : (τ).2.1 20 = (σ.2.1 20) := (hT 20 rg_269 rg_270 rg_301)
      have C21 : (τ).2.1 21 = (σ.2.1 21) := (hT 21 rg_234 rg_235 rg_302)
      have C22 : (τ).2.1 22 = (σ.2.1 22) := (hT 22 rg_178 rg_202 rg_303)
      have N206 : When τ (k.toInt = 2 ∨ k.toInt = 3 ∨ k.toInt = 4 ∨ k.toInt = 6 ∨ k.toInt = 7 → 0 ≤ ((σ.2.1 19) (Int32.toNatClampNeg sx)).toInt ∧ ((σ.2.1 19) (Int32.toNatClampNeg sx)).toInt < (σ.2.1 12 (σ.1 30).toNatClampNeg).toInt) := fun h9 => by have q0 := hw0 h9; omega
      have J207 : ∀ p9, p9 = 27 ∨ p9 = 28 → (τ).2.2.1 p9 = σ.2.2.1 p9 := hJ
      have o50 : sx.toInt = 12 * (σ.1 30).toInt + (σ.2.1 12 (σ.1 30).toNatClampNeg).toInt := by omega
      exact pt_138 τ sx pl ow va ((σ.2.1 19) (Int32.toNatClampNeg sx)) _ _ _ hIτ hxτ hmτ hgτ (show sx.toInt = 12 * (σ.1 30).toInt + (σ.2.1 12 (σ.1 30).toNatClampNeg).toInt from o50) (tabL 3 C11 C12 C13 C14 C15 C16 (Or.inl rg_304) (Or.inl rg_305) (Or.inl rg_306) (Or.inr C20) (Or.inr C21) C22) C17 C18 (C19.trans upd_self) hw0 N206 J207 hP hD hS (lv_sub hl [0, 1, 2, 3, 4] rfl)
    · have tc204 := (show 2 ≤ k.toInt from ti_nlt rfl rg_20 c204)
      refine lv_iload_n hx hb dX12_readStep_123 rfl (lv_at hl 1 rfl) ?_
      refine lv_iconst (v := 5) hx hb dX12_readStep_124 rg_14 ?_
      refine lv_icmp_eq (tgt := 138) hx hb dX12_readStep_125 rfl (fun c208 => ?_) (fun c208 => ?_)
      · have tc208 := (show k.toInt = 5 from ti_eq rfl rg_15 c208)
        have C11 : (τ).2.1 11 = (σ.2.1 11) := (hT 11 rg_177 rg_178 rg_292)
        have C12 : (τ).2.1 12 = (σ.2.1 12) := (hT 12 rg_173 rg_174 rg_293)
        have C13 : (τ).2.1 13 = (σ.2.1 13) := (hT 13 rg_181 rg_182 rg_294)
        have C14 : (τ).2.1 14 = (σ.2.1 14) := (hT 14 rg_185 rg_186 rg_295)
        have C15 : (τ).2.1 15 = (σ.2.1 15) := (hT 15 rg_189 rg_190 rg_296)
        have C16 : (τ).2.1 16 = (σ.2.1 16) := (hT 16 rg_193 rg_194 rg_297)
        have C17 : (τ).2.1 17 = (upd (σ.2.1 17) (Int32.toNatClampNeg sx) k) := h17
        have C18 : (τ).2.1 18 = (upd (σ.2.1 18) (Int32.toNatClampNeg sx) va) := h18
        have C19 : (τ).2.1 19 = (σ.2.1 19) := (hT 19 rg_298 rg_299 rg_300)
        have C20 : (τ).2.1 20 = (σ.2.1 20) := (hT 20 rg_269 rg_270 rg_301)
        have C21 : (τ).2.1 21 = (σ.2.1 21) := (hT 21 rg_234 rg_235 rg_302)
        have C22 : (τ).2.1 22 = (σ.2.1 22) := (hT 22 rg_178 rg_202 rg_303)
        have N210 : When τ (k.toInt = 2 ∨ k.toInt = 3 ∨ k.toInt = 4 ∨ k.toInt = 6 ∨ k.toInt = 7 → 0 ≤ ((σ.2.1 19) (Int32.toNatClampNeg sx)).toInt ∧ ((σ.2.1 19) (Int32.toNatClampNeg sx)).toInt < (σ.2.1 12 (σ.1 30).toNatClampNeg).toInt) := fun h9 => by have q0 := hw0 h9; omega
        have J211 : ∀ p9, p9 = 27 ∨ p9 = 28 → (τ).2.2.1 p9 = σ.2.2.1 p9 := hJ
        have o51 : sx.toInt = 12 * (σ.1 30).toInt + (σ.2.1 12 (σ.1 30).toNatClampNeg).toInt := by omega
        exact pt_138 τ sx pl ow va ((σ.2.1 19) (Int32.toNatClampNeg sx)) _ _ _ hIτ hxτ hmτ hgτ (show sx.toInt = 12 * (σ.1 30).toInt + (σ.2.1 12 (σ.1 30).toNatClampNeg).toInt from o51) (tabL 3 C11 C12 C13 C14 C15 C16 (Or.inl rg_304) (Or.inl rg_305) (Or.inl rg_306) (Or.inr C20) (Or.inr C21) C22) C17 C18 (C19.trans upd_self) hw0 N210 J211 hP hD hS (lv_sub hl [0, 1, 2, 3, 4] rfl)
      · have tc208 := (show k.toInt ≠ 5 from ti_ne rfl rg_15 c208)
        refine lv_aload_n hx hb dX12_readStep_128 rfl (lv_at hl 0 rfl) ?_
        refine va_get (D := (dC, dI)) (ci := 12) (v := .ref (ad 19)) (C := RX12) (T := TX12) (N := 59) hx hb hts hin12 hown hK hP 0 rfl rfl 19 (Nat.le_of_ble_eq_true rfl) (ho (.fieldLink RX12 45 "NearEnoughModel" "sB" "[I") (List.mem_of_getElem? (i := 12) rfl)) (fun _ h9 => h9) rfl dX12_readStep_129 ?_
        refine lv_iload_n hx hb dX12_readStep_132 rfl (lv_at hl 2 rfl) ?_
        refine lv_aload_n hx hb dX12_readStep_133 rfl (lv_at hl 0 rfl) ?_
        refine zy_i (va_runV (As := []) (rest := [.int sx, .ref (ad 19)]) ⟨hx, hb, hml, hown, hts⟩ (n_aStep l dC dI h ad cl H.size τ  hIτ (Lx.es hgτ)) (cwV 0 hts gd_n_readStepV_304_n_aStep rfl rfl rfl dd_n_aStep ⟨Nat.le_of_ble_eq_true rfl, Nat.le_of_ble_eq_true rfl⟩) (preV hP hK hD hE (ci := 12) (q0 := 0) rfl rfl) rfl rfl hl.1 rfl (lv_room (Nat.le_of_ble_eq_true rfl)) dX12_readStep_134 ⟨Nat.le_of_ble_eq_true rfl, Nat.le_of_ble_eq_true rfl⟩) hD hS hA (fun z213 τ212 H locs hq hP hD hS => ?_)
        obtain ⟨hI214, hx215, f216, f217, f218, mo219, lx220⟩ := hq
        have Xτ212 : eqx [6, 7, 8, 9, 10, 4, 5, 17, 18, 19, 20, 21, 27, 28, 26, 12] τ212 σ := eqx.tr hx215 hxτ rg_238
        have Mτ212 : Mo τ212 σ := Mo.tr mo219 (fun h9 => hmτ h9)
        have Lτ212 : Lx τ212 σ := Lx.tr lx220 hgτ
        have W221 : When τ212 ((k.toInt = 0 ∨ k.toInt = 1 ∨ k.toInt = 6 → 0 ≤ va.toInt ∧ va.toInt < (σ.2.1 11 (σ.1 30).toNatClampNeg).toInt) ∧ (k.toInt ≠ 0 ∧ k.toInt ≠ 1 ∧ k.toInt ≠ 6 → 0 ≤ va.toInt ∧ va.toInt < (σ.2.1 12 (σ.1 30).toNatClampNeg).toInt)) := When.mo hw0 mo219
        have W222 : When τ212 (0 ≤ z213.toInt ∧ z213.toInt < ((σ.2.1 12) ((σ.1 30)).toNatClampNeg).toInt) := When.cv f218 (hT 12 rg_173 rg_174 rg_293) ((hxτ 30 rg_172).1)
        refine W.widen (k := 0) (n := 0) (Nat.le_of_ble_eq_true rfl) (Nat.le_of_ble_eq_true rfl) ?_
        have o52 : 0 ≤ sx.toInt := by omega
        have o53 : sx.toInt < ((24 : Nat) : Int) := by omega
        refine va_iast hx hb hK hP hD hS 11 10 rfl rfl (ti_inx o52 o53) dX12_readStep_137 (fun H locs hP hD hS => ?_)
        rw [wS19] at hP hD
        obtain ⟨τ223, eτ223⟩ : ∃ x9 : MS, x9 = sA τ212 19 (upd (τ212.2.1 19) (Int32.toNatClampNeg sx) z213) := ⟨_, rfl⟩
        have hP : va_P (dC, dI) vwCl (mW h ad cl τ223) H := by rw [eτ223]; exact hP
        have hD : va_D A (mW h ad cl τ223) := by rw [eτ223]; exact hD
        have o54 : ((-99) : Int) ≤ (z213 : Int32).toInt := by omega
        have o55 : (z213 : Int32).toInt ≤ 99 := by omega
        have hIτ223 : Inv τ223 := by rw [eτ223]; exact (Inv_sA1 hI214 (rgu (hI214.2 19) (show ((-99) : Int) ≤ (z213 : Int32).toInt ∧ (z213 : Int32).toInt ≤ 99 from ⟨o54, o55⟩)))
        have Xτ223 : eqx [6, 7, 8, 9, 10, 4, 5, 17, 18, 19, 20, 21, 27, 28, 26, 12] τ223 σ := (eqx.eq eτ223 (eqx.sA Xτ212 rg_280))
        have Mτ223 : Mo τ223 σ := Mo.eq eτ223 (fun h9 => Mτ212 h9)
        have Lτ223 : Lx τ223 σ := Lx.eq eτ223 Lτ212
        have W224 : When τ223 ((k.toInt = 0 ∨ k.toInt = 1 ∨ k.toInt = 6 → 0 ≤ va.toInt ∧ va.toInt < (σ.2.1 11 (σ.1 30).toNatClampNeg).toInt) ∧ (k.toInt ≠ 0 ∧ k.toInt ≠ 1 ∧ k.toInt ≠ 6 → 0 ≤ va.toInt ∧ va.toInt < (σ.2.1 12 (σ.1 30).toNatClampNeg).toInt)) := When.mo W221 (Mo.eq eτ223 (fun h9 => h9))
        have W225 : When τ223 (0 ≤ z213.toInt ∧ z213.toInt < ((σ.2.1 12) ((σ.1 30)).toNatClampNeg).toInt) := When.mo W222 (Mo.eq eτ223 (fun h9 => h9))
        have C11 : (τ223).2.1 11 = (σ.2.1 11) := ((congrArg (fun x9 : MS => x9.2.1 11) eτ223).trans ((tA rg_281).trans (((hx215 11 rg_104).2.1).trans (hT 11 rg_177 rg_178 rg_292))))
        have C12 : (τ223).2.1 12 = (σ.2.1 12) := ((congrArg (fun x9 : MS => x9.2.1 12) eτ223).trans ((tA rg_282).trans (((hx215 12 rg_110).2.1).trans (hT 12 rg_173 rg_174 rg_293))))
        have C13 : (τ223).2.1 13 = (σ.2.1 13) := ((congrArg (fun x9 : MS => x9.2.1 13) eτ223).trans ((tA rg_283).trans (((hx215 13 rg_116).2.1).trans (hT 13 rg_181 rg_182 rg_294))))
        have C14 : (τ223).2.1 14 = (σ.2.1 14) := ((congrArg (fun x9 : MS => x9.2.1 14) eτ223).trans ((tA rg_284).trans (((hx215 14 rg_122).2.1).trans (hT 14 rg_185 rg_186 rg_295))))
        have C15 : (τ223).2.1 15 = (σ.2.1 15) := ((congrArg (fun x9 : MS => x9.2.1 15) eτ223).trans ((tA rg_285).trans (((hx215 15 rg_100).2.1).trans (hT 15 rg_189 rg_190 rg_296))))
        have C16 : (τ223).2.1 16 = (σ.2.1 16) := ((congrArg (fun x9 : MS => x9.2.1 16) eτ223).trans ((tA rg_286).trans (((hx215 16 rg_129).2.1).trans (hT 16 rg_193 rg_194 rg_297))))
        have C17 : (τ223).2.1 17 = (upd (σ.2.1 17) (Int32.toNatClampNeg sx) k) := ((congrArg (fun x9 : MS => x9.2.1 17) eτ223).trans ((tA rg_287).trans (((hx215 17 rg_134).2.1).trans h17)))
        have C18 : (τ223).2.1 18 = (upd (σ.2.1 18) (Int32.toNatClampNeg sx) va) := ((congrArg (fun x9 : MS => x9.2.1 18) eτ223).trans ((tA rg_288).trans (((hx215 18 rg_140).2.1).trans h18)))
        have C19 : (τ223).2.1 19 = (upd (σ.2.1 19) (Int32.toNatClampNeg sx) z213) := ((congrArg (fun x9 : MS => x9.2.1 19) eτ223).trans (tAe.trans (congrArg (fun f9 => (upd f9 (Int32.toNatClampNeg sx) z213)) (((hx215 19 rg_146).2.1).trans (hT 19 rg_298 rg_299 rg_300)))))
        have C20 : (τ223).2.1 20 = (σ.2.1 20) := ((congrArg (fun x9 : MS => x9.2.1 20) eτ223).trans ((tA rg_289).trans (((hx215 20 rg_152).2.1).trans (hT 20 rg_269 rg_270 rg_301))))
        have C21 : (τ223).2.1 21 = (σ.2.1 21) := ((congrArg (fun x9 : MS => x9.2.1 21) eτ223).trans ((tA rg_290).trans (((hx215 21 rg_158).2.1).trans (hT 21 rg_234 rg_235 rg_302))))
        have C22 : (τ223).2.1 22 = (σ.2.1 22) := ((congrArg (fun x9 : MS => x9.2.1 22) eτ223).trans ((tA rg_291).trans (((hx215 22 rg_164).2.1).trans (hT 22 rg_178 rg_202 rg_303))))
        have N227 : When τ223 (k.toInt = 2 ∨ k.toInt = 3 ∨ k.toInt = 4 ∨ k.toInt = 6 ∨ k.toInt = 7 → 0 ≤ z213.toInt ∧ z213.toInt < (σ.2.1 12 (σ.1 30).toNatClampNeg).toInt) := fun h9 => by have q0 := W224 h9; have q1 := W225 h9; omega
        have J228 : ∀ p9, p9 = 27 ∨ p9 = 28 → (τ223).2.2.1 p9 = σ.2.2.1 p9 := (fun p9 h9 => (congrArg (fun x9 : MS => x9.2.2.1 p9) eτ223).trans ((fun p9 h9 => ((hx215 p9 (rg_559 p9 h9)).2.2.1).trans (hJ p9 h9)) p9 h9))
        have o56 : sx.toInt = 12 * (σ.1 30).toInt + (σ.2.1 12 (σ.1 30).toNatClampNeg).toInt := by omega
        exact pt_138 τ223 sx pl ow va z213 _ _ _ hIτ223 Xτ223 Mτ223 Lτ223 (show sx.toInt = 12 * (σ.1 30).toInt + (σ.2.1 12 (σ.1 30).toNatClampNeg).toInt from o56) (tabL 3 C11 C12 C13 C14 C15 C16 (Or.inl rg_304) (Or.inl rg_305) (Or.inl rg_306) (Or.inr C20) (Or.inr C21) C22) C17 C18 C19 W224 N227 J228 hP hD hS (lv_sub hl [0, 1, 2, 3, 4] rfl)
  have pt_101 : ∀ (τ : MS) (sx : Int32) (pl : Int32) (ow : Int64) (va : Int32) (H : Heap) (locs : List Loc) (ls : Array Slot), (Inv τ) → (eqx [6, 7, 8, 9, 10, 4, 5, 17, 18, 19, 20, 21, 27, 28, 26, 12] τ σ) → (Mo τ σ) → (Lx τ σ) → (sx.toInt = 12 * (σ.1 30).toInt + (σ.2.1 12 (σ.1 30).toNatClampNeg).toInt) → (∀ p9, 11 ≤ p9 → p9 ≤ 22 → ¬ (17 ≤ p9 ∧ p9 ≤ 16 + 2) → τ.2.1 p9 = σ.2.1 p9) → (τ.2.1 17 = upd (σ.2.1 17) (Int32.toNatClampNeg sx) k) → (τ.2.1 18 = upd (σ.2.1 18) (Int32.toNatClampNeg sx) va) → (When τ ((k.toInt = 0 ∨ k.toInt = 1 ∨ k.toInt = 6 → 0 ≤ va.toInt ∧ va.toInt < (σ.2.1 11 (σ.1 30).toNatClampNeg).toInt) ∧ (k.toInt ≠ 0 ∧ k.toInt ≠ 1 ∧ k.toInt ≠ 6 → 0 ≤ va.toInt ∧ va.toInt < (σ.2.1 12 (σ.1 30).toNatClampNeg).toInt))) → (∀ p9, p9 = 27 ∨ p9 = 28 → τ.2.2.1 p9 = σ.2.2.1 p9) → va_P (dC, dI) vwCl (mW h ad cl τ) H → va_D A (mW h ad cl τ) → va_S A s.heap H locs → lv_has ls 6 [(0, .ref h), (1, .int k), (2, .int sx), (3, .int pl), (4, .long ow)] → W p l e (headSpec vs_n_readStepV rm_n_readStepV).room s m #[Value.ref h, Value.int k] below meth c H locs 0 0 Q (F0 m 101 ls []) := by
    intro τ sx pl ow va H locs ls hIτ hxτ hmτ hgτ hR hT h17 h18 hw0 hJ hP hD hS hl
    refine lv_iload_n hx hb dX12_readStep_101 rfl (lv_at hl 1 rfl) ?_
    refine lv_bipush (v := 6) hx hb dX12_readStep_102 rg_55 ?_
    refine lv_icmp_ne (tgt := 118) hx hb dX12_readStep_104 rfl (fun c229 => ?_) (fun c229 => ?_)
    · have tc229 := (show k.toInt ≠ 6 from ti_ne rfl rg_70 c229)
      have C11 : (τ).2.1 11 = (σ.2.1 11) := (hT 11 rg_177 rg_178 rg_292)
      have C12 : (τ).2.1 12 = (σ.2.1 12) := (hT 12 rg_173 rg_174 rg_293)
      have C13 : (τ).2.1 13 = (σ.2.1 13) := (hT 13 rg_181 rg_182 rg_294)
      have C14 : (τ).2.1 14 = (σ.2.1 14) := (hT 14 rg_185 rg_186 rg_295)
      have C15 : (τ).2.1 15 = (σ.2.1 15) := (hT 15 rg_189 rg_190 rg_296)
      have C16 : (τ).2.1 16 = (σ.2.1 16) := (hT 16 rg_193 rg_194 rg_297)
      have C17 : (τ).2.1 17 = (upd (σ.2.1 17) (Int32.toNatClampNeg sx) k) := h17
      have C18 : (τ).2.1 18 = (upd (σ.2.1 18) (Int32.toNatClampNeg sx) va) := h18
      have C19 : (τ).2.1 19 = (σ.2.1 19) := (hT 19 rg_298 rg_299 rg_300)
      have C20 : (τ).2.1 20 = (σ.2.1 20) := (hT 20 rg_269 rg_270 rg_301)
      have C21 : (τ).2.1 21 = (σ.2.1 21) := (hT 21 rg_234 rg_235 rg_302)
      have C22 : (τ).2.1 22 = (σ.2.1 22) := (hT 22 rg_178 rg_202 rg_303)
      have J231 : ∀ p9, p9 = 27 ∨ p9 = 28 → (τ).2.2.1 p9 = σ.2.2.1 p9 := hJ
      have o57 : sx.toInt = 12 * (σ.1 30).toInt + (σ.2.1 12 (σ.1 30).toNatClampNeg).toInt := by omega
      exact pt_118 τ sx pl ow va _ _ _ hIτ hxτ hmτ hgτ (show sx.toInt = 12 * (σ.1 30).toInt + (σ.2.1 12 (σ.1 30).toNatClampNeg).toInt from o57) (tabL 2 C11 C12 C13 C14 C15 C16 (Or.inl rg_307) (Or.inl rg_308) (Or.inr C19) (Or.inr C20) (Or.inr C21) C22) C17 C18 hw0 J231 hP hD hS (lv_sub hl [0, 1, 2, 3, 4] rfl)
    · have tc229 := (show k.toInt = 6 from ti_eq rfl rg_70 c229)
      refine lv_aload_n hx hb dX12_readStep_107 rfl (lv_at hl 0 rfl) ?_
      refine lv_aload_n hx hb dX12_readStep_108 rfl (lv_at hl 0 rfl) ?_
      refine lv_ldc2 (v := (482854658917)) hx hb hown (ho (.constantLong RX12 171 (482854658917)) (List.mem_of_getElem? (i := 14) rfl)) dX12_readStep_109 ?_
      refine zy_i (va_runV (As := [.long 482854658917]) (rest := [.ref h]) ⟨hx, hb, hml, hown, hts⟩ (n_isWord l dC dI h ad cl H.size τ 482854658917 hIτ) (cwV 1 hts gd_n_readStepV_261_n_isWord rfl rfl rfl dd_n_isWord ⟨Nat.le_of_ble_eq_true rfl, Nat.le_of_ble_eq_true rfl⟩) (preV hP hK hD hE (ci := 12) (q0 := 0) rfl rfl) rfl rfl hl.1 rfl (lv_room (Nat.le_of_ble_eq_true rfl)) dX12_readStep_112 ⟨Nat.le_of_ble_eq_true rfl, Nat.le_of_ble_eq_true rfl⟩) hD hS hA (fun z233 τ232 H locs hq hP hD hS => ?_)
      obtain ⟨rfl, f234⟩ := hq
      refine W.widen (k := 0) (n := 0) (Nat.le_of_ble_eq_true rfl) (Nat.le_of_ble_eq_true rfl) ?_
      refine zy_v (va_runV (As := [.int z233]) (rest := []) ⟨hx, hb, hml, hown, hts⟩ (n_must l dC dI h ad cl H.size τ z233 hIτ (Lx.es hgτ)) (cwV 1 hts gd_n_readStepV_278_n_must rfl rfl rfl dd_n_must ⟨Nat.le_of_ble_eq_true rfl, Nat.le_of_ble_eq_true rfl⟩) (preV hP hK hD hE (ci := 12) (q0 := 0) rfl rfl) rfl rfl hl.1 rfl (lv_room (Nat.le_of_ble_eq_true rfl)) dX12_readStep_115 ⟨Nat.le_of_ble_eq_true rfl, Nat.le_of_ble_eq_true rfl⟩) hD hS hA (fun τ235 H locs hq hP hD hS => ?_)
      obtain ⟨hI237, hx238, mo239, lx240⟩ := hq
      have Xτ235 : eqx [6, 7, 8, 9, 10, 4, 5, 17, 18, 19, 20, 21, 27, 28, 26, 12] τ235 σ := eqx.tr hx238 hxτ rg_238
      have Mτ235 : Mo τ235 σ := Mo.tr mo239 (fun h9 => hmτ h9)
      have Lτ235 : Lx τ235 σ := Lx.tr lx240 hgτ
      have W241 : When τ235 ((k.toInt = 0 ∨ k.toInt = 1 ∨ k.toInt = 6 → 0 ≤ va.toInt ∧ va.toInt < (σ.2.1 11 (σ.1 30).toNatClampNeg).toInt) ∧ (k.toInt ≠ 0 ∧ k.toInt ≠ 1 ∧ k.toInt ≠ 6 → 0 ≤ va.toInt ∧ va.toInt < (σ.2.1 12 (σ.1 30).toNatClampNeg).toInt)) := When.mo hw0 mo239
      refine W.widen (k := 0) (n := 0) (Nat.le_of_ble_eq_true rfl) (Nat.le_of_ble_eq_true rfl) ?_
      have C11 : (τ235).2.1 11 = (σ.2.1 11) := (((hx238 11 rg_104).2.1).trans (hT 11 rg_177 rg_178 rg_292))
      have C12 : (τ235).2.1 12 = (σ.2.1 12) := (((hx238 12 rg_110).2.1).trans (hT 12 rg_173 rg_174 rg_293))
      have C13 : (τ235).2.1 13 = (σ.2.1 13) := (((hx238 13 rg_116).2.1).trans (hT 13 rg_181 rg_182 rg_294))
      have C14 : (τ235).2.1 14 = (σ.2.1 14) := (((hx238 14 rg_122).2.1).trans (hT 14 rg_185 rg_186 rg_295))
      have C15 : (τ235).2.1 15 = (σ.2.1 15) := (((hx238 15 rg_100).2.1).trans (hT 15 rg_189 rg_190 rg_296))
      have C16 : (τ235).2.1 16 = (σ.2.1 16) := (((hx238 16 rg_129).2.1).trans (hT 16 rg_193 rg_194 rg_297))
      have C17 : (τ235).2.1 17 = (upd (σ.2.1 17) (Int32.toNatClampNeg sx) k) := (((hx238 17 rg_134).2.1).trans h17)
      have C18 : (τ235).2.1 18 = (upd (σ.2.1 18) (Int32.toNatClampNeg sx) va) := (((hx238 18 rg_140).2.1).trans h18)
      have C19 : (τ235).2.1 19 = (σ.2.1 19) := (((hx238 19 rg_146).2.1).trans (hT 19 rg_298 rg_299 rg_300))
      have C20 : (τ235).2.1 20 = (σ.2.1 20) := (((hx238 20 rg_152).2.1).trans (hT 20 rg_269 rg_270 rg_301))
      have C21 : (τ235).2.1 21 = (σ.2.1 21) := (((hx238 21 rg_158).2.1).trans (hT 21 rg_234 rg_235 rg_302))
      have C22 : (τ235).2.1 22 = (σ.2.1 22) := (((hx238 22 rg_164).2.1).trans (hT 22 rg_178 rg_202 rg_303))
      have J243 : ∀ p9, p9 = 27 ∨ p9 = 28 → (τ235).2.2.1 p9 = σ.2.2.1 p9 := (fun p9 h9 => ((hx238 p9 (rg_559 p9 h9)).2.2.1).trans (hJ p9 h9))
      have o58 : sx.toInt = 12 * (σ.1 30).toInt + (σ.2.1 12 (σ.1 30).toNatClampNeg).toInt := by omega
      exact pt_118 τ235 sx pl ow va _ _ _ hI237 Xτ235 Mτ235 Lτ235 (show sx.toInt = 12 * (σ.1 30).toInt + (σ.2.1 12 (σ.1 30).toNatClampNeg).toInt from o58) (tabL 2 C11 C12 C13 C14 C15 C16 (Or.inl rg_307) (Or.inl rg_308) (Or.inr C19) (Or.inr C20) (Or.inr C21) C22) C17 C18 W241 J243 hP hD hS (lv_sub hl [0, 1, 2, 3, 4] rfl)
  have pt_73 : ∀ (τ : MS) (sx : Int32) (pl : Int32) (ow : Int64) (H : Heap) (locs : List Loc) (ls : Array Slot), (Inv τ) → (eqx [6, 7, 8, 9, 10, 4, 5, 17, 18, 19, 20, 21, 27, 28, 26, 12] τ σ) → (Mo τ σ) → (Lx τ σ) → (sx.toInt = 12 * (σ.1 30).toInt + (σ.2.1 12 (σ.1 30).toNatClampNeg).toInt) → (∀ p9, 11 ≤ p9 → p9 ≤ 22 → ¬ (17 ≤ p9 ∧ p9 ≤ 16 + 1) → τ.2.1 p9 = σ.2.1 p9) → (τ.2.1 17 = upd (σ.2.1 17) (Int32.toNatClampNeg sx) k) → (∀ p9, p9 = 27 ∨ p9 = 28 → τ.2.2.1 p9 = σ.2.2.1 p9) → va_P (dC, dI) vwCl (mW h ad cl τ) H → va_D A (mW h ad cl τ) → va_S A s.heap H locs → lv_has ls 6 [(0, .ref h), (1, .int k), (2, .int sx), (3, .int pl), (4, .long ow)] → W p l e (headSpec vs_n_readStepV rm_n_readStepV).room s m #[Value.ref h, Value.int k] below meth c H locs 0 0 Q (F0 m 73 ls []) := by
    intro τ sx pl ow H locs ls hIτ hxτ hmτ hgτ hR hT h17 hJ hP hD hS hl
    refine lv_aload_n hx hb dX12_readStep_73 rfl (lv_at hl 0 rfl) ?_
    refine va_get (D := (dC, dI)) (ci := 12) (v := .ref (ad 18)) (C := RX12) (T := TX12) (N := 59) hx hb hts hin12 hown hK hP 0 rfl rfl 18 (Nat.le_of_ble_eq_true rfl) (ho (.fieldLink RX12 42 "NearEnoughModel" "sA" "[I") (List.mem_of_getElem? (i := 15) rfl)) (fun _ h9 => h9) rfl dX12_readStep_74 ?_
    refine lv_iload_n hx hb dX12_readStep_77 rfl (lv_at hl 2 rfl) ?_
    refine lv_iload_n hx hb dX12_readStep_78 rfl (lv_at hl 1 rfl) ?_
    refine lv_iconst (v := 1) hx hb dX12_readStep_79 rg_6 ?_
    refine lv_icmp_le (tgt := 89) hx hb dX12_readStep_80 rfl (fun c244 => ?_) (fun c244 => ?_)
    · have tc244 := (show k.toInt ≤ 1 from ti_le rfl rg_18 c244)
      refine lv_aload_n hx hb dX12_readStep_89 rfl (lv_at hl 0 rfl) ?_
      refine zy_i (va_runV (As := []) (rest := [.int sx, .ref (ad 18)]) ⟨hx, hb, hml, hown, hts⟩ (n_aRow l dC dI h ad cl H.size τ  hIτ (Lx.es hgτ)) (cwV 0 hts gd_n_readStepV_301_n_aRow rfl rfl rfl dd_n_aRow ⟨Nat.le_of_ble_eq_true rfl, Nat.le_of_ble_eq_true rfl⟩) (preV hP hK hD hE (ci := 12) (q0 := 0) rfl rfl) rfl rfl hl.1 rfl (lv_room (Nat.le_of_ble_eq_true rfl)) dX12_readStep_90 ⟨Nat.le_of_ble_eq_true rfl, Nat.le_of_ble_eq_true rfl⟩) hD hS hA (fun z246 τ245 H locs hq hP hD hS => ?_)
      obtain ⟨hI247, hx248, f249, f250, f251, mo252, lx253⟩ := hq
      have Xτ245 : eqx [6, 7, 8, 9, 10, 4, 5, 17, 18, 19, 20, 21, 27, 28, 26, 12] τ245 σ := eqx.tr hx248 hxτ rg_238
      have Mτ245 : Mo τ245 σ := Mo.tr mo252 (fun h9 => hmτ h9)
      have Lτ245 : Lx τ245 σ := Lx.tr lx253 hgτ
      have W254 : When τ245 (0 ≤ z246.toInt ∧ z246.toInt < ((σ.2.1 11) ((σ.1 30)).toNatClampNeg).toInt) := When.cv f251 (hT 11 rg_177 rg_178 rg_309) ((hxτ 30 rg_172).1)
      refine W.widen (k := 0) (n := 0) (Nat.le_of_ble_eq_true rfl) (Nat.le_of_ble_eq_true rfl) ?_
      refine lv_goto (tgt := 100) hx hb dX12_readStep_93 rfl ?_
      have o59 : 0 ≤ sx.toInt := by omega
      have o60 : sx.toInt < ((24 : Nat) : Int) := by omega
      refine va_iast hx hb hK hP hD hS 10 9 rfl rfl (ti_inx o59 o60) dX12_readStep_100 (fun H locs hP hD hS => ?_)
      rw [wS18] at hP hD
      obtain ⟨τ255, eτ255⟩ : ∃ x9 : MS, x9 = sA τ245 18 (upd (τ245.2.1 18) (Int32.toNatClampNeg sx) z246) := ⟨_, rfl⟩
      have hP : va_P (dC, dI) vwCl (mW h ad cl τ255) H := by rw [eτ255]; exact hP
      have hD : va_D A (mW h ad cl τ255) := by rw [eτ255]; exact hD
      have o61 : ((-1) : Int) ≤ (z246 : Int32).toInt := by omega
      have o62 : (z246 : Int32).toInt ≤ 11 := by omega
      have hIτ255 : Inv τ255 := by rw [eτ255]; exact (Inv_sA1 hI247 (rgu (hI247.2 18) (show ((-1) : Int) ≤ (z246 : Int32).toInt ∧ (z246 : Int32).toInt ≤ 11 from ⟨o61, o62⟩)))
      have Xτ255 : eqx [6, 7, 8, 9, 10, 4, 5, 17, 18, 19, 20, 21, 27, 28, 26, 12] τ255 σ := (eqx.eq eτ255 (eqx.sA Xτ245 rg_310))
      have Mτ255 : Mo τ255 σ := Mo.eq eτ255 (fun h9 => Mτ245 h9)
      have Lτ255 : Lx τ255 σ := Lx.eq eτ255 Lτ245
      have W256 : When τ255 (0 ≤ z246.toInt ∧ z246.toInt < ((σ.2.1 11) ((σ.1 30)).toNatClampNeg).toInt) := When.mo W254 (Mo.eq eτ255 (fun h9 => h9))
      have C11 : (τ255).2.1 11 = (σ.2.1 11) := ((congrArg (fun x9 : MS => x9.2.1 11) eτ255).trans ((tA rg_311).trans (((hx248 11 rg_104).2.1).trans (hT 11 rg_177 rg_178 rg_309))))
      have C12 : (τ255).2.1 12 = (σ.2.1 12) := ((congrArg (fun x9 : MS => x9.2.1 12) eτ255).trans ((tA rg_313).trans (((hx248 12 rg_110).2.1).trans (hT 12 rg_173 rg_174 rg_312))))
      have C13 : (τ255).2.1 13 = (σ.2.1 13) := ((congrArg (fun x9 : MS => x9.2.1 13) eτ255).trans ((tA rg_315).trans (((hx248 13 rg_116).2.1).trans (hT 13 rg_181 rg_182 rg_314))))
      have C14 : (τ255).2.1 14 = (σ.2.1 14) := ((congrArg (fun x9 : MS => x9.2.1 14) eτ255).trans ((tA rg_317).trans (((hx248 14 rg_122).2.1).trans (hT 14 rg_185 rg_186 rg_316))))
      have C15 : (τ255).2.1 15 = (σ.2.1 15) := ((congrArg (fun x9 : MS => x9.2.1 15) eτ255).trans ((tA rg_319).trans (((hx248 15 rg_100).2.1).trans (hT 15 rg_189 rg_190 rg_318))))
      have C16 : (τ255).2.1 16 = (σ.2.1 16) := ((congrArg (fun x9 : MS => x9.2.1 16) eτ255).trans ((tA rg_321).trans (((hx248 16 rg_129).2.1).trans (hT 16 rg_193 rg_194 rg_320))))
      have C17 : (τ255).2.1 17 = (upd (σ.2.1 17) (Int32.toNatClampNeg sx) k) := ((congrArg (fun x9 : MS => x9.2.1 17) eτ255).trans ((tA rg_322).trans (((hx248 17 rg_134).2.1).trans h17)))
      have C18 : (τ255).2.1 18 = (upd (σ.2.1 18) (Int32.toNatClampNeg sx) z246) := ((congrArg (fun x9 : MS => x9.2.1 18) eτ255).trans (tAe.trans (congrArg (fun f9 => (upd f9 (Int32.toNatClampNeg sx) z246)) (((hx248 18 rg_140).2.1).trans (hT 18 rg_323 rg_324 rg_325)))))
      have C19 : (τ255).2.1 19 = (σ.2.1 19) := ((congrArg (fun x9 : MS => x9.2.1 19) eτ255).trans ((tA rg_327).trans (((hx248 19 rg_146).2.1).trans (hT 19 rg_298 rg_299 rg_326))))
      have C20 : (τ255).2.1 20 = (σ.2.1 20) := ((congrArg (fun x9 : MS => x9.2.1 20) eτ255).trans ((tA rg_329).trans (((hx248 20 rg_152).2.1).trans (hT 20 rg_269 rg_270 rg_328))))
      have C21 : (τ255).2.1 21 = (σ.2.1 21) := ((congrArg (fun x9 : MS => x9.2.1 21) eτ255).trans ((tA rg_331).trans (((hx248 21 rg_158).2.1).trans (hT 21 rg_234 rg_235 rg_330))))
      have C22 : (τ255).2.1 22 = (σ.2.1 22) := ((congrArg (fun x9 : MS => x9.2.1 22) eτ255).trans ((tA rg_333).trans (((hx248 22 rg_164).2.1).trans (hT 22 rg_178 rg_202 rg_332))))
      have N257 : When τ255 ((k.toInt = 0 ∨ k.toInt = 1 ∨ k.toInt = 6 → 0 ≤ z246.toInt ∧ z246.toInt < (σ.2.1 11 (σ.1 30).toNatClampNeg).toInt) ∧ (k.toInt ≠ 0 ∧ k.toInt ≠ 1 ∧ k.toInt ≠ 6 → 0 ≤ z246.toInt ∧ z246.toInt < (σ.2.1 12 (σ.1 30).toNatClampNeg).toInt)) := fun h9 => by have q0 := W256 h9; omega
      have J258 : ∀ p9, p9 = 27 ∨ p9 = 28 → (τ255).2.2.1 p9 = σ.2.2.1 p9 := (fun p9 h9 => (congrArg (fun x9 : MS => x9.2.2.1 p9) eτ255).trans ((fun p9 h9 => ((hx248 p9 (rg_559 p9 h9)).2.2.1).trans (hJ p9 h9)) p9 h9))
      have o63 : sx.toInt = 12 * (σ.1 30).toInt + (σ.2.1 12 (σ.1 30).toNatClampNeg).toInt := by omega
      exact pt_101 τ255 sx pl ow z246 _ _ _ hIτ255 Xτ255 Mτ255 Lτ255 (show sx.toInt = 12 * (σ.1 30).toInt + (σ.2.1 12 (σ.1 30).toNatClampNeg).toInt from o63) (tabL 2 C11 C12 C13 C14 C15 C16 (Or.inl rg_307) (Or.inl rg_308) (Or.inr C19) (Or.inr C20) (Or.inr C21) C22) C17 C18 N257 J258 hP hD hS (lv_sub hl [0, 1, 2, 3, 4] rfl)
    · have tc244 := (show 1 < k.toInt from ti_nle rfl rg_18 c244)
      refine lv_iload_n hx hb dX12_readStep_83 rfl (lv_at hl 1 rfl) ?_
      refine lv_bipush (v := 6) hx hb dX12_readStep_84 rg_55 ?_
      refine lv_icmp_ne (tgt := 96) hx hb dX12_readStep_86 rfl (fun c259 => ?_) (fun c259 => ?_)
      · have tc259 := (show k.toInt ≠ 6 from ti_ne rfl rg_70 c259)
        refine lv_aload_n hx hb dX12_readStep_96 rfl (lv_at hl 0 rfl) ?_
        refine zy_i (va_runV (As := []) (rest := [.int sx, .ref (ad 18)]) ⟨hx, hb, hml, hown, hts⟩ (n_aStep l dC dI h ad cl H.size τ  hIτ (Lx.es hgτ)) (cwV 0 hts gd_n_readStepV_304_n_aStep rfl rfl rfl dd_n_aStep ⟨Nat.le_of_ble_eq_true rfl, Nat.le_of_ble_eq_true rfl⟩) (preV hP hK hD hE (ci := 12) (q0 := 0) rfl rfl) rfl rfl hl.1 rfl (lv_room (Nat.le_of_ble_eq_true rfl)) dX12_readStep_97 ⟨Nat.le_of_ble_eq_true rfl, Nat.le_of_ble_eq_true rfl⟩) hD hS hA (fun z261 τ260 H locs hq hP hD hS => ?_)
        obtain ⟨hI262, hx263, f264, f265, f266, mo267, lx268⟩ := hq
        have Xτ260 : eqx [6, 7, 8, 9, 10, 4, 5, 17, 18, 19, 20, 21, 27, 28, 26, 12] τ260 σ := eqx.tr hx263 hxτ rg_238
        have Mτ260 : Mo τ260 σ := Mo.tr mo267 (fun h9 => hmτ h9)
        have Lτ260 : Lx τ260 σ := Lx.tr lx268 hgτ
        have W269 : When τ260 (0 ≤ z261.toInt ∧ z261.toInt < ((σ.2.1 12) ((σ.1 30)).toNatClampNeg).toInt) := When.cv f266 (hT 12 rg_173 rg_174 rg_312) ((hxτ 30 rg_172).1)
        refine W.widen (k := 0) (n := 0) (Nat.le_of_ble_eq_true rfl) (Nat.le_of_ble_eq_true rfl) ?_
        have o64 : 0 ≤ sx.toInt := by omega
        have o65 : sx.toInt < ((24 : Nat) : Int) := by omega
        refine va_iast hx hb hK hP hD hS 10 9 rfl rfl (ti_inx o64 o65) dX12_readStep_100 (fun H locs hP hD hS => ?_)
        rw [wS18] at hP hD
        obtain ⟨τ270, eτ270⟩ : ∃ x9 : MS, x9 = sA τ260 18 (upd (τ260.2.1 18) (Int32.toNatClampNeg sx) z261) := ⟨_, rfl⟩
        have hP : va_P (dC, dI) vwCl (mW h ad cl τ270) H := by rw [eτ270]; exact hP
        have hD : va_D A (mW h ad cl τ270) := by rw [eτ270]; exact hD
        have o66 : ((-1) : Int) ≤ (z261 : Int32).toInt := by omega
        have o67 : (z261 : Int32).toInt ≤ 11 := by omega
        have hIτ270 : Inv τ270 := by rw [eτ270]; exact (Inv_sA1 hI262 (rgu (hI262.2 18) (show ((-1) : Int) ≤ (z261 : Int32).toInt ∧ (z261 : Int32).toInt ≤ 11 from ⟨o66, o67⟩)))
        have Xτ270 : eqx [6, 7, 8, 9, 10, 4, 5, 17, 18, 19, 20, 21, 27, 28, 26, 12] τ270 σ := (eqx.eq eτ270 (eqx.sA Xτ260 rg_310))
        have Mτ270 : Mo τ270 σ := Mo.eq eτ270 (fun h9 => Mτ260 h9)
        have Lτ270 : Lx τ270 σ := Lx.eq eτ270 Lτ260
        have W271 : When τ270 (0 ≤ z261.toInt ∧ z261.toInt < ((σ.2.1 12) ((σ.1 30)).toNatClampNeg).toInt) := When.mo W269 (Mo.eq eτ270 (fun h9 => h9))
        have C11 : (τ270).2.1 11 = (σ.2.1 11) := ((congrArg (fun x9 : MS => x9.2.1 11) eτ270).trans ((tA rg_311).trans (((hx263 11 rg_104).2.1).trans (hT 11 rg_177 rg_178 rg_309))))
        have C12 : (τ270).2.1 12 = (σ.2.1 12) := ((congrArg (fun x9 : MS => x9.2.1 12) eτ270).trans ((tA rg_313).trans (((hx263 12 rg_110).2.1).trans (hT 12 rg_173 rg_174 rg_312))))
        have C13 : (τ270).2.1 13 = (σ.2.1 13) := ((congrArg (fun x9 : MS => x9.2.1 13) eτ270).trans ((tA rg_315).trans (((hx263 13 rg_116).2.1).trans (hT 13 rg_181 rg_182 rg_314))))
        have C14 : (τ270).2.1 14 = (σ.2.1 14) := ((congrArg (fun x9 : MS => x9.2.1 14) eτ270).trans ((tA rg_317).trans (((hx263 14 rg_122).2.1).trans (hT 14 rg_185 rg_186 rg_316))))
        have C15 : (τ270).2.1 15 = (σ.2.1 15) := ((congrArg (fun x9 : MS => x9.2.1 15) eτ270).trans ((tA rg_319).trans (((hx263 15 rg_100).2.1).trans (hT 15 rg_189 rg_190 rg_318))))
        have C16 : (τ270).2.1 16 = (σ.2.1 16) := ((congrArg (fun x9 : MS => x9.2.1 16) eτ270).trans ((tA rg_321).trans (((hx263 16 rg_129).2.1).trans (hT 16 rg_193 rg_194 rg_320))))
        have C17 : (τ270).2.1 17 = (upd (σ.2.1 17) (Int32.toNatClampNeg sx) k) := ((congrArg (fun x9 : MS => x9.2.1 17) eτ270).trans ((tA rg_322).trans (((hx263 17 rg_134).2.1).trans h17)))
        have C18 : (τ270).2.1 18 = (upd (σ.2.1 18) (Int32.toNatClampNeg sx) z261) := ((congrArg (fun x9 : MS => x9.2.1 18) eτ270).trans (tAe.trans (congrArg (fun f9 => (upd f9 (Int32.toNatClampNeg sx) z261)) (((hx263 18 rg_140).2.1).trans (hT 18 rg_323 rg_324 rg_325)))))
        have C19 : (τ270).2.1 19 = (σ.2.1 19) := ((congrArg (fun x9 : MS => x9.2.1 19) eτ270).trans ((tA rg_327).trans (((hx263 19 rg_146).2.1).trans (hT 19 rg_298 rg_299 rg_326))))
        have C20 : (τ270).2.1 20 = (σ.2.1 20) := ((congrArg (fun x9 : MS => x9.2.1 20) eτ270).trans ((tA rg_329).trans (((hx263 20 rg_152).2.1).trans (hT 20 rg_269 rg_270 rg_328))))
        have C21 : (τ270).2.1 21 = (σ.2.1 21) := ((congrArg (fun x9 : MS => x9.2.1 21) eτ270).trans ((tA rg_331).trans (((hx263 21 rg_158).2.1).trans (hT 21 rg_234 rg_235 rg_330))))
        have C22 : (τ270).2.1 22 = (σ.2.1 22) := ((congrArg (fun x9 : MS => x9.2.1 22) eτ270).trans ((tA rg_333).trans (((hx263 22 rg_164).2.1).trans (hT 22 rg_178 rg_202 rg_332))))
        have N272 : When τ270 ((k.toInt = 0 ∨ k.toInt = 1 ∨ k.toInt = 6 → 0 ≤ z261.toInt ∧ z261.toInt < (σ.2.1 11 (σ.1 30).toNatClampNeg).toInt) ∧ (k.toInt ≠ 0 ∧ k.toInt ≠ 1 ∧ k.toInt ≠ 6 → 0 ≤ z261.toInt ∧ z261.toInt < (σ.2.1 12 (σ.1 30).toNatClampNeg).toInt)) := fun h9 => by have q0 := W271 h9; omega
        have J273 : ∀ p9, p9 = 27 ∨ p9 = 28 → (τ270).2.2.1 p9 = σ.2.2.1 p9 := (fun p9 h9 => (congrArg (fun x9 : MS => x9.2.2.1 p9) eτ270).trans ((fun p9 h9 => ((hx263 p9 (rg_559 p9 h9)).2.2.1).trans (hJ p9 h9)) p9 h9))
        have o68 : sx.toInt = 12 * (σ.1 30).toInt + (σ.2.1 12 (σ.1 30).toNatClampNeg).toInt := by omega
        exact pt_101 τ270 sx pl ow z261 _ _ _ hIτ270 Xτ270 Mτ270 Lτ270 (show sx.toInt = 12 * (σ.1 30).toInt + (σ.2.1 12 (σ.1 30).toNatClampNeg).toInt from o68) (tabL 2 C11 C12 C13 C14 C15 C16 (Or.inl rg_307) (Or.inl rg_308) (Or.inr C19) (Or.inr C20) (Or.inr C21) C22) C17 C18 N272 J273 hP hD hS (lv_sub hl [0, 1, 2, 3, 4] rfl)
      · have tc259 := (show k.toInt = 6 from ti_eq rfl rg_70 c259)
        refine lv_aload_n hx hb dX12_readStep_89 rfl (lv_at hl 0 rfl) ?_
        refine zy_i (va_runV (As := []) (rest := [.int sx, .ref (ad 18)]) ⟨hx, hb, hml, hown, hts⟩ (n_aRow l dC dI h ad cl H.size τ  hIτ (Lx.es hgτ)) (cwV 0 hts gd_n_readStepV_301_n_aRow rfl rfl rfl dd_n_aRow ⟨Nat.le_of_ble_eq_true rfl, Nat.le_of_ble_eq_true rfl⟩) (preV hP hK hD hE (ci := 12) (q0 := 0) rfl rfl) rfl rfl hl.1 rfl (lv_room (Nat.le_of_ble_eq_true rfl)) dX12_readStep_90 ⟨Nat.le_of_ble_eq_true rfl, Nat.le_of_ble_eq_true rfl⟩) hD hS hA (fun z275 τ274 H locs hq hP hD hS => ?_)
        obtain ⟨hI276, hx277, f278, f279, f280, mo281, lx282⟩ := hq
        have Xτ274 : eqx [6, 7, 8, 9, 10, 4, 5, 17, 18, 19, 20, 21, 27, 28, 26, 12] τ274 σ := eqx.tr hx277 hxτ rg_238
        have Mτ274 : Mo τ274 σ := Mo.tr mo281 (fun h9 => hmτ h9)
        have Lτ274 : Lx τ274 σ := Lx.tr lx282 hgτ
        have W283 : When τ274 (0 ≤ z275.toInt ∧ z275.toInt < ((σ.2.1 11) ((σ.1 30)).toNatClampNeg).toInt) := When.cv f280 (hT 11 rg_177 rg_178 rg_309) ((hxτ 30 rg_172).1)
        refine W.widen (k := 0) (n := 0) (Nat.le_of_ble_eq_true rfl) (Nat.le_of_ble_eq_true rfl) ?_
        refine lv_goto (tgt := 100) hx hb dX12_readStep_93 rfl ?_
        have o69 : 0 ≤ sx.toInt := by omega
        have o70 : sx.toInt < ((24 : Nat) : Int) := by omega
        refine va_iast hx hb hK hP hD hS 10 9 rfl rfl (ti_inx o69 o70) dX12_readStep_100 (fun H locs hP hD hS => ?_)
        rw [wS18] at hP hD
        obtain ⟨τ284, eτ284⟩ : ∃ x9 : MS, x9 = sA τ274 18 (upd (τ274.2.1 18) (Int32.toNatClampNeg sx) z275) := ⟨_, rfl⟩
        have hP : va_P (dC, dI) vwCl (mW h ad cl τ284) H := by rw [eτ284]; exact hP
        have hD : va_D A (mW h ad cl τ284) := by rw [eτ284]; exact hD
        have o71 : ((-1) : Int) ≤ (z275 : Int32).toInt := by omega
        have o72 : (z275 : Int32).toInt ≤ 11 := by omega
        have hIτ284 : Inv τ284 := by rw [eτ284]; exact (Inv_sA1 hI276 (rgu (hI276.2 18) (show ((-1) : Int) ≤ (z275 : Int32).toInt ∧ (z275 : Int32).toInt ≤ 11 from ⟨o71, o72⟩)))
        have Xτ284 : eqx [6, 7, 8, 9, 10, 4, 5, 17, 18, 19, 20, 21, 27, 28, 26, 12] τ284 σ := (eqx.eq eτ284 (eqx.sA Xτ274 rg_310))
        have Mτ284 : Mo τ284 σ := Mo.eq eτ284 (fun h9 => Mτ274 h9)
        have Lτ284 : Lx τ284 σ := Lx.eq eτ284 Lτ274
        have W285 : When τ284 (0 ≤ z275.toInt ∧ z275.toInt < ((σ.2.1 11) ((σ.1 30)).toNatClampNeg).toInt) := When.mo W283 (Mo.eq eτ284 (fun h9 => h9))
        have C11 : (τ284).2.1 11 = (σ.2.1 11) := ((congrArg (fun x9 : MS => x9.2.1 11) eτ284).trans ((tA rg_311).trans (((hx277 11 rg_104).2.1).trans (hT 11 rg_177 rg_178 rg_309))))
        have C12 : (τ284).2.1 12 = (σ.2.1 12) := ((congrArg (fun x9 : MS => x9.2.1 12) eτ284).trans ((tA rg_313).trans (((hx277 12 rg_110).2.1).trans (hT 12 rg_173 rg_174 rg_312))))
        have C13 : (τ284).2.1 13 = (σ.2.1 13) := ((congrArg (fun x9 : MS => x9.2.1 13) eτ284).trans ((tA rg_315).trans (((hx277 13 rg_116).2.1).trans (hT 13 rg_181 rg_182 rg_314))))
        have C14 : (τ284).2.1 14 = (σ.2.1 14) := ((congrArg (fun x9 : MS => x9.2.1 14) eτ284).trans ((tA rg_317).trans (((hx277 14 rg_122).2.1).trans (hT 14 rg_185 rg_186 rg_316))))
        have C15 : (τ284).2.1 15 = (σ.2.1 15) := ((congrArg (fun x9 : MS => x9.2.1 15) eτ284).trans ((tA rg_319).trans (((hx277 15 rg_100).2.1).trans (hT 15 rg_189 rg_190 rg_318))))
        have C16 : (τ284).2.1 16 = (σ.2.1 16) := ((congrArg (fun x9 : MS => x9.2.1 16) eτ284).trans ((tA rg_321).trans (((hx277 16 rg_129).2.1).trans (hT 16 rg_193 rg_194 rg_320))))
        have C17 : (τ284).2.1 17 = (upd (σ.2.1 17) (Int32.toNatClampNeg sx) k) := ((congrArg (fun x9 : MS => x9.2.1 17) eτ284).trans ((tA rg_322).trans (((hx277 17 rg_134).2.1).trans h17)))
        have C18 : (τ284).2.1 18 = (upd (σ.2.1 18) (Int32.toNatClampNeg sx) z275) := ((congrArg (fun x9 : MS => x9.2.1 18) eτ284).trans (tAe.trans (congrArg (fun f9 => (upd f9 (Int32.toNatClampNeg sx) z275)) (((hx277 18 rg_140).2.1).trans (hT 18 rg_323 rg_324 rg_325)))))
        have C19 : (τ284).2.1 19 = (σ.2.1 19) := ((congrArg (fun x9 : MS => x9.2.1 19) eτ284).trans ((tA rg_327).trans (((hx277 19 rg_146).2.1).trans (hT 19 rg_298 rg_299 rg_326))))
        have C20 : (τ284).2.1 20 = (σ.2.1 20) := ((congrArg (fun x9 : MS => x9.2.1 20) eτ284).trans ((tA rg_329).trans (((hx277 20 rg_152).2.1).trans (hT 20 rg_269 rg_270 rg_328))))
        have C21 : (τ284).2.1 21 = (σ.2.1 21) := ((congrArg (fun x9 : MS => x9.2.1 21) eτ284).trans ((tA rg_331).trans (((hx277 21 rg_158).2.1).trans (hT 21 rg_234 rg_235 rg_330))))
        have C22 : (τ284).2.1 22 = (σ.2.1 22) := ((congrArg (fun x9 : MS => x9.2.1 22) eτ284).trans ((tA rg_333).trans (((hx277 22 rg_164).2.1).trans (hT 22 rg_178 rg_202 rg_332))))
        have N286 : When τ284 ((k.toInt = 0 ∨ k.toInt = 1 ∨ k.toInt = 6 → 0 ≤ z275.toInt ∧ z275.toInt < (σ.2.1 11 (σ.1 30).toNatClampNeg).toInt) ∧ (k.toInt ≠ 0 ∧ k.toInt ≠ 1 ∧ k.toInt ≠ 6 → 0 ≤ z275.toInt ∧ z275.toInt < (σ.2.1 12 (σ.1 30).toNatClampNeg).toInt)) := fun h9 => by have q0 := W285 h9; omega
        have J287 : ∀ p9, p9 = 27 ∨ p9 = 28 → (τ284).2.2.1 p9 = σ.2.2.1 p9 := (fun p9 h9 => (congrArg (fun x9 : MS => x9.2.2.1 p9) eτ284).trans ((fun p9 h9 => ((hx277 p9 (rg_559 p9 h9)).2.2.1).trans (hJ p9 h9)) p9 h9))
        have o73 : sx.toInt = 12 * (σ.1 30).toInt + (σ.2.1 12 (σ.1 30).toNatClampNeg).toInt := by omega
        exact pt_101 τ284 sx pl ow z275 _ _ _ hIτ284 Xτ284 Mτ284 Lτ284 (show sx.toInt = 12 * (σ.1 30).toInt + (σ.2.1 12 (σ.1 30).toNatClampNeg).toInt from o73) (tabL 2 C11 C12 C13 C14 C15 C16 (Or.inl rg_307) (Or.inl rg_308) (Or.inr C19) (Or.inr C20) (Or.inr C21) C22) C17 C18 N286 J287 hP hD hS (lv_sub hl [0, 1, 2, 3, 4] rfl)
  have pt_50 : ∀ (τ : MS) (sx : Int32) (pl : Int32) (ow : Int64) (H : Heap) (locs : List Loc) (ls : Array Slot), (Inv τ) → (eqx [6, 7, 8, 9, 10, 4, 5, 17, 18, 19, 20, 21, 27, 28, 26, 12] τ σ) → (Mo τ σ) → (Lx τ σ) → (sx.toInt = 12 * (σ.1 30).toInt + (σ.2.1 12 (σ.1 30).toNatClampNeg).toInt) → (∀ p9, 11 ≤ p9 → p9 ≤ 22 → ¬ (17 ≤ p9 ∧ p9 ≤ 16 + 0) → τ.2.1 p9 = σ.2.1 p9) → (∀ p9, p9 = 27 ∨ p9 = 28 → τ.2.2.1 p9 = σ.2.2.1 p9) → va_P (dC, dI) vwCl (mW h ad cl τ) H → va_D A (mW h ad cl τ) → va_S A s.heap H locs → lv_has ls 6 [(0, .ref h), (1, .int k), (2, .int sx), (3, .int pl), (4, .long ow)] → W p l e (headSpec vs_n_readStepV rm_n_readStepV).room s m #[Value.ref h, Value.int k] below meth c H locs 0 0 Q (F0 m 50 ls []) := by
    intro τ sx pl ow H locs ls hIτ hxτ hmτ hgτ hR hT hJ hP hD hS hl
    refine lv_aload_n hx hb dX12_readStep_50 rfl (lv_at hl 0 rfl) ?_
    refine va_get (D := (dC, dI)) (ci := 12) (v := .ref (ad 17)) (C := RX12) (T := TX12) (N := 59) hx hb hts hin12 hown hK hP 0 rfl rfl 17 (Nat.le_of_ble_eq_true rfl) (ho (.fieldLink RX12 39 "NearEnoughModel" "sKind" "[I") (List.mem_of_getElem? (i := 16) rfl)) (fun _ h9 => h9) rfl dX12_readStep_51 ?_
    refine lv_iload_n hx hb dX12_readStep_54 rfl (lv_at hl 2 rfl) ?_
    refine lv_iload_n hx hb dX12_readStep_55 rfl (lv_at hl 1 rfl) ?_
    have o74 : 0 ≤ sx.toInt := by omega
    have o75 : sx.toInt < ((24 : Nat) : Int) := by omega
    refine va_iast hx hb hK hP hD hS 9 8 rfl rfl (ti_inx o74 o75) dX12_readStep_56 (fun H locs hP hD hS => ?_)
    rw [wS17] at hP hD
    obtain ⟨τ288, eτ288⟩ : ∃ x9 : MS, x9 = sA τ 17 (upd (τ.2.1 17) (Int32.toNatClampNeg sx) k) := ⟨_, rfl⟩
    have hP : va_P (dC, dI) vwCl (mW h ad cl τ288) H := by rw [eτ288]; exact hP
    have hD : va_D A (mW h ad cl τ288) := by rw [eτ288]; exact hD
    have o76 : (0 : Int) ≤ (k : Int32).toInt := by omega
    have o77 : (k : Int32).toInt ≤ 7 := by omega
    have hIτ288 : Inv τ288 := by rw [eτ288]; exact (Inv_sA1 hIτ (rgu (hIτ.2 17) (show (0 : Int) ≤ (k : Int32).toInt ∧ (k : Int32).toInt ≤ 7 from ⟨o76, o77⟩)))
    have Xτ288 : eqx [6, 7, 8, 9, 10, 4, 5, 17, 18, 19, 20, 21, 27, 28, 26, 12] τ288 σ := (eqx.eq eτ288 (eqx.sA hxτ rg_334))
    have Mτ288 : Mo τ288 σ := Mo.eq eτ288 (fun h9 => hmτ h9)
    have Lτ288 : Lx τ288 σ := Lx.eq eτ288 hgτ
    refine lv_iload_n hx hb dX12_readStep_57 rfl (lv_at hl 1 rfl) ?_
    refine lv_iconst (v := 1) hx hb dX12_readStep_58 rg_6 ?_
    refine lv_icmp_gt (tgt := 73) hx hb dX12_readStep_59 rfl (fun c289 => ?_) (fun c289 => ?_)
    · have tc289 := (show 1 < k.toInt from ti_lt rg_18 rfl c289)
      have C11 : (τ288).2.1 11 = (σ.2.1 11) := ((congrArg (fun x9 : MS => x9.2.1 11) eτ288).trans ((tA rg_336).trans (hT 11 rg_177 rg_178 rg_335)))
      have C12 : (τ288).2.1 12 = (σ.2.1 12) := ((congrArg (fun x9 : MS => x9.2.1 12) eτ288).trans ((tA rg_338).trans (hT 12 rg_173 rg_174 rg_337)))
      have C13 : (τ288).2.1 13 = (σ.2.1 13) := ((congrArg (fun x9 : MS => x9.2.1 13) eτ288).trans ((tA rg_340).trans (hT 13 rg_181 rg_182 rg_339)))
      have C14 : (τ288).2.1 14 = (σ.2.1 14) := ((congrArg (fun x9 : MS => x9.2.1 14) eτ288).trans ((tA rg_342).trans (hT 14 rg_185 rg_186 rg_341)))
      have C15 : (τ288).2.1 15 = (σ.2.1 15) := ((congrArg (fun x9 : MS => x9.2.1 15) eτ288).trans ((tA rg_344).trans (hT 15 rg_189 rg_190 rg_343)))
      have C16 : (τ288).2.1 16 = (σ.2.1 16) := ((congrArg (fun x9 : MS => x9.2.1 16) eτ288).trans ((tA rg_346).trans (hT 16 rg_193 rg_194 rg_345)))
      have C17 : (τ288).2.1 17 = (upd (σ.2.1 17) (Int32.toNatClampNeg sx) k) := ((congrArg (fun x9 : MS => x9.2.1 17) eτ288).trans (tAe.trans (congrArg (fun f9 => (upd f9 (Int32.toNatClampNeg sx) k)) (hT 17 rg_347 rg_348 rg_349))))
      have C18 : (τ288).2.1 18 = (σ.2.1 18) := ((congrArg (fun x9 : MS => x9.2.1 18) eτ288).trans ((tA rg_351).trans (hT 18 rg_323 rg_324 rg_350)))
      have C19 : (τ288).2.1 19 = (σ.2.1 19) := ((congrArg (fun x9 : MS => x9.2.1 19) eτ288).trans ((tA rg_353).trans (hT 19 rg_298 rg_299 rg_352)))
      have C20 : (τ288).2.1 20 = (σ.2.1 20) := ((congrArg (fun x9 : MS => x9.2.1 20) eτ288).trans ((tA rg_355).trans (hT 20 rg_269 rg_270 rg_354)))
      have C21 : (τ288).2.1 21 = (σ.2.1 21) := ((congrArg (fun x9 : MS => x9.2.1 21) eτ288).trans ((tA rg_357).trans (hT 21 rg_234 rg_235 rg_356)))
      have C22 : (τ288).2.1 22 = (σ.2.1 22) := ((congrArg (fun x9 : MS => x9.2.1 22) eτ288).trans ((tA rg_359).trans (hT 22 rg_178 rg_202 rg_358)))
      have J290 : ∀ p9, p9 = 27 ∨ p9 = 28 → (τ288).2.2.1 p9 = σ.2.2.1 p9 := (fun p9 h9 => (congrArg (fun x9 : MS => x9.2.2.1 p9) eτ288).trans (hJ p9 h9))
      have o78 : sx.toInt = 12 * (σ.1 30).toInt + (σ.2.1 12 (σ.1 30).toNatClampNeg).toInt := by omega
      exact pt_73 τ288 sx pl ow _ _ _ hIτ288 Xτ288 Mτ288 Lτ288 (show sx.toInt = 12 * (σ.1 30).toInt + (σ.2.1 12 (σ.1 30).toNatClampNeg).toInt from o78) (tabL 1 C11 C12 C13 C14 C15 C16 (Or.inl rg_360) (Or.inr C18) (Or.inr C19) (Or.inr C20) (Or.inr C21) C22) C17 J290 hP hD hS (lv_sub hl [0, 1, 2, 3, 4] rfl)
    · have tc289 := (show k.toInt ≤ 1 from ti_nlt rg_18 rfl c289)
      refine lv_aload_n hx hb dX12_readStep_62 rfl (lv_at hl 0 rfl) ?_
      refine lv_aload_n hx hb dX12_readStep_63 rfl (lv_at hl 0 rfl) ?_
      refine lv_ldc2 (v := (28518)) hx hb hown (ho (.constantLong RX12 153 (28518)) (List.mem_of_getElem? (i := 17) rfl)) dX12_readStep_64 ?_
      refine zy_i (va_runV (As := [.long 28518]) (rest := [.ref h]) ⟨hx, hb, hml, hown, hts⟩ (n_isWord l dC dI h ad cl H.size τ288 28518 hIτ288) (cwV 1 hts gd_n_readStepV_261_n_isWord rfl rfl rfl dd_n_isWord ⟨Nat.le_of_ble_eq_true rfl, Nat.le_of_ble_eq_true rfl⟩) (preV hP hK hD hE (ci := 12) (q0 := 0) rfl rfl) rfl rfl hl.1 rfl (lv_room (Nat.le_of_ble_eq_true rfl)) dX12_readStep_67 ⟨Nat.le_of_ble_eq_true rfl, Nat.le_of_ble_eq_true rfl⟩) hD hS hA (fun z292 τ291 H locs hq hP hD hS => ?_)
      obtain ⟨rfl, f293⟩ := hq
      refine W.widen (k := 0) (n := 0) (Nat.le_of_ble_eq_true rfl) (Nat.le_of_ble_eq_true rfl) ?_
      refine zy_v (va_runV (As := [.int z292]) (rest := []) ⟨hx, hb, hml, hown, hts⟩ (n_must l dC dI h ad cl H.size τ288 z292 hIτ288 (Lx.es Lτ288)) (cwV 1 hts gd_n_readStepV_278_n_must rfl rfl rfl dd_n_must ⟨Nat.le_of_ble_eq_true rfl, Nat.le_of_ble_eq_true rfl⟩) (preV hP hK hD hE (ci := 12) (q0 := 0) rfl rfl) rfl rfl hl.1 rfl (lv_room (Nat.le_of_ble_eq_true rfl)) dX12_readStep_70 ⟨Nat.le_of_ble_eq_true rfl, Nat.le_of_ble_eq_true rfl⟩) hD hS hA (fun τ294 H locs hq hP hD hS => ?_)
      obtain ⟨hI296, hx297, mo298, lx299⟩ := hq
      have Xτ294 : eqx [6, 7, 8, 9, 10, 4, 5, 17, 18, 19, 20, 21, 27, 28, 26, 12] τ294 σ := eqx.tr hx297 Xτ288 rg_238
      have Mτ294 : Mo τ294 σ := Mo.tr mo298 (fun h9 => Mτ288 h9)
      have Lτ294 : Lx τ294 σ := Lx.tr lx299 Lτ288
      refine W.widen (k := 0) (n := 0) (Nat.le_of_ble_eq_true rfl) (Nat.le_of_ble_eq_true rfl) ?_
      have C11 : (τ294).2.1 11 = (σ.2.1 11) := (((hx297 11 rg_104).2.1).trans ((congrArg (fun x9 : MS => x9.2.1 11) eτ288).trans ((tA rg_336).trans (hT 11 rg_177 rg_178 rg_335))))
      have C12 : (τ294).2.1 12 = (σ.2.1 12) := (((hx297 12 rg_110).2.1).trans ((congrArg (fun x9 : MS => x9.2.1 12) eτ288).trans ((tA rg_338).trans (hT 12 rg_173 rg_174 rg_337))))
      have C13 : (τ294).2.1 13 = (σ.2.1 13) := (((hx297 13 rg_116).2.1).trans ((congrArg (fun x9 : MS => x9.2.1 13) eτ288).trans ((tA rg_340).trans (hT 13 rg_181 rg_182 rg_339))))
      have C14 : (τ294).2.1 14 = (σ.2.1 14) := (((hx297 14 rg_122).2.1).trans ((congrArg (fun x9 : MS => x9.2.1 14) eτ288).trans ((tA rg_342).trans (hT 14 rg_185 rg_186 rg_341))))
      have C15 : (τ294).2.1 15 = (σ.2.1 15) := (((hx297 15 rg_100).2.1).trans ((congrArg (fun x9 : MS => x9.2.1 15) eτ288).trans ((tA rg_344).trans (hT 15 rg_189 rg_190 rg_343))))
      have C16 : (τ294).2.1 16 = (σ.2.1 16) := (((hx297 16 rg_129).2.1).trans ((congrArg (fun x9 : MS => x9.2.1 16) eτ288).trans ((tA rg_346).trans (hT 16 rg_193 rg_194 rg_345))))
      have C17 : (τ294).2.1 17 = (upd (σ.2.1 17) (Int32.toNatClampNeg sx) k) := (((hx297 17 rg_134).2.1).trans ((congrArg (fun x9 : MS => x9.2.1 17) eτ288).trans (tAe.trans (congrArg (fun f9 => (upd f9 (Int32.toNatClampNeg sx) k)) (hT 17 rg_347 rg_348 rg_349)))))
      have C18 : (τ294).2.1 18 = (σ.2.1 18) := (((hx297 18 rg_140).2.1).trans ((congrArg (fun x9 : MS => x9.2.1 18) eτ288).trans ((tA rg_351).trans (hT 18 rg_323 rg_324 rg_350))))
      have C19 : (τ294).2.1 19 = (σ.2.1 19) := (((hx297 19 rg_146).2.1).trans ((congrArg (fun x9 : MS => x9.2.1 19) eτ288).trans ((tA rg_353).trans (hT 19 rg_298 rg_299 rg_352))))
      have C20 : (τ294).2.1 20 = (σ.2.1 20) := (((hx297 20 rg_152).2.1).trans ((congrArg (fun x9 : MS => x9.2.1 20) eτ288).trans ((tA rg_355).trans (hT 20 rg_269 rg_270 rg_354))))
      have C21 : (τ294).2.1 21 = (σ.2.1 21) := (((hx297 21 rg_158).2.1).trans ((congrArg (fun x9 : MS => x9.2.1 21) eτ288).trans ((tA rg_357).trans (hT 21 rg_234 rg_235 rg_356))))
      have C22 : (τ294).2.1 22 = (σ.2.1 22) := (((hx297 22 rg_164).2.1).trans ((congrArg (fun x9 : MS => x9.2.1 22) eτ288).trans ((tA rg_359).trans (hT 22 rg_178 rg_202 rg_358))))
      have J300 : ∀ p9, p9 = 27 ∨ p9 = 28 → (τ294).2.2.1 p9 = σ.2.2.1 p9 := (fun p9 h9 => ((hx297 p9 (rg_559 p9 h9)).2.2.1).trans ((fun p9 h9 => (congrArg (fun x9 : MS => x9.2.2.1 p9) eτ288).trans (hJ p9 h9)) p9 h9))
      have o79 : sx.toInt = 12 * (σ.1 30).toInt + (σ.2.1 12 (σ.1 30).toNatClampNeg).toInt := by omega
      exact pt_73 τ294 sx pl ow _ _ _ hI296 Xτ294 Mτ294 Lτ294 (show sx.toInt = 12 * (σ.1 30).toInt + (σ.2.1 12 (σ.1 30).toNatClampNeg).toInt from o79) (tabL 1 C11 C12 C13 C14 C15 C16 (Or.inl rg_360) (Or.inr C18) (Or.inr C19) (Or.inr C20) (Or.inr C21) C22) C17 J300 hP hD hS (lv_sub hl [0, 1, 2, 3, 4] rfl)
  refine zH (A := A) (ws := mW h ad cl σ) (fun H hP hS => ?_) hP
  refine lv_bipush (v := 12) hx hb dX12_readStep_0 rg_57 ?_
  refine lv_aload_n hx hb dX12_readStep_2 rfl (lv_at hl 0 rfl) ?_
  refine va_get (D := (dC, dI)) (ci := 12) (v := .int (σ.1 30)) (C := RX12) (T := TX12) (N := 59) hx hb hts hin12 hown hK hP 0 rfl rfl 30 (Nat.le_of_ble_eq_true rfl) (ho (.fieldLink RX12 243 "NearEnoughModel" "rb" "I") (List.mem_of_getElem? (i := 2) rfl)) (fun _ h9 => h9) rfl dX12_readStep_3 ?_
  have bσ_30 : 0 ≤ (σ.1 30).toInt ∧ (σ.1 30).toInt ≤ 1 := hI.1 30
  refine lv_imul hx hb dX12_readStep_6 ?_
  refine lv_topi (fun z301 ez301 => ?_)
  have o80 : -2147483648 ≤ 12 * (σ.1 30).toInt := by omega
  have o81 : 12 * (σ.1 30).toInt ≤ 2147483647 := by omega
  have tz301 : z301.toInt = 12 * (σ.1 30).toInt := ti_mul ez301 rg_58 rfl o80 o81
  refine lv_aload_n hx hb dX12_readStep_7 rfl (lv_at hl 0 rfl) ?_
  refine va_get (D := (dC, dI)) (ci := 12) (v := .ref (ad 12)) (C := RX12) (T := TX12) (N := 59) hx hb hts hin12 hown hK hP 0 rfl rfl 12 (Nat.le_of_ble_eq_true rfl) (ho (.fieldLink RX12 24 "NearEnoughModel" "stepMany" "[I") (List.mem_of_getElem? (i := 1) rfl)) (fun _ h9 => h9) rfl dX12_readStep_8 ?_
  refine lv_aload_n hx hb dX12_readStep_11 rfl (lv_at hl 0 rfl) ?_
  refine va_get (D := (dC, dI)) (ci := 12) (v := .int (σ.1 30)) (C := RX12) (T := TX12) (N := 59) hx hb hts hin12 hown hK hP 0 rfl rfl 30 (Nat.le_of_ble_eq_true rfl) (ho (.fieldLink RX12 243 "NearEnoughModel" "rb" "I") (List.mem_of_getElem? (i := 2) rfl)) (fun _ h9 => h9) rfl dX12_readStep_12 ?_
  have bσ_30 : 0 ≤ (σ.1 30).toInt ∧ (σ.1 30).toInt ≤ 1 := hI.1 30
  have o82 : 0 ≤ (σ.1 30).toInt := by omega
  have o83 : (σ.1 30).toInt < ((2 : Nat) : Int) := by omega
  refine va_iald hx hb hK hP 4 3 rfl rfl (ti_inx o82 o83) dX12_readStep_15 ?_
  refine lv_topi (fun z302 ez302 => ?_)
  have gz302 : z302.toInt = ((σ.2.1 12) (Int32.toNatClampNeg (σ.1 30))).toInt := congrArg Int32.toInt (ez302.trans (congrFun rfl (Int32.toNatClampNeg (σ.1 30))))
  have bz302 : 0 ≤ z302.toInt ∧ z302.toInt ≤ 12 := by rw [ez302]; exact (hI.2 12) _ (cl_lt (n := 2) o82 o83)
  refine lv_iadd hx hb dX12_readStep_16 ?_
  refine lv_topi (fun z303 ez303 => ?_)
  have o84 : -2147483648 ≤ z301.toInt + z302.toInt := by omega
  have o85 : z301.toInt + z302.toInt ≤ 2147483647 := by omega
  have tz303 : z303.toInt = z301.toInt + z302.toInt := ti_add ez303 rfl rfl o84 o85
  refine lv_istore_n (lv' := [(2, .int z303), (0, .ref h), (1, .int k)]) hx hb dX12_readStep_17 rfl hl (Nat.le_of_ble_eq_true rfl) rfl (fun ls hl => ?_)
  refine lv_aload_n hx hb dX12_readStep_18 rfl (lv_at hl 1 rfl) ?_
  refine va_get (D := (dC, dI)) (ci := 12) (v := .int (σ.1 6)) (C := RX12) (T := TX12) (N := 59) hx hb hts hin12 hown hK hP 0 rfl rfl 6 (Nat.le_of_ble_eq_true rfl) (ho (.fieldLink RX12 192 "NearEnoughModel" "at" "I") (List.mem_of_getElem? (i := 18) rfl)) (fun _ h9 => h9) rfl dX12_readStep_19 ?_
  have bσ_6 : 0 ≤ (σ.1 6).toInt ∧ (σ.1 6).toInt ≤ 1000 := hI.1 6
  refine lv_istore_n (lv' := [(3, .int (σ.1 6)), (2, .int z303), (0, .ref h), (1, .int k)]) hx hb dX12_readStep_22 rfl hl (Nat.le_of_ble_eq_true rfl) rfl (fun ls hl => ?_)
  refine lv_aload_n hx hb dX12_readStep_23 rfl (lv_at hl 2 rfl) ?_
  refine zy_v (va_runV (As := []) (rest := []) ⟨hx, hb, hml, hown, hts⟩ (n_fresh l dC dI h ad cl H.size σ  hI) (cwV 0 hts gd_n_readStepV_288_n_fresh rfl rfl rfl dd_n_fresh ⟨Nat.le_of_ble_eq_true rfl, Nat.le_of_ble_eq_true rfl⟩) (preV hP hK hD hE (ci := 12) (q0 := 0) rfl rfl) rfl rfl hl.1 rfl (lv_room (Nat.le_of_ble_eq_true rfl)) dX12_readStep_24 ⟨Nat.le_of_ble_eq_true rfl, Nat.le_of_ble_eq_true rfl⟩) hD hS hA (fun τ304 H locs hq hP hD hS => ?_)
  obtain ⟨hI306, hx307, mo308⟩ := hq
  have Xτ304 : eqx [6, 7, 8, 9, 10, 4, 5, 17, 18, 19, 20, 21, 27, 28, 26, 12] τ304 σ := eqx.tr hx307 eqx.rf rg_210
  have Mτ304 : Mo τ304 σ := Mo.tr mo308 (fun h9 => Mo.rf h9)
  have Lτ304 : Lx τ304 σ := Lx.tr (Lx.of hx307 (Lx.es (Lx.rf hes)) rg_47 rg_48 rg_49) (Lx.rf hes)
  refine W.widen (k := 0) (n := 0) (Nat.le_of_ble_eq_true rfl) (Nat.le_of_ble_eq_true rfl) ?_
  refine lv_aload_n hx hb dX12_readStep_27 rfl (lv_at hl 2 rfl) ?_
  refine va_get (D := (dC, dI)) (ci := 12) (v := .long (τ304.2.2.2 10)) (C := RX12) (T := TX12) (N := 59) hx hb hts hin12 hown hK hP 0 rfl rfl 10 (Nat.le_of_ble_eq_true rfl) (ho (.fieldLink RX12 206 "NearEnoughModel" "name" "J") (List.mem_of_getElem? (i := 19) rfl)) (fun _ h9 => h9) rfl dX12_readStep_28 ?_
  refine lv_lstore (lv' := [(4, .long (τ304.2.2.2 10)), (3, .int (σ.1 6)), (2, .int z303), (0, .ref h), (1, .int k)]) hx hb dX12_readStep_31 hl (Nat.le_of_ble_eq_true rfl) rfl (fun ls hl => ?_)
  refine lv_aload_n hx hb dX12_readStep_33 rfl (lv_at hl 3 rfl) ?_
  refine lv_aload_n hx hb dX12_readStep_34 rfl (lv_at hl 3 rfl) ?_
  refine va_get (D := (dC, dI)) (ci := 12) (v := .int (τ304.1 8)) (C := RX12) (T := TX12) (N := 59) hx hb hts hin12 hown hK hP 0 rfl rfl 8 (Nat.le_of_ble_eq_true rfl) (ho (.fieldLink RX12 199 "NearEnoughModel" "token" "I") (List.mem_of_getElem? (i := 20) rfl)) (fun _ h9 => h9) rfl dX12_readStep_35 ?_
  refine zi (v := (σ.1 8)) (show τ304.1 8 = (σ.1 8) from ((hx307 8 rg_49).1).trans rfl) ?_
  have bb309 : 0 ≤ (σ.1 8).toInt ∧ (σ.1 8).toInt ≤ 5 := by have h9 := hI306.1 8; rw [show (τ304.1 8) = (σ.1 8) from (show τ304.1 8 = (σ.1 8) from ((hx307 8 rg_49).1).trans rfl)] at h9; exact h9
  refine lv_iconst (v := 2) hx hb dX12_readStep_38 rg_19 ?_
  refine lv_icmp_ne (tgt := 46) hx hb dX12_readStep_39 rfl (fun c310 => ?_) (fun c310 => ?_)
  · have tc310 := (show (σ.1 8).toInt ≠ 2 from ti_ne rfl rg_20 c310)
    refine lv_iconst (v := 0) hx hb dX12_readStep_46 rg_0 ?_
    have kk311 : (0 : Int32).toInt = 0 := rg_11
    refine zy_v (va_runV (As := [.int 0]) (rest := []) ⟨hx, hb, hml, hown, hts⟩ (n_must l dC dI h ad cl H.size τ304 0 hI306 (Lx.es Lτ304)) (cwV 1 hts gd_n_readStepV_278_n_must rfl rfl rfl dd_n_must ⟨Nat.le_of_ble_eq_true rfl, Nat.le_of_ble_eq_true rfl⟩) (preV hP hK hD hE (ci := 12) (q0 := 0) rfl rfl) rfl rfl hl.1 rfl (lv_room (Nat.le_of_ble_eq_true rfl)) dX12_readStep_47 ⟨Nat.le_of_ble_eq_true rfl, Nat.le_of_ble_eq_true rfl⟩) hD hS hA (fun τ312 H locs hq hP hD hS => ?_)
    obtain ⟨hI314, hx315, mo316, lx317⟩ := hq
    have Xτ312 : eqx [6, 7, 8, 9, 10, 4, 5, 17, 18, 19, 20, 21, 27, 28, 26, 12] τ312 σ := eqx.tr hx315 Xτ304 rg_238
    have Mτ312 : Mo τ312 σ := Mo.tr mo316 (fun h9 => Mτ304 h9)
    have Lτ312 : Lx τ312 σ := Lx.tr lx317 Lτ304
    refine W.widen (k := 0) (n := 0) (Nat.le_of_ble_eq_true rfl) (Nat.le_of_ble_eq_true rfl) ?_
    have C11 : (τ312).2.1 11 = (σ.2.1 11) := (((hx315 11 rg_104).2.1).trans (((hx307 11 rg_103).2.1).trans rfl))
    have C12 : (τ312).2.1 12 = (σ.2.1 12) := (((hx315 12 rg_110).2.1).trans (((hx307 12 rg_109).2.1).trans rfl))
    have C13 : (τ312).2.1 13 = (σ.2.1 13) := (((hx315 13 rg_116).2.1).trans (((hx307 13 rg_115).2.1).trans rfl))
    have C14 : (τ312).2.1 14 = (σ.2.1 14) := (((hx315 14 rg_122).2.1).trans (((hx307 14 rg_121).2.1).trans rfl))
    have C15 : (τ312).2.1 15 = (σ.2.1 15) := (((hx315 15 rg_100).2.1).trans (((hx307 15 rg_99).2.1).trans rfl))
    have C16 : (τ312).2.1 16 = (σ.2.1 16) := (((hx315 16 rg_129).2.1).trans (((hx307 16 rg_128).2.1).trans rfl))
    have C17 : (τ312).2.1 17 = (σ.2.1 17) := (((hx315 17 rg_134).2.1).trans (((hx307 17 rg_133).2.1).trans rfl))
    have C18 : (τ312).2.1 18 = (σ.2.1 18) := (((hx315 18 rg_140).2.1).trans (((hx307 18 rg_139).2.1).trans rfl))
    have C19 : (τ312).2.1 19 = (σ.2.1 19) := (((hx315 19 rg_146).2.1).trans (((hx307 19 rg_145).2.1).trans rfl))
    have C20 : (τ312).2.1 20 = (σ.2.1 20) := (((hx315 20 rg_152).2.1).trans (((hx307 20 rg_151).2.1).trans rfl))
    have C21 : (τ312).2.1 21 = (σ.2.1 21) := (((hx315 21 rg_158).2.1).trans (((hx307 21 rg_157).2.1).trans rfl))
    have C22 : (τ312).2.1 22 = (σ.2.1 22) := (((hx315 22 rg_164).2.1).trans (((hx307 22 rg_163).2.1).trans rfl))
    have J318 : ∀ p9, p9 = 27 ∨ p9 = 28 → (τ312).2.2.1 p9 = σ.2.2.1 p9 := (fun p9 h9 => ((hx315 p9 (rg_559 p9 h9)).2.2.1).trans ((fun p9 h9 => ((hx307 p9 (rg_558 p9 h9)).2.2.1).trans ((fun _ _ => rfl) p9 h9)) p9 h9))
    have o86 : z303.toInt = 12 * (σ.1 30).toInt + (σ.2.1 12 (σ.1 30).toNatClampNeg).toInt := by omega
    exact pt_50 τ312 z303 (σ.1 6) (τ304.2.2.2 10) _ _ _ hI314 Xτ312 Mτ312 Lτ312 (show z303.toInt = 12 * (σ.1 30).toInt + (σ.2.1 12 (σ.1 30).toNatClampNeg).toInt from o86) (tabL 0 C11 C12 C13 C14 C15 C16 (Or.inr C17) (Or.inr C18) (Or.inr C19) (Or.inr C20) (Or.inr C21) C22) J318 hP hD hS (lv_sub hl [3, 4, 2, 1, 0] rfl)
  · have tc310 := (show (σ.1 8).toInt = 2 from ti_eq rfl rg_20 c310)
    refine lv_iconst (v := 1) hx hb dX12_readStep_42 rg_6 ?_
    refine lv_goto (tgt := 47) hx hb dX12_readStep_43 rfl ?_
    have kk319 : (1 : Int32).toInt = 1 := rg_18
    refine zy_v (va_runV (As := [.int 1]) (rest := []) ⟨hx, hb, hml, hown, hts⟩ (n_must l dC dI h ad cl H.size τ304 1 hI306 (Lx.es Lτ304)) (cwV 1 hts gd_n_readStepV_278_n_must rfl rfl rfl dd_n_must ⟨Nat.le_of_ble_eq_true rfl, Nat.le_of_ble_eq_true rfl⟩) (preV hP hK hD hE (ci := 12) (q0 := 0) rfl rfl) rfl rfl hl.1 rfl (lv_room (Nat.le_of_ble_eq_true rfl)) dX12_readStep_47 ⟨Nat.le_of_ble_eq_true rfl, Nat.le_of_ble_eq_true rfl⟩) hD hS hA (fun τ320 H locs hq hP hD hS => ?_)
    obtain ⟨hI322, hx323, mo324, lx325⟩ := hq
    have Xτ320 : eqx [6, 7, 8, 9, 10, 4, 5, 17, 18, 19, 20, 21, 27, 28, 26, 12] τ320 σ := eqx.tr hx323 Xτ304 rg_238
    have Mτ320 : Mo τ320 σ := Mo.tr mo324 (fun h9 => Mτ304 h9)
    have Lτ320 : Lx τ320 σ := Lx.tr lx325 Lτ304
    refine W.widen (k := 0) (n := 0) (Nat.le_of_ble_eq_true rfl) (Nat.le_of_ble_eq_true rfl) ?_
    have C11 : (τ320).2.1 11 = (σ.2.1 11) := (((hx323 11 rg_104).2.1).trans (((hx307 11 rg_103).2.1).trans rfl))
    have C12 : (τ320).2.1 12 = (σ.2.1 12) := (((hx323 12 rg_110).2.1).trans (((hx307 12 rg_109).2.1).trans rfl))
    have C13 : (τ320).2.1 13 = (σ.2.1 13) := (((hx323 13 rg_116).2.1).trans (((hx307 13 rg_115).2.1).trans rfl))
    have C14 : (τ320).2.1 14 = (σ.2.1 14) := (((hx323 14 rg_122).2.1).trans (((hx307 14 rg_121).2.1).trans rfl))
    have C15 : (τ320).2.1 15 = (σ.2.1 15) := (((hx323 15 rg_100).2.1).trans (((hx307 15 rg_99).2.1).trans rfl))
    have C16 : (τ320).2.1 16 = (σ.2.1 16) := (((hx323 16 rg_129).2.1).trans (((hx307 16 rg_128).2.1).trans rfl))
    have C17 : (τ320).2.1 17 = (σ.2.1 17) := (((hx323 17 rg_134).2.1).trans (((hx307 17 rg_133).2.1).trans rfl))
    have C18 : (τ320).2.1 18 = (σ.2.1 18) := (((hx323 18 rg_140).2.1).trans (((hx307 18 rg_139).2.1).trans rfl))
    have C19 : (τ320).2.1 19 = (σ.2.1 19) := (((hx323 19 rg_146).2.1).trans (((hx307 19 rg_145).2.1).trans rfl))
    have C20 : (τ320).2.1 20 = (σ.2.1 20) := (((hx323 20 rg_152).2.1).trans (((hx307 20 rg_151).2.1).trans rfl))
    have C21 : (τ320).2.1 21 = (σ.2.1 21) := (((hx323 21 rg_158).2.1).trans (((hx307 21 rg_157).2.1).trans rfl))
    have C22 : (τ320).2.1 22 = (σ.2.1 22) := (((hx323 22 rg_164).2.1).trans (((hx307 22 rg_163).2.1).trans rfl))
    have J326 : ∀ p9, p9 = 27 ∨ p9 = 28 → (τ320).2.2.1 p9 = σ.2.2.1 p9 := (fun p9 h9 => ((hx323 p9 (rg_559 p9 h9)).2.2.1).trans ((fun p9 h9 => ((hx307 p9 (rg_558 p9 h9)).2.2.1).trans ((fun _ _ => rfl) p9 h9)) p9 h9))
    have o87 : z303.toInt = 12 * (σ.1 30).toInt + (σ.2.1 12 (σ.1 30).toNatClampNeg).toInt := by omega
    exact pt_50 τ320 z303 (σ.1 6) (τ304.2.2.2 10) _ _ _ hI322 Xτ320 Mτ320 Lτ320 (show z303.toInt = 12 * (σ.1 30).toInt + (σ.2.1 12 (σ.1 30).toNatClampNeg).toInt from o87) (tabL 0 C11 C12 C13 C14 C15 C16 (Or.inr C17) (Or.inr C18) (Or.inr C19) (Or.inr C20) (Or.inr C21) C22) J326 hP hD hS (lv_sub hl [3, 4, 2, 1, 0] rfl)
