

def ow_n_programV : List Cond := [.fieldLink RX12 243 "NearEnoughModel" "rb" "I", .fieldLink RX12 240 "NearEnoughModel" "bank" "I", .fieldLink RX12 249 "NearEnoughModel" "sheets" "I", .fieldLink RX12 252 "NearEnoughModel" "changes" "I", .fieldLink RX12 255 "NearEnoughModel" "guards" "I", .fieldLink RX12 258 "NearEnoughModel" "purse" "I", .fieldLink RX12 24 "NearEnoughModel" "stepMany" "[I", .fieldLink RX12 199 "NearEnoughModel" "token" "I", .fieldLink RX12 137 "NearEnoughModel" "size" "I", .fieldLink RX12 237 "NearEnoughModel" "taped" "I", .fieldLink RX12 189 "NearEnoughModel" "end" "I", .fieldLink RX12 20 "NearEnoughModel" "rowMany" "[I", .fieldLink RX12 27 "NearEnoughModel" "endMany" "[I", .fieldLink RX12 13 "NearEnoughModel" "text" "[B", .fieldLink RX12 7 "NearEnoughModel" "tape" "[B", .fieldLink RX12 140 "NearEnoughModel" "faultKind" "I", .fieldLink RX12 16 "NearEnoughModel" "faultPlace" "I"]
def vs_n_programV : List Cond := .code yX12_program cX12_program 2 (some .int) :: (ow_n_programV ++ (([.methodLink RX12 224 yX12_isGood, .instanceMethod yX12_isGood, .selects RX12 yX12_isGood yX12_isGood, .initialized RX12] : List Cond) ++ (vs_n_isGood ++ (([.methodLink RX12 246 yX12_readLine, .instanceMethod yX12_readLine, .selects RX12 yX12_readLine yX12_readLine, .initialized RX12] : List Cond) ++ (vs_n_readLineV ++ (([.methodLink RX12 228 yX12_next, .instanceMethod yX12_next, .selects RX12 yX12_next yX12_next, .initialized RX12] : List Cond) ++ (vs_n_next ++ (wsX120))))))))
theorem vg_n_programV : vs_n_programV.all goodWord = true := by decide +kernel
theorem dd_n_programV : yX12_program.cls = RX12 ∧ yX12_program.cls ≠ "java/lang/invoke/MethodHandle" ∧ yX12_program.cls ≠ "java/lang/invoke/VarHandle" ∧ (parseMethodDescriptor yX12_program.desc).map (fun d => d.parameters.length) = some 0 := by decide +kernel
def rm_n_programV : Room := { frames := 6, cells := 0, slots := 0, locals := 132 }
theorem gd_n_programV_224_n_isGood : GoodIn vs_n_programV (wsV RX12 224 RX12 yX12_isGood vs_n_isGood) := goodIn_app (goodIn_sub (fun w h => (List.mem_cons_of_mem _ (List.mem_append_right _ (List.mem_append_left _ h)))) (by decide +kernel)) (goodIn_sub (fun w h => (List.mem_cons_of_mem _ (List.mem_append_right _ (List.mem_append_right _ (List.mem_append_left _ h))))) vg_n_isGood)
theorem gd_n_programV_246_n_readLineV : GoodIn vs_n_programV (wsV RX12 246 RX12 yX12_readLine vs_n_readLineV) := goodIn_app (goodIn_sub (fun w h => (List.mem_cons_of_mem _ (List.mem_append_right _ (List.mem_append_right _ (List.mem_append_right _ (List.mem_append_left _ h)))))) (by decide +kernel)) (goodIn_sub (fun w h => (List.mem_cons_of_mem _ (List.mem_append_right _ (List.mem_append_right _ (List.mem_append_right _ (List.mem_append_right _ (List.mem_append_left _ h))))))) vg_n_readLineV)
theorem gd_n_programV_228_n_next : GoodIn vs_n_programV (wsV RX12 228 RX12 yX12_next vs_n_next) := goodIn_app (goodIn_sub (fun w h => (List.mem_cons_of_mem _ (List.mem_append_right _ (List.mem_append_right _ (List.mem_append_right _ (List.mem_append_right _ (List.mem_append_right _ (List.mem_append_left _ h)))))))) (by decide +kernel)) (goodIn_sub (fun w h => (List.mem_cons_of_mem _ (List.mem_append_right _ (List.mem_append_right _ (List.mem_append_right _ (List.mem_append_right _ (List.mem_append_right _ (List.mem_append_right _ (List.mem_append_left _ h))))))))) vg_n_next)
set_option maxHeartbeats 4000000 in
set_option maxRecDepth 100000 in
theorem n_programV (l : Launch) (dC : Nat → ClassId) (dI : Nat → Nat → Nat) (h : Nat) (ad : Nat → Nat) (cl : Nat → ClassId) (sz : Nat) (σ : MS)  (hI : Inv σ) : Met l yX12_program vs_n_programV rm_n_programV (va_Pc [.ref h] (wSt dC dI (mW h ad cl σ) (mT cl) sz)) (va_Qi (fun (r : Int32) (τ : MS) => Inv τ ∧ eqx [4, 5, 3, 1, 2, 30, 6, 7, 8, 9, 10, 25, 14, 15, 16, 11, 17, 18, 19, 20, 21, 27, 28, 26, 12, 22, 23, 24, 13, 29, 39, 40, 53, 58] τ σ ∧ (RelP σ (σ.1 29).toNatClampNeg → ((eqx [4, 5, 3, 1, 2, 30, 6, 7, 8, 9, 10, 25, 14, 15, 16, 11, 17, 18, 19, 20, 21, 27, 28, 26, 12, 22, 23, 24, 13] τ σ ∧ τ.1 29 = σ.1 29 ∧ SameB τ σ (σ.1 29).toNatClampNeg) ∨ (RelP τ (τ.1 29).toNatClampNeg ∧ (τ.1 39) = 0 ∧ (τ.1 40) = 0 ∧ (τ.1 53) = 0))) ∧ (RelP σ (σ.1 29).toNatClampNeg → RelJ σ (σ.1 29).toNatClampNeg → RelJ τ (τ.1 29).toNatClampNeg)) (fun (τ : MS) => wEn dC dI (va_A (mW h ad cl σ) sz) (mW h ad cl τ) []) (va_A (mW h ad cl σ) sz)) 0 0 (va_A (mW h ad cl σ) sz) := by
  refine Met.ofW (cc := cX12_program) (maxL := 2) (ret := (some .int)) (by decide) rfl ?_
  intro p e s m args below meth c s₁ B hml hv
  obtain ⟨rfl, hsz, hP, hK, hD0, hE⟩ := hv
  have hx := B.exec
  have hb := B.bytes
  have hr := B.returns
  have hts := atoms_spec (ws := vs_n_programV) B.pre
  have hown : s.vm.findClass RX12 = some m.cls := findClass_of_methodNamed B.named
  have hlocks := B.notSynchronized
  subst hsz
  have hD := hD0.self (sz := s.heap.size)
  generalize hAe : va_A (mW h ad cl σ) s.heap.size = A at hD ⊢
  have hA : ∀ q : Nat, s.heap.size ≤ q → A q := fun q h => by rw [← hAe]; exact Or.inr h
  have hl := lv_entry ([.ref h]) (n := 2) (Nat.le_of_ble_eq_true rfl)
  rw [lg_entry_eq]
  generalize (lg_sl ([.ref h]) ++ List.replicate (2 - (lg_sl ([.ref h])).length) Slot.unset).toArray = ls at hl ⊢
  have hl : lv_has ls 2 [(0, .ref h)] := hl
  have ho := fun w (h : w ∈ ow_n_programV) => hts w (List.mem_cons_of_mem _ (List.mem_append_left _ h))
  have hin12 : ∀ w ∈ u_ws RX12 TX12 59, w ∈ vs_n_programV := fun w h => (List.mem_cons_of_mem _ (List.mem_append_right _ (List.mem_append_right _ (List.mem_append_right _ (List.mem_append_right _ (List.mem_append_right _ (List.mem_append_right _ (List.mem_append_right _ h))))))))
  refine zQ (fun Q hQ => ?_)
  have bkσ : 0 ≤ (σ.1 29).toInt ∧ (σ.1 29).toInt ≤ 1 := hI.1 29
  have pt_100 : ∀ (n100 : Nat) (τ : MS) (H : Heap) (locs : List Loc) (ls : Array Slot), ms τ < n100 → (Inv τ) → (eqx [4, 5, 3, 1, 2, 30, 6, 7, 8, 9, 10, 25, 14, 15, 16, 11, 17, 18, 19, 20, 21, 27, 28, 26, 12, 22, 23, 24, 13] τ σ) → (τ.1 29 = σ.1 29) → ((τ.1 30).toInt = 1 - (σ.1 29).toInt) → (Es τ) → (When τ (RelP τ (τ.1 30).toNatClampNeg)) → (SameB τ σ (σ.1 29).toNatClampNeg) → (When τ (RelJ τ (τ.1 30).toNatClampNeg)) → (SameJ τ σ (σ.1 29).toNatClampNeg) → va_P (dC, dI) vwCl (mW h ad cl τ) H → va_D A (mW h ad cl τ) → va_S A s.heap H locs → lv_has ls 2 [(0, .ref h)] → W p l e (headSpec vs_n_programV rm_n_programV).room s m #[Value.ref h] below meth c H locs 0 0 Q (F0 m 100 ls []) := by
    intro n100
    induction n100 with
    | zero => intro τ H locs ls hn100 hIτ hxτ hbk hz hesτ hw0 hold hwJ holdJ hP hD hS hl; exact absurd hn100 (Nat.not_lt_zero _)
    | succ n100 ih100 =>
      intro τ H locs ls hn100 hIτ hxτ hbk hz hesτ hw0 hold hwJ holdJ hP hD hS hl
      refine lv_aload_n hx hb dX12_program_100 rfl (lv_at hl 0 rfl) ?_
      refine zy_i (va_runV (As := []) (rest := []) ⟨hx, hb, hml, hown, hts⟩ (n_isGood l dC dI h ad cl H.size τ  hIτ) (cwV 0 hts gd_n_programV_224_n_isGood rfl rfl rfl dd_n_isGood ⟨Nat.le_of_ble_eq_true rfl, Nat.le_of_ble_eq_true rfl⟩) (preV hP hK hD hE (ci := 12) (q0 := 0) rfl rfl) rfl rfl hl.1 rfl (lv_room (Nat.le_of_ble_eq_true rfl)) dX12_program_101 ⟨Nat.le_of_ble_eq_true rfl, Nat.le_of_ble_eq_true rfl⟩) hD hS hA (fun z2 τ1 H locs hq hP hD hS => ?_)
      obtain ⟨rfl, f3⟩ := hq
      refine W.widen (k := 0) (n := 0) (Nat.le_of_ble_eq_true rfl) (Nat.le_of_ble_eq_true rfl) ?_
      refine lv_if_eq (tgt := 121) hx hb dX12_program_104 rfl (fun c4 => ?_) (fun c4 => ?_)
      · have tc4 := (show z2.toInt = 0 from ti_eq rfl rg_11 c4)
        refine lv_aload_n hx hb dX12_program_121 rfl (lv_at hl 0 rfl) ?_
        refine zy_i (va_runV (As := []) (rest := []) ⟨hx, hb, hml, hown, hts⟩ (n_isGood l dC dI h ad cl H.size τ  hIτ) (cwV 0 hts gd_n_programV_224_n_isGood rfl rfl rfl dd_n_isGood ⟨Nat.le_of_ble_eq_true rfl, Nat.le_of_ble_eq_true rfl⟩) (preV hP hK hD hE (ci := 12) (q0 := 0) rfl rfl) rfl rfl hl.1 rfl (lv_room (Nat.le_of_ble_eq_true rfl)) dX12_program_122 ⟨Nat.le_of_ble_eq_true rfl, Nat.le_of_ble_eq_true rfl⟩) hD hS hA (fun z6 τ5 H locs hq hP hD hS => ?_)
        obtain ⟨rfl, f7⟩ := hq
        refine W.widen (k := 0) (n := 0) (Nat.le_of_ble_eq_true rfl) (Nat.le_of_ble_eq_true rfl) ?_
        refine lv_if_ne (tgt := 130) hx hb dX12_program_125 rfl (fun c8 => ?_) (fun c8 => ?_)
        · have tc8 := (show z6.toInt ≠ 0 from ti_ne rfl rg_11 c8)
          refine lv_aload_n hx hb dX12_program_130 rfl (lv_at hl 0 rfl) ?_
          refine lv_aload_n hx hb dX12_program_131 rfl (lv_at hl 0 rfl) ?_
          refine va_get (D := (dC, dI)) (ci := 12) (v := .int (τ.1 30)) (C := RX12) (T := TX12) (N := 59) hx hb hts hin12 hown hK hP 0 rfl rfl 30 (Nat.le_of_ble_eq_true rfl) (ho (.fieldLink RX12 243 "NearEnoughModel" "rb" "I") (List.mem_of_getElem? (i := 0) rfl)) (fun _ h9 => h9) rfl dX12_program_132 ?_
          have bτ_30 : 0 ≤ (τ.1 30).toInt ∧ (τ.1 30).toInt ≤ 1 := hIτ.1 30
          refine va_put (D := (dC, dI)) (ci := 12) (v := .int (τ.1 30)) (ty := tyX12 29) (C := RX12) (T := TX12) (N := 59) hx hb hts hin12 tyX12 tyX12_ok nmX12 hown hK hP hD hS 0 rfl rfl 29 (Nat.le_of_ble_eq_true rfl) (ho (.fieldLink RX12 240 "NearEnoughModel" "bank" "I") (List.mem_of_getElem? (i := 1) rfl)) (fun _ h9 => h9) rfl (tyX12_ok 29 (Nat.le_of_ble_eq_true rfl)) rfl rfl (Nat.le_of_ble_eq_true rfl) dX12_program_135 (fun H locs hP hD hS => ?_)
          have hP : va_P (dC, dI) vwCl (mW h ad cl (sI τ 29 (τ.1 30))) H := hP
          have hD : va_D A (mW h ad cl (sI τ 29 (τ.1 30))) := hD
          refine lv_aload_n hx hb dX12_program_138 rfl (lv_at hl 0 rfl) ?_
          refine lv_iconst (v := 0) hx hb dX12_program_139 rg_0 ?_
          refine va_put (D := (dC, dI)) (ci := 12) (v := .int 0) (ty := tyX12 39) (C := RX12) (T := TX12) (N := 59) hx hb hts hin12 tyX12 tyX12_ok nmX12 hown hK hP hD hS 0 rfl rfl 39 (Nat.le_of_ble_eq_true rfl) (ho (.fieldLink RX12 249 "NearEnoughModel" "sheets" "I") (List.mem_of_getElem? (i := 2) rfl)) (fun _ h9 => h9) rfl (tyX12_ok 39 (Nat.le_of_ble_eq_true rfl)) rfl rfl (Nat.le_of_ble_eq_true rfl) dX12_program_140 (fun H locs hP hD hS => ?_)
          have hP : va_P (dC, dI) vwCl (mW h ad cl (sI (sI τ 29 (τ.1 30)) 39 0)) H := hP
          have hD : va_D A (mW h ad cl (sI (sI τ 29 (τ.1 30)) 39 0)) := hD
          refine lv_aload_n hx hb dX12_program_143 rfl (lv_at hl 0 rfl) ?_
          refine lv_iconst (v := 0) hx hb dX12_program_144 rg_0 ?_
          refine va_put (D := (dC, dI)) (ci := 12) (v := .int 0) (ty := tyX12 40) (C := RX12) (T := TX12) (N := 59) hx hb hts hin12 tyX12 tyX12_ok nmX12 hown hK hP hD hS 0 rfl rfl 40 (Nat.le_of_ble_eq_true rfl) (ho (.fieldLink RX12 252 "NearEnoughModel" "changes" "I") (List.mem_of_getElem? (i := 3) rfl)) (fun _ h9 => h9) rfl (tyX12_ok 40 (Nat.le_of_ble_eq_true rfl)) rfl rfl (Nat.le_of_ble_eq_true rfl) dX12_program_145 (fun H locs hP hD hS => ?_)
          have hP : va_P (dC, dI) vwCl (mW h ad cl (sI (sI (sI τ 29 (τ.1 30)) 39 0) 40 0)) H := hP
          have hD : va_D A (mW h ad cl (sI (sI (sI τ 29 (τ.1 30)) 39 0) 40 0)) := hD
          refine lv_aload_n hx hb dX12_program_148 rfl (lv_at hl 0 rfl) ?_
          refine lv_iconst (v := 0) hx hb dX12_program_149 rg_0 ?_
          refine va_put (D := (dC, dI)) (ci := 12) (v := .int 0) (ty := tyX12 53) (C := RX12) (T := TX12) (N := 59) hx hb hts hin12 tyX12 tyX12_ok nmX12 hown hK hP hD hS 0 rfl rfl 53 (Nat.le_of_ble_eq_true rfl) (ho (.fieldLink RX12 255 "NearEnoughModel" "guards" "I") (List.mem_of_getElem? (i := 4) rfl)) (fun _ h9 => h9) rfl (tyX12_ok 53 (Nat.le_of_ble_eq_true rfl)) rfl rfl (Nat.le_of_ble_eq_true rfl) dX12_program_150 (fun H locs hP hD hS => ?_)
          have hP : va_P (dC, dI) vwCl (mW h ad cl (sI (sI (sI (sI τ 29 (τ.1 30)) 39 0) 40 0) 53 0)) H := hP
          have hD : va_D A (mW h ad cl (sI (sI (sI (sI τ 29 (τ.1 30)) 39 0) 40 0) 53 0)) := hD
          refine lv_aload_n hx hb dX12_program_153 rfl (lv_at hl 0 rfl) ?_
          refine lv_iconst (v := 0) hx hb dX12_program_154 rg_0 ?_
          refine va_put (D := (dC, dI)) (ci := 12) (v := .int 0) (ty := tyX12 58) (C := RX12) (T := TX12) (N := 59) hx hb hts hin12 tyX12 tyX12_ok nmX12 hown hK hP hD hS 0 rfl rfl 58 (Nat.le_of_ble_eq_true rfl) (ho (.fieldLink RX12 258 "NearEnoughModel" "purse" "I") (List.mem_of_getElem? (i := 5) rfl)) (fun _ h9 => h9) rfl (tyX12_ok 58 (Nat.le_of_ble_eq_true rfl)) rfl rfl (Nat.le_of_ble_eq_true rfl) dX12_program_155 (fun H locs hP hD hS => ?_)
          have hP : va_P (dC, dI) vwCl (mW h ad cl (sI (sI (sI (sI (sI τ 29 (τ.1 30)) 39 0) 40 0) 53 0) 58 0)) H := hP
          have hD : va_D A (mW h ad cl (sI (sI (sI (sI (sI τ 29 (τ.1 30)) 39 0) 40 0) 53 0) 58 0)) := hD
          refine lv_aload_n hx hb dX12_program_158 rfl (lv_at hl 0 rfl) ?_
          refine va_get (D := (dC, dI)) (ci := 12) (v := .ref (ad 12)) (C := RX12) (T := TX12) (N := 59) hx hb hts hin12 hown hK hP 0 rfl rfl 12 (Nat.le_of_ble_eq_true rfl) (ho (.fieldLink RX12 24 "NearEnoughModel" "stepMany" "[I") (List.mem_of_getElem? (i := 6) rfl)) (fun _ h9 => h9) rfl dX12_program_159 ?_
          refine lv_aload_n hx hb dX12_program_162 rfl (lv_at hl 0 rfl) ?_
          refine va_get (D := (dC, dI)) (ci := 12) (v := .int (τ.1 30)) (C := RX12) (T := TX12) (N := 59) hx hb hts hin12 hown hK hP 0 rfl rfl 29 (Nat.le_of_ble_eq_true rfl) (ho (.fieldLink RX12 240 "NearEnoughModel" "bank" "I") (List.mem_of_getElem? (i := 1) rfl)) (fun _ h9 => h9) rfl dX12_program_163 ?_
          have o1 : 0 ≤ (τ.1 30).toInt := by omega
          have o2 : (τ.1 30).toInt < ((2 : Nat) : Int) := by omega
          refine va_iald hx hb hK hP 4 3 rfl rfl (ti_inx o1 o2) dX12_program_166 ?_
          refine lv_topi (fun z9 ez9 => ?_)
          have gz9 : z9.toInt = ((τ.2.1 12) (Int32.toNatClampNeg (τ.1 30))).toInt := congrArg Int32.toInt (ez9.trans (congrFun (tI.trans (tI.trans (tI.trans (tI.trans tI)))) (Int32.toNatClampNeg (τ.1 30))))
          have bz9 : 0 ≤ z9.toInt ∧ z9.toInt ≤ 12 := by rw [ez9]; exact (hIτ.2 12) _ (cl_lt (n := 2) o1 o2)
          rw [hQ]
          have o3 : (τ.1 4).toInt = 0 := by omega
          have o4 : (0 : Int) ≤ (τ.1 30).toInt := by omega
          have o5 : (τ.1 30).toInt ≤ 1 := by omega
          exact W.iret (v := z9) hx hb hr (fun t ht hW => ⟨⟨z9, (sI (sI (sI (sI (sI τ 29 (τ.1 30)) 39 0) 40 0) 53 0) 58 0), rfl, ⟨(Inv.sI (k := 58) (v := 0) (Inv.sI (k := 53) (v := 0) (Inv.sI (k := 40) (v := 0) (Inv.sI (k := 39) (v := 0) (Inv.sI (k := 29) (v := (τ.1 30)) hIτ (show (0 : Int) ≤ (τ.1 30).toInt ∧ (τ.1 30).toInt ≤ 1 from ⟨o4, o5⟩)) rg_457) rg_458) rg_459) rg_460), (eqx.sI (eqx.sI (eqx.sI (eqx.sI (eqx.sI (eqx.mono hxτ rg_451) rg_452) rg_453) rg_454) rg_455) rg_456), (fun _ => Or.inr ⟨(show RelP τ (τ.1 30).toNatClampNeg from hw0 o3), rfl, rfl, rfl⟩), (fun _ _ => (show RelJ τ (τ.1 30).toNatClampNeg from hwJ o3))⟩, wEn_of hP (hK.sub [] rfl) hD ht hW⟩, hS.F ht⟩) hS.2.2 dX12_program_167
        · have tc8 := (show z6.toInt = 0 from ti_eq rfl rg_11 c8)
          refine lv_iconst (v := (-1)) hx hb dX12_program_128 rg_53 ?_
          rw [hQ]
          exact W.iret (v := (-1)) hx hb hr (fun t ht hW => ⟨⟨(-1), τ, rfl, ⟨hIτ, (eqx.mono hxτ rg_451), (fun hr9 => Or.inl ⟨hxτ, hbk, hold⟩), (fun hP9 hJ9 => (show RelJ τ (τ.1 29).toNatClampNeg by rw [hbk]; exact RelJ.same hI (bk2 hI) hP9 hJ9 hold holdJ))⟩, wEn_of hP (hK.sub [] rfl) hD ht hW⟩, hS.F ht⟩) hS.2.2 dX12_program_129
      · have tc4 := (show z2.toInt ≠ 0 from ti_ne rfl rg_11 c4)
        refine lv_aload_n hx hb dX12_program_107 rfl (lv_at hl 0 rfl) ?_
        refine va_get (D := (dC, dI)) (ci := 12) (v := .int (τ.1 8)) (C := RX12) (T := TX12) (N := 59) hx hb hts hin12 hown hK hP 0 rfl rfl 8 (Nat.le_of_ble_eq_true rfl) (ho (.fieldLink RX12 199 "NearEnoughModel" "token" "I") (List.mem_of_getElem? (i := 7) rfl)) (fun _ h9 => h9) rfl dX12_program_108 ?_
        have bτ_8 : 0 ≤ (τ.1 8).toInt ∧ (τ.1 8).toInt ≤ 5 := hIτ.1 8
        refine lv_if_eq (tgt := 121) hx hb dX12_program_111 rfl (fun c10 => ?_) (fun c10 => ?_)
        · have tc10 := (show (τ.1 8).toInt = 0 from ti_eq rfl rg_11 c10)
          refine lv_aload_n hx hb dX12_program_121 rfl (lv_at hl 0 rfl) ?_
          refine zy_i (va_runV (As := []) (rest := []) ⟨hx, hb, hml, hown, hts⟩ (n_isGood l dC dI h ad cl H.size τ  hIτ) (cwV 0 hts gd_n_programV_224_n_isGood rfl rfl rfl dd_n_isGood ⟨Nat.le_of_ble_eq_true rfl, Nat.le_of_ble_eq_true rfl⟩) (preV hP hK hD hE (ci := 12) (q0 := 0) rfl rfl) rfl rfl hl.1 rfl (lv_room (Nat.le_of_ble_eq_true rfl)) dX12_program_122 ⟨Nat.le_of_ble_eq_true rfl, Nat.le_of_ble_eq_true rfl⟩) hD hS hA (fun z12 τ11 H locs hq hP hD hS => ?_)
          obtain ⟨rfl, f13⟩ := hq
          refine W.widen (k := 0) (n := 0) (Nat.le_of_ble_eq_true rfl) (Nat.le_of_ble_eq_true rfl) ?_
          refine lv_if_ne (tgt := 130) hx hb dX12_program_125 rfl (fun c14 => ?_) (fun c14 => ?_)
          · have tc14 := (show z12.toInt ≠ 0 from ti_ne rfl rg_11 c14)
            refine lv_aload_n hx hb dX12_program_130 rfl (lv_at hl 0 rfl) ?_
            refine lv_aload_n hx hb dX12_program_131 rfl (lv_at hl 0 rfl) ?_
            refine va_get (D := (dC, dI)) (ci := 12) (v := .int (τ.1 30)) (C := RX12) (T := TX12) (N := 59) hx hb hts hin12 hown hK hP 0 rfl rfl 30 (Nat.le_of_ble_eq_true rfl) (ho (.fieldLink RX12 243 "NearEnoughModel" "rb" "I") (List.mem_of_getElem? (i := 0) rfl)) (fun _ h9 => h9) rfl dX12_program_132 ?_
            have bτ_30 : 0 ≤ (τ.1 30).toInt ∧ (τ.1 30).toInt ≤ 1 := hIτ.1 30
            refine va_put (D := (dC, dI)) (ci := 12) (v := .int (τ.1 30)) (ty := tyX12 29) (C := RX12) (T := TX12) (N := 59) hx hb hts hin12 tyX12 tyX12_ok nmX12 hown hK hP hD hS 0 rfl rfl 29 (Nat.le_of_ble_eq_true rfl) (ho (.fieldLink RX12 240 "NearEnoughModel" "bank" "I") (List.mem_of_getElem? (i := 1) rfl)) (fun _ h9 => h9) rfl (tyX12_ok 29 (Nat.le_of_ble_eq_true rfl)) rfl rfl (Nat.le_of_ble_eq_true rfl) dX12_program_135 (fun H locs hP hD hS => ?_)
            have hP : va_P (dC, dI) vwCl (mW h ad cl (sI τ 29 (τ.1 30))) H := hP
            have hD : va_D A (mW h ad cl (sI τ 29 (τ.1 30))) := hD
            refine lv_aload_n hx hb dX12_program_138 rfl (lv_at hl 0 rfl) ?_
            refine lv_iconst (v := 0) hx hb dX12_program_139 rg_0 ?_
            refine va_put (D := (dC, dI)) (ci := 12) (v := .int 0) (ty := tyX12 39) (C := RX12) (T := TX12) (N := 59) hx hb hts hin12 tyX12 tyX12_ok nmX12 hown hK hP hD hS 0 rfl rfl 39 (Nat.le_of_ble_eq_true rfl) (ho (.fieldLink RX12 249 "NearEnoughModel" "sheets" "I") (List.mem_of_getElem? (i := 2) rfl)) (fun _ h9 => h9) rfl (tyX12_ok 39 (Nat.le_of_ble_eq_true rfl)) rfl rfl (Nat.le_of_ble_eq_true rfl) dX12_program_140 (fun H locs hP hD hS => ?_)
            have hP : va_P (dC, dI) vwCl (mW h ad cl (sI (sI τ 29 (τ.1 30)) 39 0)) H := hP
            have hD : va_D A (mW h ad cl (sI (sI τ 29 (τ.1 30)) 39 0)) := hD
            refine lv_aload_n hx hb dX12_program_143 rfl (lv_at hl 0 rfl) ?_
            refine lv_iconst (v := 0) hx hb dX12_program_144 rg_0 ?_
            refine va_put (D := (dC, dI)) (ci := 12) (v := .int 0) (ty := tyX12 40) (C := RX12) (T := TX12) (N := 59) hx hb hts hin12 tyX12 tyX12_ok nmX12 hown hK hP hD hS 0 rfl rfl 40 (Nat.le_of_ble_eq_true rfl) (ho (.fieldLink RX12 252 "NearEnoughModel" "changes" "I") (List.mem_of_getElem? (i := 3) rfl)) (fun _ h9 => h9) rfl (tyX12_ok 40 (Nat.le_of_ble_eq_true rfl)) rfl rfl (Nat.le_of_ble_eq_true rfl) dX12_program_145 (fun H locs hP hD hS => ?_)
            have hP : va_P (dC, dI) vwCl (mW h ad cl (sI (sI (sI τ 29 (τ.1 30)) 39 0) 40 0)) H := hP
            have hD : va_D A (mW h ad cl (sI (sI (sI τ 29 (τ.1 30)) 39 0) 40 0)) := hD
            refine lv_aload_n hx hb dX12_program_148 rfl (lv_at hl 0 rfl) ?_
            refine lv_iconst (v := 0) hx hb dX12_program_149 rg_0 ?_
            refine va_put (D := (dC, dI)) (ci := 12) (v := .int 0) (ty := tyX12 53) (C := RX12) (T := TX12) (N := 59) hx hb hts hin12 tyX12 tyX12_ok nmX12 hown hK hP hD hS 0 rfl rfl 53 (Nat.le_of_ble_eq_true rfl) (ho (.fieldLink RX12 255 "NearEnoughModel" "guards" "I") (List.mem_of_getElem? (i := 4) rfl)) (fun _ h9 => h9) rfl (tyX12_ok 53 (Nat.le_of_ble_eq_true rfl)) rfl rfl (Nat.le_of_ble_eq_true rfl) dX12_program_150 (fun H locs hP hD hS => ?_)
            have hP : va_P (dC, dI) vwCl (mW h ad cl (sI (sI (sI (sI τ 29 (τ.1 30)) 39 0) 40 0) 53 0)) H := hP
            have hD : va_D A (mW h ad cl (sI (sI (sI (sI τ 29 (τ.1 30)) 39 0) 40 0) 53 0)) := hD
            refine lv_aload_n hx hb dX12_program_153 rfl (lv_at hl 0 rfl) ?_
            refine lv_iconst (v := 0) hx hb dX12_program_154 rg_0 ?_
            refine va_put (D := (dC, dI)) (ci := 12) (v := .int 0) (ty := tyX12 58) (C := RX12) (T := TX12) (N := 59) hx hb hts hin12 tyX12 tyX12_ok nmX12 hown hK hP hD hS 0 rfl rfl 58 (Nat.le_of_ble_eq_true rfl) (ho (.fieldLink RX12 258 "NearEnoughModel" "purse" "I") (List.mem_of_getElem? (i := 5) rfl)) (fun _ h9 => h9) rfl (tyX12_ok 58 (Nat.le_of_ble_eq_true rfl)) rfl rfl (Nat.le_of_ble_eq_true rfl) dX12_program_155 (fun H locs hP hD hS => ?_)
            have hP : va_P (dC, dI) vwCl (mW h ad cl (sI (sI (sI (sI (sI τ 29 (τ.1 30)) 39 0) 40 0) 53 0) 58 0)) H := hP
            have hD : va_D A (mW h ad cl (sI (sI (sI (sI (sI τ 29 (τ.1 30)) 39 0) 40 0) 53 0) 58 0)) := hD
            refine lv_aload_n hx hb dX12_program_158 rfl (lv_at hl 0 rfl) ?_
            refine va_get (D := (dC, dI)) (ci := 12) (v := .ref (ad 12)) (C := RX12) (T := TX12) (N := 59) hx hb hts hin12 hown hK hP 0 rfl rfl 12 (Nat.le_of_ble_eq_true rfl) (ho (.fieldLink RX12 24 "NearEnoughModel" "stepMany" "[I") (List.mem_of_getElem? (i := 6) rfl)) (fun _ h9 => h9) rfl dX12_program_159 ?_
            refine lv_aload_n hx hb dX12_program_162 rfl (lv_at hl 0 rfl) ?_
            refine va_get (D := (dC, dI)) (ci := 12) (v := .int (τ.1 30)) (C := RX12) (T := TX12) (N := 59) hx hb hts hin12 hown hK hP 0 rfl rfl 29 (Nat.le_of_ble_eq_true rfl) (ho (.fieldLink RX12 240 "NearEnoughModel" "bank" "I") (List.mem_of_getElem? (i := 1) rfl)) (fun _ h9 => h9) rfl dX12_program_163 ?_
            have o6 : 0 ≤ (τ.1 30).toInt := by omega
            have o7 : (τ.1 30).toInt < ((2 : Nat) : Int) := by omega
            refine va_iald hx hb hK hP 4 3 rfl rfl (ti_inx o6 o7) dX12_program_166 ?_
            refine lv_topi (fun z15 ez15 => ?_)
            have gz15 : z15.toInt = ((τ.2.1 12) (Int32.toNatClampNeg (τ.1 30))).toInt := congrArg Int32.toInt (ez15.trans (congrFun (tI.trans (tI.trans (tI.trans (tI.trans tI)))) (Int32.toNatClampNeg (τ.1 30))))
            have bz15 : 0 ≤ z15.toInt ∧ z15.toInt ≤ 12 := by rw [ez15]; exact (hIτ.2 12) _ (cl_lt (n := 2) o6 o7)
            rw [hQ]
            have o8 : (τ.1 4).toInt = 0 := by omega
            have o9 : (0 : Int) ≤ (τ.1 30).toInt := by omega
            have o10 : (τ.1 30).toInt ≤ 1 := by omega
            exact W.iret (v := z15) hx hb hr (fun t ht hW => ⟨⟨z15, (sI (sI (sI (sI (sI τ 29 (τ.1 30)) 39 0) 40 0) 53 0) 58 0), rfl, ⟨(Inv.sI (k := 58) (v := 0) (Inv.sI (k := 53) (v := 0) (Inv.sI (k := 40) (v := 0) (Inv.sI (k := 39) (v := 0) (Inv.sI (k := 29) (v := (τ.1 30)) hIτ (show (0 : Int) ≤ (τ.1 30).toInt ∧ (τ.1 30).toInt ≤ 1 from ⟨o9, o10⟩)) rg_457) rg_458) rg_459) rg_460), (eqx.sI (eqx.sI (eqx.sI (eqx.sI (eqx.sI (eqx.mono hxτ rg_451) rg_452) rg_453) rg_454) rg_455) rg_456), (fun _ => Or.inr ⟨(show RelP τ (τ.1 30).toNatClampNeg from hw0 o8), rfl, rfl, rfl⟩), (fun _ _ => (show RelJ τ (τ.1 30).toNatClampNeg from hwJ o8))⟩, wEn_of hP (hK.sub [] rfl) hD ht hW⟩, hS.F ht⟩) hS.2.2 dX12_program_167
          · have tc14 := (show z12.toInt = 0 from ti_eq rfl rg_11 c14)
            refine lv_iconst (v := (-1)) hx hb dX12_program_128 rg_53 ?_
            rw [hQ]
            exact W.iret (v := (-1)) hx hb hr (fun t ht hW => ⟨⟨(-1), τ, rfl, ⟨hIτ, (eqx.mono hxτ rg_451), (fun hr9 => Or.inl ⟨hxτ, hbk, hold⟩), (fun hP9 hJ9 => (show RelJ τ (τ.1 29).toNatClampNeg by rw [hbk]; exact RelJ.same hI (bk2 hI) hP9 hJ9 hold holdJ))⟩, wEn_of hP (hK.sub [] rfl) hD ht hW⟩, hS.F ht⟩) hS.2.2 dX12_program_129
        · have tc10 := (show (τ.1 8).toInt ≠ 0 from ti_ne rfl rg_11 c10)
          refine lv_aload_n hx hb dX12_program_114 rfl (lv_at hl 0 rfl) ?_
          refine zy_v (va_runV (As := []) (rest := []) ⟨hx, hb, hml, hown, hts⟩ (n_readLineV l dC dI h ad cl H.size τ  hIτ hesτ) (cwV 0 hts gd_n_programV_246_n_readLineV rfl rfl rfl dd_n_readLineV ⟨Nat.le_of_ble_eq_true rfl, Nat.le_of_ble_eq_true rfl⟩) (preV hP hK hD hE (ci := 12) (q0 := 0) rfl rfl) rfl rfl hl.1 rfl (lv_room (Nat.le_of_ble_eq_true rfl)) dX12_program_115 ⟨Nat.le_of_ble_eq_true rfl, Nat.le_of_ble_eq_true rfl⟩) hD hS hA (fun τ16 H locs hq hP hD hS => ?_)
          obtain ⟨hI18, hx19, f20, f21, f22, f23, f24, mo25, lx26⟩ := hq
          have Xτ16 : eqx [4, 5, 3, 1, 2, 30, 6, 7, 8, 9, 10, 25, 14, 15, 16, 11, 17, 18, 19, 20, 21, 27, 28, 26, 12, 22, 23, 24, 13] τ16 σ := eqx.tr hx19 hxτ rg_461
          have W27 : When τ16 (RelP τ (τ.1 30).toNatClampNeg) := When.mo hw0 mo25
          have W28 : When τ16 (RelJ τ (τ.1 30).toNatClampNeg) := When.mo hwJ mo25
          refine W.widen (k := 0) (n := 0) (Nat.le_of_ble_eq_true rfl) (Nat.le_of_ble_eq_true rfl) ?_
          refine lv_goto (tgt := 100) hx hb dX12_program_118 rfl ?_
          have N29 : τ16.1 30 = τ.1 30 := (hx19 30 rg_444).1
          have N30 : τ16.1 29 = σ.1 29 := ((hx19 29 rg_462).1).trans hbk
          have N31 : When τ16 (RelP τ16 (τ16.1 30).toNatClampNeg) := fun h9 => by rw [N29]; exact f21 h9 (hw0 (mo25 h9))
          have N32 : SameB τ16 σ (σ.1 29).toNatClampNeg := (f22 _ (bk2 hI) (bkne hI hz)).tr hold
          have N33 : (τ16.1 30).toInt = 1 - (σ.1 29).toInt := by rw [N29]; exact hz
          have E30_ : τ16.1 30 = τ.1 30 := (hx19 30 rg_444).1
          have N37 : When τ16 (RelJ τ16 (τ16.1 30).toNatClampNeg) := fun h9 => by rw [E30_]; exact f23 h9 (hw0 (mo25 h9)) (hwJ (mo25 h9))
          have N38 : SameJ τ16 σ (σ.1 29).toNatClampNeg := (f24 _ (bk2 hI) (bkne hI hz)).tr holdJ
          have o11 : (τ.1 4).toInt = 0 := by omega
          have o12 : (τ.1 8).toInt ≠ 0 := by omega
          exact ih100 τ16  _ _ _ (ms_lt o11 o12 f20 lx26 hn100) hI18 Xτ16 N30 N33 (Lx.es lx26) N31 N32 N37 N38 hP hD hS (lv_sub hl [0] rfl)
  have pt_20 : ∀ (n20 : Nat) (τ : MS) (kv : Int32) (H : Heap) (locs : List Loc) (ls : Array Slot), ((τ.1 3).toInt - kv.toInt).toNat < n20 → (Inv τ) → (eqx [4, 5, 3, 1, 2, 30, 6, 7, 8, 9, 10, 25, 14, 15, 16, 11, 17, 18, 19, 20, 21, 27, 28, 26, 12, 22, 23, 24, 13] τ σ) → (τ.1 29 = σ.1 29) → (∀ p9, 11 ≤ p9 → p9 ≤ 22 → τ.2.1 p9 = σ.2.1 p9) → (0 ≤ kv.toInt) → (∀ p9, p9 = 27 ∨ p9 = 28 → τ.2.2.1 p9 = σ.2.2.1 p9) → va_P (dC, dI) vwCl (mW h ad cl τ) H → va_D A (mW h ad cl τ) → va_S A s.heap H locs → lv_has ls 2 [(0, .ref h), (1, .int kv)] → W p l e (headSpec vs_n_programV rm_n_programV).room s m #[Value.ref h] below meth c H locs 0 0 Q (F0 m 20 ls []) := by
    intro n20
    induction n20 with
    | zero => intro τ kv H locs ls hn20 hIτ hxτ hbk hT hk0 hJ hP hD hS hl; exact absurd hn20 (Nat.not_lt_zero _)
    | succ n20 ih20 =>
      intro τ kv H locs ls hn20 hIτ hxτ hbk hT hk0 hJ hP hD hS hl
      refine lv_iload_n hx hb dX12_program_20 rfl (lv_at hl 1 rfl) ?_
      refine lv_aload_n hx hb dX12_program_21 rfl (lv_at hl 0 rfl) ?_
      refine va_get (D := (dC, dI)) (ci := 12) (v := .int (τ.1 3)) (C := RX12) (T := TX12) (N := 59) hx hb hts hin12 hown hK hP 0 rfl rfl 3 (Nat.le_of_ble_eq_true rfl) (ho (.fieldLink RX12 137 "NearEnoughModel" "size" "I") (List.mem_of_getElem? (i := 8) rfl)) (fun _ h9 => h9) rfl dX12_program_22 ?_
      have bτ_3 : 0 ≤ (τ.1 3).toInt ∧ (τ.1 3).toInt ≤ 1000 := hIτ.1 3
      refine lv_icmp_ge (tgt := 46) hx hb dX12_program_25 rfl (fun c39 => ?_) (fun c39 => ?_)
      · have tc39 := (show (τ.1 3).toInt ≤ kv.toInt from ti_le rfl rfl c39)
        refine lv_aload_n hx hb dX12_program_46 rfl (lv_at hl 0 rfl) ?_
        refine lv_iconst (v := 0) hx hb dX12_program_47 rg_0 ?_
        refine va_put (D := (dC, dI)) (ci := 12) (v := .int 0) (ty := tyX12 2) (C := RX12) (T := TX12) (N := 59) hx hb hts hin12 tyX12 tyX12_ok nmX12 hown hK hP hD hS 0 rfl rfl 2 (Nat.le_of_ble_eq_true rfl) (ho (.fieldLink RX12 237 "NearEnoughModel" "taped" "I") (List.mem_of_getElem? (i := 9) rfl)) (fun _ h9 => h9) rfl (tyX12_ok 2 (Nat.le_of_ble_eq_true rfl)) rfl rfl (Nat.le_of_ble_eq_true rfl) dX12_program_48 (fun H locs hP hD hS => ?_)
        have hP : va_P (dC, dI) vwCl (mW h ad cl (sI τ 2 0)) H := hP
        have hD : va_D A (mW h ad cl (sI τ 2 0)) := hD
        refine lv_aload_n hx hb dX12_program_51 rfl (lv_at hl 0 rfl) ?_
        refine lv_iconst (v := 0) hx hb dX12_program_52 rg_0 ?_
        refine va_put (D := (dC, dI)) (ci := 12) (v := .int 0) (ty := tyX12 7) (C := RX12) (T := TX12) (N := 59) hx hb hts hin12 tyX12 tyX12_ok nmX12 hown hK hP hD hS 0 rfl rfl 7 (Nat.le_of_ble_eq_true rfl) (ho (.fieldLink RX12 189 "NearEnoughModel" "end" "I") (List.mem_of_getElem? (i := 10) rfl)) (fun _ h9 => h9) rfl (tyX12_ok 7 (Nat.le_of_ble_eq_true rfl)) rfl rfl (Nat.le_of_ble_eq_true rfl) dX12_program_53 (fun H locs hP hD hS => ?_)
        have hP : va_P (dC, dI) vwCl (mW h ad cl (sI (sI τ 2 0) 7 0)) H := hP
        have hD : va_D A (mW h ad cl (sI (sI τ 2 0) 7 0)) := hD
        refine lv_aload_n hx hb dX12_program_56 rfl (lv_at hl 0 rfl) ?_
        refine lv_iconst (v := 1) hx hb dX12_program_57 rg_6 ?_
        refine lv_aload_n hx hb dX12_program_58 rfl (lv_at hl 0 rfl) ?_
        refine va_get (D := (dC, dI)) (ci := 12) (v := .int (τ.1 29)) (C := RX12) (T := TX12) (N := 59) hx hb hts hin12 hown hK hP 0 rfl rfl 29 (Nat.le_of_ble_eq_true rfl) (ho (.fieldLink RX12 240 "NearEnoughModel" "bank" "I") (List.mem_of_getElem? (i := 1) rfl)) (fun _ h9 => h9) rfl dX12_program_59 ?_
        refine zi (v := (σ.1 29)) ((hxτ 29 rg_450).1) ?_
        have bb40 : 0 ≤ (σ.1 29).toInt ∧ (σ.1 29).toInt ≤ 1 := by have h9 := hIτ.1 29; rw [show (τ.1 29) = (σ.1 29) from ((hxτ 29 rg_450).1)] at h9; exact h9
        refine lv_isub hx hb dX12_program_62 ?_
        refine lv_topi (fun z41 ez41 => ?_)
        have o13 : -2147483648 ≤ 1 - (σ.1 29).toInt := by omega
        have o14 : 1 - (σ.1 29).toInt ≤ 2147483647 := by omega
        have tz41 : z41.toInt = 1 - (σ.1 29).toInt := ti_sub ez41 rg_18 rfl o13 o14
        refine va_put (D := (dC, dI)) (ci := 12) (v := .int z41) (ty := tyX12 30) (C := RX12) (T := TX12) (N := 59) hx hb hts hin12 tyX12 tyX12_ok nmX12 hown hK hP hD hS 0 rfl rfl 30 (Nat.le_of_ble_eq_true rfl) (ho (.fieldLink RX12 243 "NearEnoughModel" "rb" "I") (List.mem_of_getElem? (i := 0) rfl)) (fun _ h9 => h9) rfl (tyX12_ok 30 (Nat.le_of_ble_eq_true rfl)) rfl rfl (Nat.le_of_ble_eq_true rfl) dX12_program_63 (fun H locs hP hD hS => ?_)
        have hP : va_P (dC, dI) vwCl (mW h ad cl (sI (sI (sI τ 2 0) 7 0) 30 z41)) H := hP
        have hD : va_D A (mW h ad cl (sI (sI (sI τ 2 0) 7 0) 30 z41)) := hD
        refine lv_aload_n hx hb dX12_program_66 rfl (lv_at hl 0 rfl) ?_
        refine va_get (D := (dC, dI)) (ci := 12) (v := .ref (ad 11)) (C := RX12) (T := TX12) (N := 59) hx hb hts hin12 hown hK hP 0 rfl rfl 11 (Nat.le_of_ble_eq_true rfl) (ho (.fieldLink RX12 20 "NearEnoughModel" "rowMany" "[I") (List.mem_of_getElem? (i := 11) rfl)) (fun _ h9 => h9) rfl dX12_program_67 ?_
        refine lv_aload_n hx hb dX12_program_70 rfl (lv_at hl 0 rfl) ?_
        refine va_get (D := (dC, dI)) (ci := 12) (v := .int z41) (C := RX12) (T := TX12) (N := 59) hx hb hts hin12 hown hK hP 0 rfl rfl 30 (Nat.le_of_ble_eq_true rfl) (ho (.fieldLink RX12 243 "NearEnoughModel" "rb" "I") (List.mem_of_getElem? (i := 0) rfl)) (fun _ h9 => h9) rfl dX12_program_71 ?_
        refine lv_iconst (v := 0) hx hb dX12_program_74 rg_0 ?_
        have o15 : 0 ≤ z41.toInt := by omega
        have o16 : z41.toInt < ((2 : Nat) : Int) := by omega
        refine va_iast hx hb hK hP hD hS 3 2 rfl rfl (ti_inx o15 o16) dX12_program_75 (fun H locs hP hD hS => ?_)
        rw [wS11] at hP hD
        obtain ⟨τ42, eτ42⟩ : ∃ x9 : MS, x9 = sA (sI (sI (sI τ 2 0) 7 0) 30 z41) 11 (upd ((sI (sI (sI τ 2 0) 7 0) 30 z41).2.1 11) (Int32.toNatClampNeg z41) 0) := ⟨_, rfl⟩
        have hP : va_P (dC, dI) vwCl (mW h ad cl τ42) H := by rw [eτ42]; exact hP
        have hD : va_D A (mW h ad cl τ42) := by rw [eτ42]; exact hD
        have o17 : (0 : Int) ≤ z41.toInt := by omega
        have o18 : z41.toInt ≤ 1 := by omega
        have hIτ42 : Inv τ42 := by rw [eτ42]; exact (Inv_sA1 (Inv.sI (k := 30) (v := z41) (Inv.sI (k := 7) (v := 0) (Inv.sI (k := 2) (v := 0) hIτ rg_463) rg_463) (show (0 : Int) ≤ z41.toInt ∧ z41.toInt ≤ 1 from ⟨o17, o18⟩)) (rgu ((Inv.sI (k := 30) (v := z41) (Inv.sI (k := 7) (v := 0) (Inv.sI (k := 2) (v := 0) hIτ rg_463) rg_463) (show (0 : Int) ≤ z41.toInt ∧ z41.toInt ≤ 1 from ⟨o17, o18⟩)).2 11) rg_464))
        have Xτ42 : eqx [4, 5, 3, 1, 2, 30, 6, 7, 8, 9, 10, 25, 14, 15, 16, 11, 17, 18, 19, 20, 21, 27, 28, 26, 12, 22, 23, 24, 13] τ42 σ := (eqx.eq eτ42 (eqx.sA (eqx.sI (eqx.sI (eqx.sI hxτ rg_465) rg_466) rg_467) rg_468))
        refine lv_aload_n hx hb dX12_program_76 rfl (lv_at hl 0 rfl) ?_
        refine va_get (D := (dC, dI)) (ci := 12) (v := .ref (ad 12)) (C := RX12) (T := TX12) (N := 59) hx hb hts hin12 hown hK hP 0 rfl rfl 12 (Nat.le_of_ble_eq_true rfl) (ho (.fieldLink RX12 24 "NearEnoughModel" "stepMany" "[I") (List.mem_of_getElem? (i := 6) rfl)) (fun _ h9 => h9) rfl dX12_program_77 ?_
        refine lv_aload_n hx hb dX12_program_80 rfl (lv_at hl 0 rfl) ?_
        refine va_get (D := (dC, dI)) (ci := 12) (v := .int (τ42.1 30)) (C := RX12) (T := TX12) (N := 59) hx hb hts hin12 hown hK hP 0 rfl rfl 30 (Nat.le_of_ble_eq_true rfl) (ho (.fieldLink RX12 243 "NearEnoughModel" "rb" "I") (List.mem_of_getElem? (i := 0) rfl)) (fun _ h9 => h9) rfl dX12_program_81 ?_
        refine zi (v := z41) (show τ42.1 30 = z41 from (congrArg (fun x9 : MS => x9.1 30) eτ42).trans rfl) ?_
        have bb43 : 0 ≤ z41.toInt ∧ z41.toInt ≤ 1 := by have h9 := hIτ42.1 30; rw [show (τ42.1 30) = z41 from (show τ42.1 30 = z41 from (congrArg (fun x9 : MS => x9.1 30) eτ42).trans rfl)] at h9; exact h9
        refine lv_iconst (v := 0) hx hb dX12_program_84 rg_0 ?_
        refine va_iast hx hb hK hP hD hS 4 3 rfl rfl (ti_inx o15 o16) dX12_program_85 (fun H locs hP hD hS => ?_)
        rw [wS12] at hP hD
        obtain ⟨τ44, eτ44⟩ : ∃ x9 : MS, x9 = sA τ42 12 (upd (τ42.2.1 12) (Int32.toNatClampNeg z41) 0) := ⟨_, rfl⟩
        have hP : va_P (dC, dI) vwCl (mW h ad cl τ44) H := by rw [eτ44]; exact hP
        have hD : va_D A (mW h ad cl τ44) := by rw [eτ44]; exact hD
        have hIτ44 : Inv τ44 := by rw [eτ44]; exact (Inv_sA1 hIτ42 (rgu (hIτ42.2 12) rg_458))
        have Xτ44 : eqx [4, 5, 3, 1, 2, 30, 6, 7, 8, 9, 10, 25, 14, 15, 16, 11, 17, 18, 19, 20, 21, 27, 28, 26, 12, 22, 23, 24, 13] τ44 σ := (eqx.eq eτ44 (eqx.sA Xτ42 rg_469))
        refine lv_aload_n hx hb dX12_program_86 rfl (lv_at hl 0 rfl) ?_
        refine va_get (D := (dC, dI)) (ci := 12) (v := .ref (ad 13)) (C := RX12) (T := TX12) (N := 59) hx hb hts hin12 hown hK hP 0 rfl rfl 13 (Nat.le_of_ble_eq_true rfl) (ho (.fieldLink RX12 27 "NearEnoughModel" "endMany" "[I") (List.mem_of_getElem? (i := 12) rfl)) (fun _ h9 => h9) rfl dX12_program_87 ?_
        refine lv_aload_n hx hb dX12_program_90 rfl (lv_at hl 0 rfl) ?_
        refine va_get (D := (dC, dI)) (ci := 12) (v := .int (τ44.1 30)) (C := RX12) (T := TX12) (N := 59) hx hb hts hin12 hown hK hP 0 rfl rfl 30 (Nat.le_of_ble_eq_true rfl) (ho (.fieldLink RX12 243 "NearEnoughModel" "rb" "I") (List.mem_of_getElem? (i := 0) rfl)) (fun _ h9 => h9) rfl dX12_program_91 ?_
        refine zi (v := z41) (show τ44.1 30 = z41 from (congrArg (fun x9 : MS => x9.1 30) eτ44).trans (show τ42.1 30 = z41 from (congrArg (fun x9 : MS => x9.1 30) eτ42).trans rfl)) ?_
        have bb45 : 0 ≤ z41.toInt ∧ z41.toInt ≤ 1 := by have h9 := hIτ44.1 30; rw [show (τ44.1 30) = z41 from (show τ44.1 30 = z41 from (congrArg (fun x9 : MS => x9.1 30) eτ44).trans (show τ42.1 30 = z41 from (congrArg (fun x9 : MS => x9.1 30) eτ42).trans rfl))] at h9; exact h9
        refine lv_iconst (v := 0) hx hb dX12_program_94 rg_0 ?_
        refine va_iast hx hb hK hP hD hS 5 4 rfl rfl (ti_inx o15 o16) dX12_program_95 (fun H locs hP hD hS => ?_)
        rw [wS13] at hP hD
        obtain ⟨τ46, eτ46⟩ : ∃ x9 : MS, x9 = sA τ44 13 (upd (τ44.2.1 13) (Int32.toNatClampNeg z41) 0) := ⟨_, rfl⟩
        have hP : va_P (dC, dI) vwCl (mW h ad cl τ46) H := by rw [eτ46]; exact hP
        have hD : va_D A (mW h ad cl τ46) := by rw [eτ46]; exact hD
        have hIτ46 : Inv τ46 := by rw [eτ46]; exact (Inv_sA1 hIτ44 (rgu (hIτ44.2 13) rg_459))
        have Xτ46 : eqx [4, 5, 3, 1, 2, 30, 6, 7, 8, 9, 10, 25, 14, 15, 16, 11, 17, 18, 19, 20, 21, 27, 28, 26, 12, 22, 23, 24, 13] τ46 σ := (eqx.eq eτ46 (eqx.sA Xτ44 rg_470))
        refine lv_aload_n hx hb dX12_program_96 rfl (lv_at hl 0 rfl) ?_
        have qq47 : (τ46.1 7).toInt = (0 : Int32).toInt := congrArg Int32.toInt ((show τ46.1 7 = 0 from (congrArg (fun x9 : MS => x9.1 7) eτ46).trans (show τ44.1 7 = 0 from (congrArg (fun x9 : MS => x9.1 7) eτ44).trans (show τ42.1 7 = 0 from (congrArg (fun x9 : MS => x9.1 7) eτ42).trans rfl))))
        have qq48 : (τ46.1 3).toInt = ((τ.1 3) : Int32).toInt := congrArg Int32.toInt ((show τ46.1 3 = (τ.1 3) from (congrArg (fun x9 : MS => x9.1 3) eτ46).trans (show τ44.1 3 = (τ.1 3) from (congrArg (fun x9 : MS => x9.1 3) eτ44).trans (show τ42.1 3 = (τ.1 3) from (congrArg (fun x9 : MS => x9.1 3) eτ42).trans rfl))))
        have kk49 : (0 : Int32).toInt = 0 := rg_11
        have o19 : (τ46.1 7).toInt ≤ (τ46.1 3).toInt := by omega
        refine zy_v (va_runV (As := []) (rest := []) ⟨hx, hb, hml, hown, hts⟩ (n_next l dC dI h ad cl H.size τ46  hIτ46 (show (τ46.1 7).toInt ≤ (τ46.1 3).toInt from o19)) (cwV 0 hts gd_n_programV_228_n_next rfl rfl rfl dd_n_next ⟨Nat.le_of_ble_eq_true rfl, Nat.le_of_ble_eq_true rfl⟩) (preV hP hK hD hE (ci := 12) (q0 := 0) rfl rfl) rfl rfl hl.1 rfl (lv_room (Nat.le_of_ble_eq_true rfl)) dX12_program_97 ⟨Nat.le_of_ble_eq_true rfl, Nat.le_of_ble_eq_true rfl⟩) hD hS hA (fun τ50 H locs hq hP hD hS => ?_)
        obtain ⟨hI52, hx53, f54, lx55⟩ := hq
        have Xτ50 : eqx [4, 5, 3, 1, 2, 30, 6, 7, 8, 9, 10, 25, 14, 15, 16, 11, 17, 18, 19, 20, 21, 27, 28, 26, 12, 22, 23, 24, 13] τ50 σ := eqx.tr hx53 Xτ46 rg_471
        refine W.widen (k := 0) (n := 0) (Nat.le_of_ble_eq_true rfl) (Nat.le_of_ble_eq_true rfl) ?_
        have N56 : τ50.1 30 = z41 := (hx53 30 rg_445).1.trans (show τ46.1 30 = z41 from (show τ46.1 30 = z41 from (congrArg (fun x9 : MS => x9.1 30) eτ46).trans (show τ44.1 30 = z41 from (congrArg (fun x9 : MS => x9.1 30) eτ44).trans (show τ42.1 30 = z41 from (congrArg (fun x9 : MS => x9.1 30) eτ42).trans rfl))))
        have N57 : τ50.1 29 = σ.1 29 := ((hx53 29 rg_472).1).trans (show τ46.1 29 = σ.1 29 from (show τ46.1 29 = (σ.1 29) from (congrArg (fun x9 : MS => x9.1 29) eτ46).trans (show τ44.1 29 = (σ.1 29) from (congrArg (fun x9 : MS => x9.1 29) eτ44).trans (show τ42.1 29 = (σ.1 29) from (congrArg (fun x9 : MS => x9.1 29) eτ42).trans ((hxτ 29 rg_450).1)))))
        have o20 : (σ.1 29).toInt = 1 - z41.toInt := by omega
        have N61 := rel_new (τ := τ50) hI ⟨o15, o18⟩ o20 (show (τ50).2.1 11 = (upd (σ.2.1 11) (Int32.toNatClampNeg z41) 0) from (((hx53 11 rg_414).2.1).trans ((congrArg (fun x9 : MS => x9.2.1 11) eτ46).trans ((tA rg_364).trans ((congrArg (fun x9 : MS => x9.2.1 11) eτ44).trans ((tA rg_180).trans ((congrArg (fun x9 : MS => x9.2.1 11) eτ42).trans (tAe.trans (congrArg (fun f9 => (upd f9 (Int32.toNatClampNeg z41) 0)) (tI.trans (tI.trans (tI.trans (hT 11 rg_177 rg_178))))))))))))) (show (τ50).2.1 12 = (upd (σ.2.1 12) (Int32.toNatClampNeg z41) 0) from (((hx53 12 rg_415).2.1).trans ((congrArg (fun x9 : MS => x9.2.1 12) eτ46).trans ((tA rg_366).trans ((congrArg (fun x9 : MS => x9.2.1 12) eτ44).trans (tAe.trans (congrArg (fun f9 => (upd f9 (Int32.toNatClampNeg z41) 0)) ((congrArg (fun x9 : MS => x9.2.1 12) eτ42).trans ((tA rg_114).trans (tI.trans (tI.trans (tI.trans (hT 12 rg_173 rg_174))))))))))))) (show (τ50).2.1 13 = (upd (σ.2.1 13) (Int32.toNatClampNeg z41) 0) from (((hx53 13 rg_416).2.1).trans ((congrArg (fun x9 : MS => x9.2.1 13) eτ46).trans (tAe.trans (congrArg (fun f9 => (upd f9 (Int32.toNatClampNeg z41) 0)) ((congrArg (fun x9 : MS => x9.2.1 13) eτ44).trans ((tA rg_184).trans ((congrArg (fun x9 : MS => x9.2.1 13) eτ42).trans ((tA rg_120).trans (tI.trans (tI.trans (tI.trans (hT 13 rg_181 rg_182))))))))))))) (show (τ50).2.1 14 = (σ.2.1 14) from (((hx53 14 rg_417).2.1).trans ((congrArg (fun x9 : MS => x9.2.1 14) eτ46).trans ((tA rg_368).trans ((congrArg (fun x9 : MS => x9.2.1 14) eτ44).trans ((tA rg_188).trans ((congrArg (fun x9 : MS => x9.2.1 14) eτ42).trans ((tA rg_125).trans (tI.trans (tI.trans (tI.trans (hT 14 rg_185 rg_186)))))))))))) (show (τ50).2.1 15 = (σ.2.1 15) from (((hx53 15 rg_418).2.1).trans ((congrArg (fun x9 : MS => x9.2.1 15) eτ46).trans ((tA rg_370).trans ((congrArg (fun x9 : MS => x9.2.1 15) eτ44).trans ((tA rg_192).trans ((congrArg (fun x9 : MS => x9.2.1 15) eτ42).trans ((tA rg_127).trans (tI.trans (tI.trans (tI.trans (hT 15 rg_189 rg_190)))))))))))) (show (τ50).2.1 16 = (σ.2.1 16) from (((hx53 16 rg_419).2.1).trans ((congrArg (fun x9 : MS => x9.2.1 16) eτ46).trans ((tA rg_372).trans ((congrArg (fun x9 : MS => x9.2.1 16) eτ44).trans ((tA rg_196).trans ((congrArg (fun x9 : MS => x9.2.1 16) eτ42).trans ((tA rg_132).trans (tI.trans (tI.trans (tI.trans (hT 16 rg_193 rg_194)))))))))))) (show (τ50).2.1 17 = (σ.2.1 17) from (((hx53 17 rg_420).2.1).trans ((congrArg (fun x9 : MS => x9.2.1 17) eτ46).trans ((tA rg_374).trans ((congrArg (fun x9 : MS => x9.2.1 17) eτ44).trans ((tA rg_197).trans ((congrArg (fun x9 : MS => x9.2.1 17) eτ42).trans ((tA rg_138).trans (tI.trans (tI.trans (tI.trans (hT 17 rg_347 rg_348)))))))))))) (show (τ50).2.1 18 = (σ.2.1 18) from (((hx53 18 rg_421).2.1).trans ((congrArg (fun x9 : MS => x9.2.1 18) eτ46).trans ((tA rg_376).trans ((congrArg (fun x9 : MS => x9.2.1 18) eτ44).trans ((tA rg_198).trans ((congrArg (fun x9 : MS => x9.2.1 18) eτ42).trans ((tA rg_144).trans (tI.trans (tI.trans (tI.trans (hT 18 rg_323 rg_324)))))))))))) (show (τ50).2.1 19 = (σ.2.1 19) from (((hx53 19 rg_422).2.1).trans ((congrArg (fun x9 : MS => x9.2.1 19) eτ46).trans ((tA rg_378).trans ((congrArg (fun x9 : MS => x9.2.1 19) eτ44).trans ((tA rg_199).trans ((congrArg (fun x9 : MS => x9.2.1 19) eτ42).trans ((tA rg_150).trans (tI.trans (tI.trans (tI.trans (hT 19 rg_298 rg_299)))))))))))) (show (τ50).2.1 20 = (σ.2.1 20) from (((hx53 20 rg_423).2.1).trans ((congrArg (fun x9 : MS => x9.2.1 20) eτ46).trans ((tA rg_380).trans ((congrArg (fun x9 : MS => x9.2.1 20) eτ44).trans ((tA rg_200).trans ((congrArg (fun x9 : MS => x9.2.1 20) eτ42).trans ((tA rg_156).trans (tI.trans (tI.trans (tI.trans (hT 20 rg_269 rg_270)))))))))))) (show (τ50).2.1 21 = (σ.2.1 21) from (((hx53 21 rg_424).2.1).trans ((congrArg (fun x9 : MS => x9.2.1 21) eτ46).trans ((tA rg_382).trans ((congrArg (fun x9 : MS => x9.2.1 21) eτ44).trans ((tA rg_201).trans ((congrArg (fun x9 : MS => x9.2.1 21) eτ42).trans ((tA rg_162).trans (tI.trans (tI.trans (tI.trans (hT 21 rg_234 rg_235)))))))))))) (show (τ50).2.1 22 = (σ.2.1 22) from (((hx53 22 rg_425).2.1).trans ((congrArg (fun x9 : MS => x9.2.1 22) eτ46).trans ((tA rg_383).trans ((congrArg (fun x9 : MS => x9.2.1 22) eτ44).trans ((tA rg_204).trans ((congrArg (fun x9 : MS => x9.2.1 22) eτ42).trans ((tA rg_168).trans (tI.trans (tI.trans (tI.trans (hT 22 rg_178 rg_202))))))))))))
        have N58 : When τ50 (RelP τ50 (τ50.1 30).toNatClampNeg) := fun _ => by rw [N56]; exact N61.1
        have N60 : (τ50.1 30).toInt = 1 - (σ.1 29).toInt := by rw [N56]; omega
        have E30_ : τ50.1 30 = z41 := (hx53 30 rg_445).1.trans (show τ46.1 30 = z41 from (show τ46.1 30 = z41 from (congrArg (fun x9 : MS => x9.1 30) eτ46).trans (show τ44.1 30 = z41 from (congrArg (fun x9 : MS => x9.1 30) eτ44).trans (show τ42.1 30 = z41 from (congrArg (fun x9 : MS => x9.1 30) eτ42).trans rfl))))
        have N64 : When τ50 (RelJ τ50 (τ50.1 30).toNatClampNeg) := fun _ => by rw [E30_]; exact relj_new (show (τ50).2.1 12 = (upd (σ.2.1 12) (Int32.toNatClampNeg z41) 0) from (((hx53 12 rg_415).2.1).trans ((congrArg (fun x9 : MS => x9.2.1 12) eτ46).trans ((tA rg_366).trans ((congrArg (fun x9 : MS => x9.2.1 12) eτ44).trans (tAe.trans (congrArg (fun f9 => (upd f9 (Int32.toNatClampNeg z41) 0)) ((congrArg (fun x9 : MS => x9.2.1 12) eτ42).trans ((tA rg_114).trans (tI.trans (tI.trans (tI.trans (hT 12 rg_173 rg_174)))))))))))))
        have N65 : SameJ τ50 σ (σ.1 29).toNatClampNeg := SameJ.eqs (fun p9 h9 => ((hx53 p9 (rg_563 p9 h9)).2.2.1).trans ((fun p9 h9 => (congrArg (fun x9 : MS => x9.2.2.1 p9) eτ46).trans ((fun p9 h9 => (congrArg (fun x9 : MS => x9.2.2.1 p9) eτ44).trans ((fun p9 h9 => (congrArg (fun x9 : MS => x9.2.2.1 p9) eτ42).trans (hJ p9 h9)) p9 h9)) p9 h9)) p9 h9))
        exact pt_100 _ τ50  _ _ _ (Nat.lt_succ_self _) hI52 Xτ50 N57 N60 (Lx.es lx55) N58 N61.2 N64 N65 hP hD hS (lv_sub hl [0] rfl)
      · have tc39 := (show kv.toInt < (τ.1 3).toInt from ti_nle rfl rfl c39)
        refine lv_aload_n hx hb dX12_program_28 rfl (lv_at hl 0 rfl) ?_
        refine va_get (D := (dC, dI)) (ci := 12) (v := .ref (ad 1)) (C := RX12) (T := TX12) (N := 59) hx hb hts hin12 hown hK hP 0 rfl rfl 1 (Nat.le_of_ble_eq_true rfl) (ho (.fieldLink RX12 13 "NearEnoughModel" "text" "[B") (List.mem_of_getElem? (i := 13) rfl)) (fun _ h9 => h9) rfl dX12_program_29 ?_
        refine lv_iload_n hx hb dX12_program_32 rfl (lv_at hl 1 rfl) ?_
        refine lv_aload_n hx hb dX12_program_33 rfl (lv_at hl 0 rfl) ?_
        refine va_get (D := (dC, dI)) (ci := 12) (v := .ref (ad 0)) (C := RX12) (T := TX12) (N := 59) hx hb hts hin12 hown hK hP 0 rfl rfl 0 (Nat.le_of_ble_eq_true rfl) (ho (.fieldLink RX12 7 "NearEnoughModel" "tape" "[B") (List.mem_of_getElem? (i := 14) rfl)) (fun _ h9 => h9) rfl dX12_program_34 ?_
        refine lv_iload_n hx hb dX12_program_37 rfl (lv_at hl 1 rfl) ?_
        have o21 : 0 ≤ kv.toInt := by omega
        have o22 : kv.toInt < ((1020 : Nat) : Int) := by omega
        refine va_bald hx hb hK hP 1 0 rfl rfl (ti_inx o21 o22) dX12_program_38 ?_
        refine lv_topi (fun z66 ez66 => ?_)
        have gz66 : z66.toInt = ((τ.2.1 0) (Int32.toNatClampNeg kv)).toInt := congrArg Int32.toInt (ez66.trans (congrFun rfl (Int32.toNatClampNeg kv)))
        have o23 : kv.toInt < ((1000 : Nat) : Int) := by omega
        refine va_bast hx hb hK hP hD hS 2 1 rfl rfl (ti_inx o21 o23) dX12_program_39 (fun H locs hP hD hS => ?_)
        rw [wS1] at hP hD
        obtain ⟨τ67, eτ67⟩ : ∃ x9 : MS, x9 = sA τ 1 (upd (τ.2.1 1) (Int32.toNatClampNeg kv) (vp_nar .byte z66)) := ⟨_, rfl⟩
        have hP : va_P (dC, dI) vwCl (mW h ad cl τ67) H := by rw [eτ67]; exact hP
        have hD : va_D A (mW h ad cl τ67) := by rw [eτ67]; exact hD
        have hIτ67 : Inv τ67 := by rw [eτ67]; exact (Inv_sA1 hIτ (fun j _ => Inv.any _))
        have Xτ67 : eqx [4, 5, 3, 1, 2, 30, 6, 7, 8, 9, 10, 25, 14, 15, 16, 11, 17, 18, 19, 20, 21, 27, 28, 26, 12, 22, 23, 24, 13] τ67 σ := (eqx.eq eτ67 (eqx.sA hxτ rg_473))
        obtain ⟨z68, ez68⟩ : ∃ y : Int32, y = kv + 1 := ⟨_, rfl⟩
        have o24 : -2147483648 ≤ kv.toInt + 1 := by omega
        have o25 : kv.toInt + 1 ≤ 2147483647 := by omega
        have tz68 := ti_add ez68 rfl rg_18 o24 o25
        refine lv_iinc (v := z68) (lv' := [(1, .int z68), (0, .ref h)]) hx hb dX12_program_40 hl (k := 1) rfl (iincp ez68 rg_6) (Nat.le_of_ble_eq_true rfl) rfl (fun ls hl => ?_)
        refine lv_goto (tgt := 20) hx hb dX12_program_43 rfl ?_
        have N69 : ∀ p9, 11 ≤ p9 → p9 ≤ 22 → (τ67).2.1 p9 = σ.2.1 p9 := fun p9 h1 h2 => by rw [eτ67]; exact (tA (by omega)).trans (hT p9 h1 h2)
        have qq70 : (τ67.1 3).toInt = ((τ.1 3) : Int32).toInt := congrArg Int32.toInt ((show τ67.1 3 = (τ.1 3) from (congrArg (fun x9 : MS => x9.1 3) eτ67).trans rfl))
        have J71 : ∀ p9, p9 = 27 ∨ p9 = 28 → (τ67).2.2.1 p9 = σ.2.2.1 p9 := (fun p9 h9 => (congrArg (fun x9 : MS => x9.2.2.1 p9) eτ67).trans (hJ p9 h9))
        have o26 : ((τ67.1 3).toInt - z68.toInt).toNat < n20 := by omega
        have o27 : 0 ≤ z68.toInt := by omega
        exact ih20 τ67 z68 _ _ _ (show ((τ67.1 3).toInt - z68.toInt).toNat < n20 from o26) hIτ67 Xτ67 ((congrArg (fun x9 : MS => x9.1 29) eτ67).trans hbk) N69 (show 0 ≤ z68.toInt from o27) J71 hP hD hS (lv_sub hl [1, 0] rfl)
  refine zH (A := A) (ws := mW h ad cl σ) (fun H hP hS => ?_) hP
  refine lv_aload_n hx hb dX12_program_0 rfl (lv_at hl 0 rfl) ?_
  refine lv_iconst (v := 0) hx hb dX12_program_1 rg_0 ?_
  refine va_put (D := (dC, dI)) (ci := 12) (v := .int 0) (ty := tyX12 4) (C := RX12) (T := TX12) (N := 59) hx hb hts hin12 tyX12 tyX12_ok nmX12 hown hK hP hD hS 0 rfl rfl 4 (Nat.le_of_ble_eq_true rfl) (ho (.fieldLink RX12 140 "NearEnoughModel" "faultKind" "I") (List.mem_of_getElem? (i := 15) rfl)) (fun _ h9 => h9) rfl (tyX12_ok 4 (Nat.le_of_ble_eq_true rfl)) rfl rfl (Nat.le_of_ble_eq_true rfl) dX12_program_2 (fun H locs hP hD hS => ?_)
  have hP : va_P (dC, dI) vwCl (mW h ad cl (sI σ 4 0)) H := hP
  have hD : va_D A (mW h ad cl (sI σ 4 0)) := hD
  refine lv_aload_n hx hb dX12_program_5 rfl (lv_at hl 0 rfl) ?_
  refine lv_iconst (v := (-1)) hx hb dX12_program_6 rg_53 ?_
  refine va_put (D := (dC, dI)) (ci := 12) (v := .int (-1)) (ty := tyX12 5) (C := RX12) (T := TX12) (N := 59) hx hb hts hin12 tyX12 tyX12_ok nmX12 hown hK hP hD hS 0 rfl rfl 5 (Nat.le_of_ble_eq_true rfl) (ho (.fieldLink RX12 16 "NearEnoughModel" "faultPlace" "I") (List.mem_of_getElem? (i := 16) rfl)) (fun _ h9 => h9) rfl (tyX12_ok 5 (Nat.le_of_ble_eq_true rfl)) rfl rfl (Nat.le_of_ble_eq_true rfl) dX12_program_7 (fun H locs hP hD hS => ?_)
  have hP : va_P (dC, dI) vwCl (mW h ad cl (sI (sI σ 4 0) 5 (-1))) H := hP
  have hD : va_D A (mW h ad cl (sI (sI σ 4 0) 5 (-1))) := hD
  refine lv_aload_n hx hb dX12_program_10 rfl (lv_at hl 0 rfl) ?_
  refine lv_aload_n hx hb dX12_program_11 rfl (lv_at hl 0 rfl) ?_
  refine va_get (D := (dC, dI)) (ci := 12) (v := .int (σ.1 2)) (C := RX12) (T := TX12) (N := 59) hx hb hts hin12 hown hK hP 0 rfl rfl 2 (Nat.le_of_ble_eq_true rfl) (ho (.fieldLink RX12 237 "NearEnoughModel" "taped" "I") (List.mem_of_getElem? (i := 9) rfl)) (fun _ h9 => h9) rfl dX12_program_12 ?_
  have bσ_2 : 0 ≤ (σ.1 2).toInt ∧ (σ.1 2).toInt ≤ 1000 := hI.1 2
  refine va_put (D := (dC, dI)) (ci := 12) (v := .int (σ.1 2)) (ty := tyX12 3) (C := RX12) (T := TX12) (N := 59) hx hb hts hin12 tyX12 tyX12_ok nmX12 hown hK hP hD hS 0 rfl rfl 3 (Nat.le_of_ble_eq_true rfl) (ho (.fieldLink RX12 137 "NearEnoughModel" "size" "I") (List.mem_of_getElem? (i := 8) rfl)) (fun _ h9 => h9) rfl (tyX12_ok 3 (Nat.le_of_ble_eq_true rfl)) rfl rfl (Nat.le_of_ble_eq_true rfl) dX12_program_15 (fun H locs hP hD hS => ?_)
  have hP : va_P (dC, dI) vwCl (mW h ad cl (sI (sI (sI σ 4 0) 5 (-1)) 3 (σ.1 2))) H := hP
  have hD : va_D A (mW h ad cl (sI (sI (sI σ 4 0) 5 (-1)) 3 (σ.1 2))) := hD
  refine lv_iconst (v := 0) hx hb dX12_program_18 rg_0 ?_
  refine lv_istore_n (lv' := [(1, .int 0), (0, .ref h)]) hx hb dX12_program_19 rfl hl (Nat.le_of_ble_eq_true rfl) rfl (fun ls hl => ?_)
  have N72 : ∀ p9, 11 ≤ p9 → p9 ≤ 22 → ((sI (sI (sI σ 4 0) 5 (-1)) 3 (σ.1 2))).2.1 p9 = σ.2.1 p9 := fun _ _ _ => rfl
  have qq73 : (((sI (sI (sI σ 4 0) 5 (-1)) 3 (σ.1 2))).1 3).toInt = ((σ.1 2) : Int32).toInt := rfl
  have J74 : ∀ p9, p9 = 27 ∨ p9 = 28 → ((sI (sI (sI σ 4 0) 5 (-1)) 3 (σ.1 2))).2.2.1 p9 = σ.2.2.1 p9 := (fun _ _ => rfl)
  have o28 : (0 : Int) ≤ (σ.1 2).toInt := by omega
  have o29 : (σ.1 2).toInt ≤ 1000 := by omega
  exact pt_20 _ (sI (sI (sI σ 4 0) 5 (-1)) 3 (σ.1 2)) 0 _ _ _ (Nat.lt_succ_self _) (Inv.sI (k := 3) (v := (σ.1 2)) (Inv.sI (k := 5) (v := (-1)) (Inv.sI (k := 4) (v := 0) hI rg_474) (Inv.any (-1))) (show (0 : Int) ≤ (σ.1 2).toInt ∧ (σ.1 2).toInt ≤ 1000 from ⟨o28, o29⟩)) (eqx.sI (eqx.sI (eqx.sI eqx.rf rg_475) rg_476) rg_477) rfl N72 rg_56 J74 hP hD hS (lv_sub hl [1, 0] rfl)
