
theorem rg_656 : 15 ∉ [38, 31, 39] := by decide
theorem rg_657 : 11 ∉ [38, 31, 39] := by decide
theorem rg_658 : ∀ q, 11 ≤ q → q ≤ 22 → q ∉ [38, 31, 39] := by intro q h1 h2 h; simp at h; omega
theorem rg_659 : 31 ≠ 38 := by decide
def ow_n_sheetV : List Cond := [.fieldLink RX12 76 "NearEnoughModel" "numbers" "[I", .fieldLink RX12 249 "NearEnoughModel" "sheets" "I", .fieldLink RX12 33 "NearEnoughModel" "rLeast" "[I", .fieldLink RX12 240 "NearEnoughModel" "bank" "I", .fieldLink RX12 20 "NearEnoughModel" "rowMany" "[I", .fieldLink RX12 97 "NearEnoughModel" "isKeptBack" "[Z"]
def vs_n_sheetV : List Cond := .code yX12_sheet cX12_sheet 4 (some .int) :: (ow_n_sheetV ++ (wsX120))
theorem vg_n_sheetV : vs_n_sheetV.all goodWord = true := by decide +kernel
theorem dd_n_sheetV : yX12_sheet.cls = RX12 ∧ yX12_sheet.cls ≠ "java/lang/invoke/MethodHandle" ∧ yX12_sheet.cls ≠ "java/lang/invoke/VarHandle" ∧ (parseMethodDescriptor yX12_sheet.desc).map (fun d => d.parameters.length) = some 1 := by decide +kernel
def rm_n_sheetV : Room := { frames := 0, cells := 0, slots := 0, locals := 0 }
set_option maxHeartbeats 4000000 in
set_option maxRecDepth 100000 in
theorem n_sheetV (l : Launch) (dC : Nat → ClassId) (dI : Nat → Nat → Nat) (h : Nat) (ad : Nat → Nat) (cl : Nat → ClassId) (sz : Nat) (σ : MS) (x : Int32) (hI : Inv σ) : Met l yX12_sheet vs_n_sheetV rm_n_sheetV (va_Pc [.ref h, .int x] (wSt dC dI (mW h ad cl σ) (mT cl) sz)) (va_Qi (fun (r : Int32) (τ : MS) => Inv τ ∧ eqx [38, 31, 39] τ σ ∧ (RelP σ (σ.1 29).toNatClampNeg → NumS σ → NumS τ)) (fun (τ : MS) => wEn dC dI (va_A (mW h ad cl σ) sz) (mW h ad cl τ) []) (va_A (mW h ad cl σ) sz)) 0 0 (va_A (mW h ad cl σ) sz) := by
  refine Met.ofW (cc := cX12_sheet) (maxL := 4) (ret := (some .int)) (by decide) rfl ?_
  intro p e s m args below meth c s₁ B hml hv
  obtain ⟨rfl, hsz, hP, hK, hD0, hE⟩ := hv
  have hx := B.exec
  have hb := B.bytes
  have hr := B.returns
  have hts := atoms_spec (ws := vs_n_sheetV) B.pre
  have hown : s.vm.findClass RX12 = some m.cls := findClass_of_methodNamed B.named
  have hlocks := B.notSynchronized
  subst hsz
  have hD := hD0.self (sz := s.heap.size)
  generalize hAe : va_A (mW h ad cl σ) s.heap.size = A at hD ⊢
  have hA : ∀ q : Nat, s.heap.size ≤ q → A q := fun q h => by rw [← hAe]; exact Or.inr h
  have hl := lv_entry ([.ref h, .int x]) (n := 4) (Nat.le_of_ble_eq_true rfl)
  rw [lg_entry_eq]
  generalize (lg_sl ([.ref h, .int x]) ++ List.replicate (4 - (lg_sl ([.ref h, .int x])).length) Slot.unset).toArray = ls at hl ⊢
  have hl : lv_has ls 4 [(0, .ref h), (1, .int x)] := hl
  have ho := fun w (h : w ∈ ow_n_sheetV) => hts w (List.mem_cons_of_mem _ (List.mem_append_left _ h))
  have hin12 : ∀ w ∈ u_ws RX12 TX12 59, w ∈ vs_n_sheetV := fun w h => (List.mem_cons_of_mem _ (List.mem_append_right _ h))
  refine zQ (fun Q hQ => ?_)
  have pt_23 : ∀ (n23 : Nat) (τ : MS) (rv : Int32) (H : Heap) (locs : List Loc) (ls : Array Slot), (2 - rv.toInt).toNat < n23 → (Inv τ) → (eqx [38, 31, 39] τ σ) → (0 ≤ rv.toInt) → (τ.1 39 = σ.1 39) → (∀ i9, i9 < 12 * (σ.1 39).toNatClampNeg → τ.2.1 31 i9 = σ.2.1 31 i9) → (∀ r9 k9 : Nat, k9 < 6 → (r9 < rv.toNatClampNeg) → τ.2.1 31 (12 * (σ.1 39).toNatClampNeg + 6 * r9 + k9) = σ.2.1 15 (2 * (σ.1 29).toNatClampNeg + r9)) → ((σ.1 39).toInt ≤ 39) → va_P (dC, dI) vwCl (mW h ad cl τ) H → va_D A (mW h ad cl τ) → va_S A s.heap H locs → lv_has ls 4 [(0, .ref h), (1, .int x), (2, .int rv)] → W p l e (headSpec vs_n_sheetV rm_n_sheetV).room s m #[Value.ref h, Value.int x] below meth c H locs 0 0 Q (F0 m 23 ls []) := by
    intro n23
    induction n23 with
    | zero => intro τ rv H locs ls hn23 hIτ hxτ hr0 h39τ hN hL hs9 hP hD hS hl; exact absurd hn23 (Nat.not_lt_zero _)
    | succ n23 ih23 =>
      intro τ rv H locs ls hn23 hIτ hxτ hr0 h39τ hN hL hs9 hP hD hS hl
      have bτ_29 : 0 ≤ (τ.1 29).toInt ∧ (τ.1 29).toInt ≤ 1 := hIτ.1 29
      have qq1_ : (τ.1 29).toInt = ((σ.1 29) : Int32).toInt := congrArg Int32.toInt (((hxτ 29 rg_69).1))
      have bτ_39 : 0 ≤ (τ.1 39).toInt ∧ (τ.1 39).toInt ≤ 40 := hIτ.1 39
      have k39τ : (τ.1 39).toInt = (σ.1 39).toInt := congrArg Int32.toInt h39τ
      have pt_38 : ∀ (n38 : Nat) (υ : MS) (kv : Int32) (H : Heap) (locs : List Loc) (ls : Array Slot), (6 - kv.toInt).toNat < n38 → (Inv υ) → (eqx [38, 31, 39] υ σ) → (0 ≤ kv.toInt) → (rv.toInt ≤ 1) → (υ.1 39 = σ.1 39) → (∀ i9, i9 < 12 * (σ.1 39).toNatClampNeg → υ.2.1 31 i9 = σ.2.1 31 i9) → (∀ r9 k9 : Nat, k9 < 6 → (r9 < rv.toNatClampNeg ∨ (r9 = rv.toNatClampNeg ∧ k9 < kv.toNatClampNeg)) → υ.2.1 31 (12 * (σ.1 39).toNatClampNeg + 6 * r9 + k9) = σ.2.1 15 (2 * (σ.1 29).toNatClampNeg + r9)) → va_P (dC, dI) vwCl (mW h ad cl υ) H → va_D A (mW h ad cl υ) → va_S A s.heap H locs → lv_has ls 4 [(0, .ref h), (1, .int x), (2, .int rv), (3, .int kv)] → W p l e (headSpec vs_n_sheetV rm_n_sheetV).room s m #[Value.ref h, Value.int x] below meth c H locs 0 0 Q (F0 m 38 ls []) := by
        intro n38
        induction n38 with
        | zero => intro υ kv H locs ls hn38 hIυ hxυ hk0 hrvυ h39υ hN2 hL2 hP hD hS hl; exact absurd hn38 (Nat.not_lt_zero _)
        | succ n38 ih38 =>
          intro υ kv H locs ls hn38 hIυ hxυ hk0 hrvυ h39υ hN2 hL2 hP hD hS hl
          have bυ_29 : 0 ≤ (υ.1 29).toInt ∧ (υ.1 29).toInt ≤ 1 := hIυ.1 29
          have qq2_ : (υ.1 29).toInt = ((σ.1 29) : Int32).toInt := congrArg Int32.toInt (((hxυ 29 rg_69).1))
          have bυ_39 : 0 ≤ (υ.1 39).toInt ∧ (υ.1 39).toInt ≤ 40 := hIυ.1 39
          have k39υ : (υ.1 39).toInt = (σ.1 39).toInt := congrArg Int32.toInt h39υ
          refine lv_iload_n hx hb dX12_sheet_38 rfl (lv_at hl 3 rfl) ?_
          refine lv_bipush (v := 6) hx hb dX12_sheet_39 rg_55 ?_
          refine lv_icmp_ge (tgt := 82) hx hb dX12_sheet_41 rfl (fun c3_ => ?_) (fun c3_ => ?_)
          · have tc3_ := (show 6 ≤ kv.toInt from ti_le rg_70 rfl c3_)
            obtain ⟨z4_, ez4_⟩ : ∃ y : Int32, y = rv + 1 := ⟨_, rfl⟩
            have o1 : -2147483648 ≤ rv.toInt + 1 := by omega
            have o2 : rv.toInt + 1 ≤ 2147483647 := by omega
            have tz4_ := ti_add ez4_ rfl rg_18 o1 o2
            refine lv_iinc (v := z4_) (lv' := [(2, .int z4_), (0, .ref h), (1, .int x), (3, .int kv)]) hx hb dX12_sheet_82 hl (k := 2) rfl (iincp ez4_ rg_6) (Nat.le_of_ble_eq_true rfl) rfl (fun ls hl => ?_)
            refine lv_goto (tgt := 23) hx hb dX12_sheet_85 rfl ?_
            have o3 : 0 ≤ rv.toInt := by omega
            have o4 : z4_.toInt = rv.toInt + 1 := by omega
            have sk_ := cl_succ (z := z4_) (x := rv) o3 o4
            have o5 : 0 ≤ kv.toInt := by omega
            have qkv_ := ti_cl (x := kv) rfl o5
            have N6_ : ∀ r9 k9 : Nat, k9 < 6 → (r9 < z4_.toNatClampNeg) → υ.2.1 31 (12 * (σ.1 39).toNatClampNeg + 6 * r9 + k9) = σ.2.1 15 (2 * (σ.1 29).toNatClampNeg + r9) := fun r9 k9 h1 h2 => hL2 r9 k9 h1 (by omega)
            have o6 : 0 ≤ z4_.toInt := by omega
            have o7 : (2 - z4_.toInt).toNat < n23 := by omega
            exact ih23 υ z4_ _ _ _ (show (2 - z4_.toInt).toNat < n23 from o7) hIυ hxυ o6 h39υ hN2 N6_ hs9 hP hD hS (lv_sub hl [1, 2, 0] rfl)
          · have tc3_ := (show kv.toInt < 6 from ti_nle rg_70 rfl c3_)
            refine lv_aload_n hx hb dX12_sheet_44 rfl (lv_at hl 0 rfl) ?_
            refine va_get (D := (dC, dI)) (ci := 12) (v := .ref (ad 31)) (C := RX12) (T := TX12) (N := 59) hx hb hts hin12 hown hK hP 0 rfl rfl 31 (Nat.le_of_ble_eq_true rfl) (ho (.fieldLink RX12 76 "NearEnoughModel" "numbers" "[I") (List.mem_of_getElem? (i := 0) rfl)) (fun _ h9 => h9) rfl dX12_sheet_45 ?_
            refine lv_bipush (v := 12) hx hb dX12_sheet_48 rg_57 ?_
            refine lv_aload_n hx hb dX12_sheet_50 rfl (lv_at hl 0 rfl) ?_
            refine va_get (D := (dC, dI)) (ci := 12) (v := .int (υ.1 39)) (C := RX12) (T := TX12) (N := 59) hx hb hts hin12 hown hK hP 0 rfl rfl 39 (Nat.le_of_ble_eq_true rfl) (ho (.fieldLink RX12 249 "NearEnoughModel" "sheets" "I") (List.mem_of_getElem? (i := 1) rfl)) (fun _ h9 => h9) rfl dX12_sheet_51 ?_
            have bυ_39 : 0 ≤ (υ.1 39).toInt ∧ (υ.1 39).toInt ≤ 40 := hIυ.1 39
            refine lv_imul hx hb dX12_sheet_54 ?_
            refine lv_topi (fun z7_ ez7_ => ?_)
            have o8 : -2147483648 ≤ 12 * (υ.1 39).toInt := by omega
            have o9 : 12 * (υ.1 39).toInt ≤ 2147483647 := by omega
            have tz7_ : z7_.toInt = 12 * (υ.1 39).toInt := ti_mul ez7_ rg_58 rfl o8 o9
            refine lv_bipush (v := 6) hx hb dX12_sheet_55 rg_55 ?_
            refine lv_iload_n hx hb dX12_sheet_57 rfl (lv_at hl 2 rfl) ?_
            refine lv_imul hx hb dX12_sheet_58 ?_
            refine lv_topi (fun z8_ ez8_ => ?_)
            have o10 : -2147483648 ≤ 6 * rv.toInt := by omega
            have o11 : 6 * rv.toInt ≤ 2147483647 := by omega
            have tz8_ : z8_.toInt = 6 * rv.toInt := ti_mul ez8_ rg_70 rfl o10 o11
            refine lv_iadd hx hb dX12_sheet_59 ?_
            refine lv_topi (fun z9_ ez9_ => ?_)
            have o12 : -2147483648 ≤ z7_.toInt + z8_.toInt := by omega
            have o13 : z7_.toInt + z8_.toInt ≤ 2147483647 := by omega
            have tz9_ : z9_.toInt = z7_.toInt + z8_.toInt := ti_add ez9_ rfl rfl o12 o13
            refine lv_iload_n hx hb dX12_sheet_60 rfl (lv_at hl 3 rfl) ?_
            refine lv_iadd hx hb dX12_sheet_61 ?_
            refine lv_topi (fun z10_ ez10_ => ?_)
            have o14 : -2147483648 ≤ z9_.toInt + kv.toInt := by omega
            have o15 : z9_.toInt + kv.toInt ≤ 2147483647 := by omega
            have tz10_ : z10_.toInt = z9_.toInt + kv.toInt := ti_add ez10_ rfl rfl o14 o15
            refine lv_aload_n hx hb dX12_sheet_62 rfl (lv_at hl 0 rfl) ?_
            refine va_get (D := (dC, dI)) (ci := 12) (v := .ref (ad 15)) (C := RX12) (T := TX12) (N := 59) hx hb hts hin12 hown hK hP 0 rfl rfl 15 (Nat.le_of_ble_eq_true rfl) (ho (.fieldLink RX12 33 "NearEnoughModel" "rLeast" "[I") (List.mem_of_getElem? (i := 2) rfl)) (fun _ h9 => h9) rfl dX12_sheet_63 ?_
            refine lv_iconst (v := 2) hx hb dX12_sheet_66 rg_19 ?_
            refine lv_aload_n hx hb dX12_sheet_67 rfl (lv_at hl 0 rfl) ?_
            refine va_get (D := (dC, dI)) (ci := 12) (v := .int (υ.1 29)) (C := RX12) (T := TX12) (N := 59) hx hb hts hin12 hown hK hP 0 rfl rfl 29 (Nat.le_of_ble_eq_true rfl) (ho (.fieldLink RX12 240 "NearEnoughModel" "bank" "I") (List.mem_of_getElem? (i := 3) rfl)) (fun _ h9 => h9) rfl dX12_sheet_68 ?_
            refine zi (v := (σ.1 29)) ((hxυ 29 rg_69).1) ?_
            have bb11_ : 0 ≤ (σ.1 29).toInt ∧ (σ.1 29).toInt ≤ 1 := by have h9 := hIυ.1 29; rw [show (υ.1 29) = (σ.1 29) from ((hxυ 29 rg_69).1)] at h9; exact h9
            refine lv_imul hx hb dX12_sheet_71 ?_
            refine lv_topi (fun z12_ ez12_ => ?_)
            have o16 : -2147483648 ≤ 2 * (σ.1 29).toInt := by omega
            have o17 : 2 * (σ.1 29).toInt ≤ 2147483647 := by omega
            have tz12_ : z12_.toInt = 2 * (σ.1 29).toInt := ti_mul ez12_ rg_20 rfl o16 o17
            refine lv_iload_n hx hb dX12_sheet_72 rfl (lv_at hl 2 rfl) ?_
            refine lv_iadd hx hb dX12_sheet_73 ?_
            refine lv_topi (fun z13_ ez13_ => ?_)
            have o18 : -2147483648 ≤ z12_.toInt + rv.toInt := by omega
            have o19 : z12_.toInt + rv.toInt ≤ 2147483647 := by omega
            have tz13_ : z13_.toInt = z12_.toInt + rv.toInt := ti_add ez13_ rfl rfl o18 o19
            have o20 : 0 ≤ z13_.toInt := by omega
            have o21 : z13_.toInt < ((4 : Nat) : Int) := by omega
            refine va_iald hx hb hK hP 7 6 rfl rfl (ti_inx o20 o21) dX12_sheet_74 ?_
            refine lv_topi (fun z14_ ez14_ => ?_)
            have gz14_ : z14_.toInt = ((υ.2.1 15) (Int32.toNatClampNeg z13_)).toInt := congrArg Int32.toInt (ez14_.trans (congrFun rfl (Int32.toNatClampNeg z13_)))
            have o22 : 0 ≤ z10_.toInt := by omega
            have o23 : z10_.toInt < ((480 : Nat) : Int) := by omega
            refine va_iast hx hb hK hP hD hS 21 20 rfl rfl (ti_inx o22 o23) dX12_sheet_75 (fun H locs hP hD hS => ?_)
            rw [wS31] at hP hD
            obtain ⟨τ15_, eτ15_⟩ : ∃ x9 : MS, x9 = sA υ 31 (upd (υ.2.1 31) (Int32.toNatClampNeg z10_) z14_) := ⟨_, rfl⟩
            have hP : va_P (dC, dI) vwCl (mW h ad cl τ15_) H := by rw [eτ15_]; exact hP
            have hD : va_D A (mW h ad cl τ15_) := by rw [eτ15_]; exact hD
            have hIτ15_ : Inv τ15_ := by rw [eτ15_]; exact (Inv_sA1 hIυ (fun j _ => Inv.any _))
            have Xτ15_ : eqx [38, 31, 39] τ15_ σ := (eqx.eq eτ15_ (eqx.sA hxυ rg_71))
            have qq16_ : (τ15_.1 29).toInt = ((σ.1 29) : Int32).toInt := congrArg Int32.toInt ((show τ15_.1 29 = (σ.1 29) from (congrArg (fun x9 : MS => x9.1 29) eτ15_).trans ((hxυ 29 rg_69).1)))
            have qq17_ : (τ15_.1 39).toInt = ((υ.1 39) : Int32).toInt := congrArg Int32.toInt ((show τ15_.1 39 = (υ.1 39) from (congrArg (fun x9 : MS => x9.1 39) eτ15_).trans rfl))
            obtain ⟨z18_, ez18_⟩ : ∃ y : Int32, y = kv + 1 := ⟨_, rfl⟩
            have o24 : -2147483648 ≤ kv.toInt + 1 := by omega
            have o25 : kv.toInt + 1 ≤ 2147483647 := by omega
            have tz18_ := ti_add ez18_ rfl rg_18 o24 o25
            refine lv_iinc (v := z18_) (lv' := [(3, .int z18_), (0, .ref h), (1, .int x), (2, .int rv)]) hx hb dX12_sheet_76 hl (k := 3) rfl (iincp ez18_ rg_6) (Nat.le_of_ble_eq_true rfl) rfl (fun ls hl => ?_)
            refine lv_goto (tgt := 38) hx hb dX12_sheet_79 rfl ?_
            have C31 : (τ15_).2.1 31 = (upd (υ.2.1 31) (Int32.toNatClampNeg z10_) z14_) := ((congrArg (fun x9 : MS => x9.2.1 31) eτ15_).trans (tAe.trans (congrArg (fun f9 => (upd f9 (Int32.toNatClampNeg z10_) z14_)) rfl)))
            have qz_ := ti_cl (x := z10_) rfl o22
            have o26 : 0 ≤ (σ.1 39).toInt := by omega
            have qs_ := ti_cl (x := σ.1 39) rfl o26
            have o27 : 0 ≤ rv.toInt := by omega
            have qrv_ := ti_cl (x := rv) rfl o27
            have o28 : 0 ≤ kv.toInt := by omega
            have qkv_ := ti_cl (x := kv) rfl o28
            have o29 : z13_.toInt = 2 * (σ.1 29).toInt + rv.toInt := by omega
            have Xz13_ : z13_.toNatClampNeg = 2 * (σ.1 29).toNatClampNeg + rv.toNatClampNeg := row_x (hI.1 29).1 o27 o29
            have V_ : z10_.toNatClampNeg = 12 * (σ.1 39).toNatClampNeg + 6 * rv.toNatClampNeg + kv.toNatClampNeg := by omega
            have L_ : z14_ = σ.2.1 15 (2 * (σ.1 29).toNatClampNeg + rv.toNatClampNeg) := by rw [← Xz13_]; exact ez14_.trans (congrFun (hxυ 15 rg_656).2.1 _)
            have N19_ : ∀ i9, i9 < 12 * (σ.1 39).toNatClampNeg → (τ15_).2.1 31 i9 = σ.2.1 31 i9 := fun i9 h9 => by rw [C31, pk_un (by omega)]; exact hN2 i9 h9
            have o30 : z18_.toInt = kv.toInt + 1 := by omega
            have sk_ := cl_succ (z := z18_) (x := kv) o28 o30
            have N20_ : ∀ r9 k9 : Nat, k9 < 6 → (r9 < rv.toNatClampNeg ∨ (r9 = rv.toNatClampNeg ∧ k9 < z18_.toNatClampNeg)) → (τ15_).2.1 31 (12 * (σ.1 39).toNatClampNeg + 6 * r9 + k9) = σ.2.1 15 (2 * (σ.1 29).toNatClampNeg + r9) := fun r9 k9 h1 h2 => by rw [C31]; by_cases e9 : 12 * (σ.1 39).toNatClampNeg + 6 * r9 + k9 = z10_.toNatClampNeg; (rw [e9, pk_us, L_, show r9 = rv.toNatClampNeg by omega]); (rw [pk_un e9]; exact hL2 r9 k9 h1 (by omega))
            have o31 : 0 ≤ z18_.toInt := by omega
            have o32 : (6 - z18_.toInt).toNat < n38 := by omega
            exact ih38 τ15_ z18_ _ _ _ (show (6 - z18_.toInt).toNat < n38 from o32) hIτ15_ Xτ15_ o31 hrvυ (show (τ15_).1 39 = σ.1 39 from (congrArg (fun x9 : MS => x9.1 39) eτ15_).trans h39υ) N19_ N20_ hP hD hS (lv_sub hl [1, 2, 3, 0] rfl)
      refine lv_iload_n hx hb dX12_sheet_23 rfl (lv_at hl 2 rfl) ?_
      refine lv_aload_n hx hb dX12_sheet_24 rfl (lv_at hl 0 rfl) ?_
      refine va_get (D := (dC, dI)) (ci := 12) (v := .ref (ad 11)) (C := RX12) (T := TX12) (N := 59) hx hb hts hin12 hown hK hP 0 rfl rfl 11 (Nat.le_of_ble_eq_true rfl) (ho (.fieldLink RX12 20 "NearEnoughModel" "rowMany" "[I") (List.mem_of_getElem? (i := 4) rfl)) (fun _ h9 => h9) rfl dX12_sheet_25 ?_
      refine lv_aload_n hx hb dX12_sheet_28 rfl (lv_at hl 0 rfl) ?_
      refine va_get (D := (dC, dI)) (ci := 12) (v := .int (τ.1 29)) (C := RX12) (T := TX12) (N := 59) hx hb hts hin12 hown hK hP 0 rfl rfl 29 (Nat.le_of_ble_eq_true rfl) (ho (.fieldLink RX12 240 "NearEnoughModel" "bank" "I") (List.mem_of_getElem? (i := 3) rfl)) (fun _ h9 => h9) rfl dX12_sheet_29 ?_
      refine zi (v := (σ.1 29)) ((hxτ 29 rg_69).1) ?_
      have bb21_ : 0 ≤ (σ.1 29).toInt ∧ (σ.1 29).toInt ≤ 1 := by have h9 := hIτ.1 29; rw [show (τ.1 29) = (σ.1 29) from ((hxτ 29 rg_69).1)] at h9; exact h9
      have o33 : 0 ≤ (σ.1 29).toInt := by omega
      have o34 : (σ.1 29).toInt < ((2 : Nat) : Int) := by omega
      refine va_iald hx hb hK hP 3 2 rfl rfl (ti_inx o33 o34) dX12_sheet_32 ?_
      refine lv_topi (fun z22_ ez22_ => ?_)
      have gz22_ : z22_.toInt = ((σ.2.1 11) (Int32.toNatClampNeg (σ.1 29))).toInt := congrArg Int32.toInt (ez22_.trans (congrFun (hxτ 11 rg_657).2.1 (Int32.toNatClampNeg (σ.1 29))))
      have bz22_ : 0 ≤ z22_.toInt ∧ z22_.toInt ≤ 2 := by rw [ez22_]; exact (hIτ.2 11) _ (cl_lt (n := 2) o33 o34)
      refine lv_icmp_ge (tgt := 88) hx hb dX12_sheet_33 rfl (fun c23_ => ?_) (fun c23_ => ?_)
      · have tc23_ := (show z22_.toInt ≤ rv.toInt from ti_le rfl rfl c23_)
        refine lv_aload_n hx hb dX12_sheet_88 rfl (lv_at hl 0 rfl) ?_
        refine lv_dup hx hb dX12_sheet_89 rfl ?_
        refine va_get (D := (dC, dI)) (ci := 12) (v := .int (τ.1 39)) (C := RX12) (T := TX12) (N := 59) hx hb hts hin12 hown hK hP 0 rfl rfl 39 (Nat.le_of_ble_eq_true rfl) (ho (.fieldLink RX12 249 "NearEnoughModel" "sheets" "I") (List.mem_of_getElem? (i := 1) rfl)) (fun _ h9 => h9) rfl dX12_sheet_90 ?_
        have bτ_39 : 0 ≤ (τ.1 39).toInt ∧ (τ.1 39).toInt ≤ 40 := hIτ.1 39
        refine lv_iconst (v := 1) hx hb dX12_sheet_93 rg_6 ?_
        refine lv_iadd hx hb dX12_sheet_94 ?_
        refine lv_topi (fun z24_ ez24_ => ?_)
        have o35 : -2147483648 ≤ (τ.1 39).toInt + 1 := by omega
        have o36 : (τ.1 39).toInt + 1 ≤ 2147483647 := by omega
        have tz24_ : z24_.toInt = (τ.1 39).toInt + 1 := ti_add ez24_ rfl rg_18 o35 o36
        refine va_put (D := (dC, dI)) (ci := 12) (v := .int z24_) (ty := tyX12 39) (C := RX12) (T := TX12) (N := 59) hx hb hts hin12 tyX12 tyX12_ok nmX12 hown hK hP hD hS 0 rfl rfl 39 (Nat.le_of_ble_eq_true rfl) (ho (.fieldLink RX12 249 "NearEnoughModel" "sheets" "I") (List.mem_of_getElem? (i := 1) rfl)) (fun _ h9 => h9) rfl (tyX12_ok 39 (Nat.le_of_ble_eq_true rfl)) rfl rfl (Nat.le_of_ble_eq_true rfl) dX12_sheet_95 (fun H locs hP hD hS => ?_)
        have hP : va_P (dC, dI) vwCl (mW h ad cl (sI τ 39 z24_)) H := hP
        have hD : va_D A (mW h ad cl (sI τ 39 z24_)) := hD
        refine lv_aload_n hx hb dX12_sheet_98 rfl (lv_at hl 0 rfl) ?_
        refine va_get (D := (dC, dI)) (ci := 12) (v := .int z24_) (C := RX12) (T := TX12) (N := 59) hx hb hts hin12 hown hK hP 0 rfl rfl 39 (Nat.le_of_ble_eq_true rfl) (ho (.fieldLink RX12 249 "NearEnoughModel" "sheets" "I") (List.mem_of_getElem? (i := 1) rfl)) (fun _ h9 => h9) rfl dX12_sheet_99 ?_
        refine lv_iconst (v := 1) hx hb dX12_sheet_102 rg_6 ?_
        refine lv_isub hx hb dX12_sheet_103 ?_
        refine lv_topi (fun z25_ ez25_ => ?_)
        have o37 : -2147483648 ≤ z24_.toInt - 1 := by omega
        have o38 : z24_.toInt - 1 ≤ 2147483647 := by omega
        have tz25_ : z25_.toInt = z24_.toInt - 1 := ti_sub ez25_ rfl rg_18 o37 o38
        rw [hQ]
        have qrv_ := ti_cl (x := rv) rfl hr0
        have o39 : z24_.toInt = (σ.1 39).toInt + 1 := by omega
        have o40 : (σ.2.1 11 (σ.1 29).toNatClampNeg).toInt ≤ rv.toInt := by omega
        have o41 : (0 : Int) ≤ z24_.toInt := by omega
        have o42 : z24_.toInt ≤ 40 := by omega
        exact W.iret (v := z25_) hx hb hr (fun t ht hW => ⟨⟨z25_, (sI τ 39 z24_), rfl, ⟨(Inv.sI (k := 39) (v := z24_) hIτ (show (0 : Int) ≤ z24_.toInt ∧ z24_.toInt ≤ 40 from ⟨o41, o42⟩)), (eqx.sI hxτ rg_72), (fun hP9 h9 => NumS.sheet hI hP9 h9 (hxτ 29 rg_69).1 (fun p9 h1 h2 => (hxτ p9 (rg_658 p9 h1 h2)).2.1) (show z24_.toInt = (σ.1 39).toInt + 1 from o39) hN (fun r9 k9 h1 h2 => hL r9 k9 h1 (by have h3 := o40; omega)))⟩, wEn_of hP (hK.sub [] rfl) hD ht hW⟩, hS.F ht⟩) hS.2.2 dX12_sheet_104
      · have tc23_ := (show rv.toInt < z22_.toInt from ti_nle rfl rfl c23_)
        refine lv_iconst (v := 0) hx hb dX12_sheet_36 rg_0 ?_
        refine lv_istore_n (lv' := [(3, .int 0), (0, .ref h), (1, .int x), (2, .int rv)]) hx hb dX12_sheet_37 rfl hl (Nat.le_of_ble_eq_true rfl) rfl (fun ls hl => ?_)
        have N27_ : ∀ r9 k9 : Nat, k9 < 6 → (r9 < rv.toNatClampNeg ∨ (r9 = rv.toNatClampNeg ∧ k9 < (0 : Int32).toNatClampNeg)) → τ.2.1 31 (12 * (σ.1 39).toNatClampNeg + 6 * r9 + k9) = σ.2.1 15 (2 * (σ.1 29).toNatClampNeg + r9) := fun r9 k9 h1 h2 => hL r9 k9 h1 (h2.elim (fun h => h) (fun h => absurd h.2 (by rw [show (0 : Int32).toNatClampNeg = 0 from by decide]; exact Nat.not_lt_zero _)))
        have o43 : rv.toInt ≤ 1 := by omega
        exact pt_38 _ τ 0 _ _ _ (Nat.lt_succ_self _) hIτ hxτ rg_56 (show rv.toInt ≤ 1 from o43) h39τ hN N27_ hP hD hS (lv_sub hl [1, 2, 3, 0] rfl)
  refine zH (A := A) (ws := mW h ad cl σ) (fun H hP hS => ?_) hP
  have bσ_29 : 0 ≤ (σ.1 29).toInt ∧ (σ.1 29).toInt ≤ 1 := hI.1 29
  have bσ_39 : 0 ≤ (σ.1 39).toInt ∧ (σ.1 39).toInt ≤ 40 := hI.1 39
  refine lv_aload_n hx hb dX12_sheet_0 rfl (lv_at hl 0 rfl) ?_
  refine va_get (D := (dC, dI)) (ci := 12) (v := .int (σ.1 39)) (C := RX12) (T := TX12) (N := 59) hx hb hts hin12 hown hK hP 0 rfl rfl 39 (Nat.le_of_ble_eq_true rfl) (ho (.fieldLink RX12 249 "NearEnoughModel" "sheets" "I") (List.mem_of_getElem? (i := 1) rfl)) (fun _ h9 => h9) rfl dX12_sheet_1 ?_
  have bσ_39 : 0 ≤ (σ.1 39).toInt ∧ (σ.1 39).toInt ≤ 40 := hI.1 39
  refine lv_bipush (v := 40) hx hb dX12_sheet_4 rg_73 ?_
  refine lv_icmp_ne (tgt := 11) hx hb dX12_sheet_6 rfl (fun c28_ => ?_) (fun c28_ => ?_)
  · have tc28_ := (show (σ.1 39).toInt ≠ 40 from ti_ne rfl rg_74 c28_)
    refine lv_aload_n hx hb dX12_sheet_11 rfl (lv_at hl 0 rfl) ?_
    refine va_get (D := (dC, dI)) (ci := 12) (v := .ref (ad 38)) (C := RX12) (T := TX12) (N := 59) hx hb hts hin12 hown hK hP 0 rfl rfl 38 (Nat.le_of_ble_eq_true rfl) (ho (.fieldLink RX12 97 "NearEnoughModel" "isKeptBack" "[Z") (List.mem_of_getElem? (i := 5) rfl)) (fun _ h9 => h9) rfl dX12_sheet_12 ?_
    refine lv_aload_n hx hb dX12_sheet_15 rfl (lv_at hl 0 rfl) ?_
    refine va_get (D := (dC, dI)) (ci := 12) (v := .int (σ.1 39)) (C := RX12) (T := TX12) (N := 59) hx hb hts hin12 hown hK hP 0 rfl rfl 39 (Nat.le_of_ble_eq_true rfl) (ho (.fieldLink RX12 249 "NearEnoughModel" "sheets" "I") (List.mem_of_getElem? (i := 1) rfl)) (fun _ h9 => h9) rfl dX12_sheet_16 ?_
    have bσ_39 : 0 ≤ (σ.1 39).toInt ∧ (σ.1 39).toInt ≤ 40 := hI.1 39
    refine lv_iload_n hx hb dX12_sheet_19 rfl (lv_at hl 1 rfl) ?_
    have o44 : 0 ≤ (σ.1 39).toInt := by omega
    have o45 : (σ.1 39).toInt < ((40 : Nat) : Int) := by omega
    refine va_zast hx hb hK hP hD hS 28 27 rfl rfl (ti_inx o44 o45) dX12_sheet_20 (fun H locs hP hD hS => ?_)
    rw [wS38] at hP hD
    obtain ⟨τ29_, eτ29_⟩ : ∃ x9 : MS, x9 = sA σ 38 (upd (σ.2.1 38) (Int32.toNatClampNeg (σ.1 39)) (vp_nar .boolean x)) := ⟨_, rfl⟩
    have hP : va_P (dC, dI) vwCl (mW h ad cl τ29_) H := by rw [eτ29_]; exact hP
    have hD : va_D A (mW h ad cl τ29_) := by rw [eτ29_]; exact hD
    have hIτ29_ : Inv τ29_ := by rw [eτ29_]; exact (Inv_sA1 hI (fun j _ => Inv.any _))
    have Xτ29_ : eqx [38, 31, 39] τ29_ σ := (eqx.eq eτ29_ (eqx.sA eqx.rf rg_75))
    have qq30_ : (τ29_.1 29).toInt = ((σ.1 29) : Int32).toInt := congrArg Int32.toInt ((show τ29_.1 29 = (σ.1 29) from (congrArg (fun x9 : MS => x9.1 29) eτ29_).trans rfl))
    have qq31_ : (τ29_.1 39).toInt = ((σ.1 39) : Int32).toInt := congrArg Int32.toInt ((show τ29_.1 39 = (σ.1 39) from (congrArg (fun x9 : MS => x9.1 39) eτ29_).trans rfl))
    have o46 : (σ.1 39).toInt ≤ 39 := by omega
    have hsσ : (σ.1 39).toInt ≤ 39 := o46
    refine lv_iconst (v := 0) hx hb dX12_sheet_21 rg_0 ?_
    refine lv_istore_n (lv' := [(2, .int 0), (0, .ref h), (1, .int x)]) hx hb dX12_sheet_22 rfl hl (Nat.le_of_ble_eq_true rfl) rfl (fun ls hl => ?_)
    have C31 : (τ29_).2.1 31 = (σ.2.1 31) := ((congrArg (fun x9 : MS => x9.2.1 31) eτ29_).trans ((tA rg_659).trans rfl))
    have N32_ : ∀ i9, i9 < 12 * (σ.1 39).toNatClampNeg → (τ29_).2.1 31 i9 = σ.2.1 31 i9 := fun i9 _ => by rw [C31]
    have N33_ : ∀ r9 k9 : Nat, k9 < 6 → (r9 < (0 : Int32).toNatClampNeg) → (τ29_).2.1 31 (12 * (σ.1 39).toNatClampNeg + 6 * r9 + k9) = σ.2.1 15 (2 * (σ.1 29).toNatClampNeg + r9) := fun r9 k9 _ h2 => absurd h2 (by rw [show (0 : Int32).toNatClampNeg = 0 from by decide]; exact Nat.not_lt_zero _)
    exact pt_23 _ τ29_ 0 _ _ _ (Nat.lt_succ_self _) hIτ29_ Xτ29_ rg_56 (show (τ29_).1 39 = σ.1 39 from (congrArg (fun x9 : MS => x9.1 39) eτ29_).trans rfl) N32_ N33_ hsσ hP hD hS (lv_sub hl [1, 2, 0] rfl)
  · have tc28_ := (show (σ.1 39).toInt = 40 from ti_eq rfl rg_74 c28_)
    refine lv_iconst (v := (-1)) hx hb dX12_sheet_9 rg_53 ?_
    rw [hQ]
    exact W.iret (v := (-1)) hx hb hr (fun t ht hW => ⟨⟨(-1), σ, rfl, ⟨hI, eqx.rf, (fun _ h9 => h9)⟩, wEn_of hP (hK.sub [] rfl) hD ht hW⟩, hS.F ht⟩) hS.2.2 dX12_sheet_10
