theorem dX12_at0_0 : decode cX12_at0 0 = .ok (.bipush 12, 2) := by decide +kernel
theorem dX12_at0_2 : decode cX12_at0 2 = .ok (.aload_n 0, 1) := by decide +kernel
theorem dX12_at0_3 : decode cX12_at0 3 = .ok (.getfield 240, 3) := by decide +kernel
theorem dX12_at0_6 : decode cX12_at0 6 = .ok (.imul, 1) := by decide +kernel
theorem dX12_at0_7 : decode cX12_at0 7 = .ok (.iload_n 1, 1) := by decide +kernel
theorem dX12_at0_8 : decode cX12_at0 8 = .ok (.iadd, 1) := by decide +kernel
theorem dX12_at0_9 : decode cX12_at0 9 = .ok (.ireturn, 1) := by decide +kernel
theorem dX12_sheet_38 : decode cX12_sheet 38 = .ok (.iload_n 3, 1) := by decide +kernel
theorem dX12_sheet_39 : decode cX12_sheet 39 = .ok (.bipush 6, 2) := by decide +kernel
theorem dX12_sheet_41 : decode cX12_sheet 41 = .ok (.if_icmp .ge 41, 3) := by decide +kernel
theorem dX12_sheet_82 : decode cX12_sheet 82 = .ok (.iinc 2 1, 3) := by decide +kernel
theorem dX12_sheet_85 : decode cX12_sheet 85 = .ok (.goto (-62), 3) := by decide +kernel
theorem dX12_sheet_44 : decode cX12_sheet 44 = .ok (.aload_n 0, 1) := by decide +kernel
theorem dX12_sheet_45 : decode cX12_sheet 45 = .ok (.getfield 76, 3) := by decide +kernel
theorem dX12_sheet_48 : decode cX12_sheet 48 = .ok (.bipush 12, 2) := by decide +kernel
theorem dX12_sheet_50 : decode cX12_sheet 50 = .ok (.aload_n 0, 1) := by decide +kernel
theorem dX12_sheet_51 : decode cX12_sheet 51 = .ok (.getfield 249, 3) := by decide +kernel
theorem dX12_sheet_54 : decode cX12_sheet 54 = .ok (.imul, 1) := by decide +kernel
theorem dX12_sheet_55 : decode cX12_sheet 55 = .ok (.bipush 6, 2) := by decide +kernel
theorem dX12_sheet_57 : decode cX12_sheet 57 = .ok (.iload_n 2, 1) := by decide +kernel
theorem dX12_sheet_58 : decode cX12_sheet 58 = .ok (.imul, 1) := by decide +kernel
theorem dX12_sheet_59 : decode cX12_sheet 59 = .ok (.iadd, 1) := by decide +kernel
theorem dX12_sheet_60 : decode cX12_sheet 60 = .ok (.iload_n 3, 1) := by decide +kernel
theorem dX12_sheet_61 : decode cX12_sheet 61 = .ok (.iadd, 1) := by decide +kernel
theorem dX12_sheet_62 : decode cX12_sheet 62 = .ok (.aload_n 0, 1) := by decide +kernel
theorem dX12_sheet_63 : decode cX12_sheet 63 = .ok (.getfield 33, 3) := by decide +kernel
theorem dX12_sheet_66 : decode cX12_sheet 66 = .ok (.iconst 2, 1) := by decide +kernel
theorem dX12_sheet_67 : decode cX12_sheet 67 = .ok (.aload_n 0, 1) := by decide +kernel
theorem dX12_sheet_68 : decode cX12_sheet 68 = .ok (.getfield 240, 3) := by decide +kernel
theorem dX12_sheet_71 : decode cX12_sheet 71 = .ok (.imul, 1) := by decide +kernel
theorem dX12_sheet_72 : decode cX12_sheet 72 = .ok (.iload_n 2, 1) := by decide +kernel
theorem dX12_sheet_73 : decode cX12_sheet 73 = .ok (.iadd, 1) := by decide +kernel
theorem dX12_sheet_74 : decode cX12_sheet 74 = .ok (.iaload, 1) := by decide +kernel
theorem dX12_sheet_75 : decode cX12_sheet 75 = .ok (.iastore, 1) := by decide +kernel
theorem dX12_sheet_76 : decode cX12_sheet 76 = .ok (.iinc 3 1, 3) := by decide +kernel
theorem dX12_sheet_79 : decode cX12_sheet 79 = .ok (.goto (-41), 3) := by decide +kernel
theorem dX12_sheet_23 : decode cX12_sheet 23 = .ok (.iload_n 2, 1) := by decide +kernel
theorem dX12_sheet_24 : decode cX12_sheet 24 = .ok (.aload_n 0, 1) := by decide +kernel
theorem dX12_sheet_25 : decode cX12_sheet 25 = .ok (.getfield 20, 3) := by decide +kernel
theorem dX12_sheet_28 : decode cX12_sheet 28 = .ok (.aload_n 0, 1) := by decide +kernel
theorem dX12_sheet_29 : decode cX12_sheet 29 = .ok (.getfield 240, 3) := by decide +kernel
theorem dX12_sheet_32 : decode cX12_sheet 32 = .ok (.iaload, 1) := by decide +kernel
theorem dX12_sheet_33 : decode cX12_sheet 33 = .ok (.if_icmp .ge 55, 3) := by decide +kernel
theorem dX12_sheet_88 : decode cX12_sheet 88 = .ok (.aload_n 0, 1) := by decide +kernel
theorem dX12_sheet_89 : decode cX12_sheet 89 = .ok (.dup, 1) := by decide +kernel
theorem dX12_sheet_90 : decode cX12_sheet 90 = .ok (.getfield 249, 3) := by decide +kernel
theorem dX12_sheet_93 : decode cX12_sheet 93 = .ok (.iconst 1, 1) := by decide +kernel
theorem dX12_sheet_94 : decode cX12_sheet 94 = .ok (.iadd, 1) := by decide +kernel
theorem dX12_sheet_95 : decode cX12_sheet 95 = .ok (.putfield 249, 3) := by decide +kernel
theorem dX12_sheet_98 : decode cX12_sheet 98 = .ok (.aload_n 0, 1) := by decide +kernel
theorem dX12_sheet_99 : decode cX12_sheet 99 = .ok (.getfield 249, 3) := by decide +kernel
theorem dX12_sheet_102 : decode cX12_sheet 102 = .ok (.iconst 1, 1) := by decide +kernel
theorem dX12_sheet_103 : decode cX12_sheet 103 = .ok (.isub, 1) := by decide +kernel
theorem dX12_sheet_104 : decode cX12_sheet 104 = .ok (.ireturn, 1) := by decide +kernel
theorem dX12_sheet_36 : decode cX12_sheet 36 = .ok (.iconst 0, 1) := by decide +kernel
theorem dX12_sheet_37 : decode cX12_sheet 37 = .ok (.istore_n 3, 1) := by decide +kernel
theorem dX12_sheet_0 : decode cX12_sheet 0 = .ok (.aload_n 0, 1) := by decide +kernel
theorem dX12_sheet_1 : decode cX12_sheet 1 = .ok (.getfield 249, 3) := by decide +kernel
theorem dX12_sheet_4 : decode cX12_sheet 4 = .ok (.bipush 40, 2) := by decide +kernel
theorem dX12_sheet_6 : decode cX12_sheet 6 = .ok (.if_icmp .ne 5, 3) := by decide +kernel
theorem dX12_sheet_11 : decode cX12_sheet 11 = .ok (.aload_n 0, 1) := by decide +kernel
theorem dX12_sheet_12 : decode cX12_sheet 12 = .ok (.getfield 97, 3) := by decide +kernel
theorem dX12_sheet_15 : decode cX12_sheet 15 = .ok (.aload_n 0, 1) := by decide +kernel
theorem dX12_sheet_16 : decode cX12_sheet 16 = .ok (.getfield 249, 3) := by decide +kernel
theorem dX12_sheet_19 : decode cX12_sheet 19 = .ok (.iload_n 1, 1) := by decide +kernel
theorem dX12_sheet_20 : decode cX12_sheet 20 = .ok (.bastore, 1) := by decide +kernel
theorem dX12_sheet_21 : decode cX12_sheet 21 = .ok (.iconst 0, 1) := by decide +kernel
theorem dX12_sheet_22 : decode cX12_sheet 22 = .ok (.istore_n 2, 1) := by decide +kernel
theorem dX12_sheet_9 : decode cX12_sheet 9 = .ok (.iconst (-1), 1) := by decide +kernel
theorem dX12_sheet_10 : decode cX12_sheet 10 = .ok (.ireturn, 1) := by decide +kernel
theorem rg_69 : 29 ∉ [38, 31, 39] := by decide
theorem rg_70 : (6 : Int32).toInt = 6 := by decide
theorem rg_71 : 31 ∈ [38, 31, 39] := by decide
theorem rg_72 : 39 ∈ [38, 31, 39] := by decide
theorem rg_73 : Int32.ofInt 40 = 40 := by decide
theorem rg_74 : (40 : Int32).toInt = 40 := by decide
theorem rg_75 : 38 ∈ [38, 31, 39] := by decide
def ow_n_at0 : List Cond := [.fieldLink RX12 240 "NearEnoughModel" "bank" "I"]
def vs_n_at0 : List Cond := .code yX12_at0 cX12_at0 2 (some .int) :: (ow_n_at0 ++ (wsX120))
theorem vg_n_at0 : vs_n_at0.all goodWord = true := by decide +kernel
theorem dd_n_at0 : yX12_at0.cls = RX12 ∧ yX12_at0.cls ≠ "java/lang/invoke/MethodHandle" ∧ yX12_at0.cls ≠ "java/lang/invoke/VarHandle" ∧ (parseMethodDescriptor yX12_at0.desc).map (fun d => d.parameters.length) = some 1 := by decide +kernel
def rm_n_at0 : Room := { frames := 0, cells := 0, slots := 0, locals := 0 }
set_option maxHeartbeats 4000000 in
set_option maxRecDepth 100000 in
theorem n_at0 (l : Launch) (dC : Nat → ClassId) (dI : Nat → Nat → Nat) (h : Nat) (ad : Nat → Nat) (cl : Nat → ClassId) (sz : Nat) (σ : MS) (x : Int32) (hI : Inv σ) (hx0 : 0 ≤ x.toInt ∧ x.toInt ≤ 11) : Met l yX12_at0 vs_n_at0 rm_n_at0 (va_Pc [.ref h, .int x] (wSt dC dI (mW h ad cl σ) (mT cl) sz)) (va_Qi (fun (r : Int32) (τ : MS) => σ = τ ∧ r.toInt = 12 * (σ.1 29).toInt + x.toInt) (fun (τ : MS) => wEn dC dI (va_A (mW h ad cl σ) sz) (mW h ad cl τ) []) (va_A (mW h ad cl σ) sz)) 0 0 (va_A (mW h ad cl σ) sz) := by
  refine Met.ofW (cc := cX12_at0) (maxL := 2) (ret := (some .int)) (by decide) rfl ?_
  intro p e s m args below meth c s₁ B hml hv
  obtain ⟨rfl, hsz, hP, hK, hD0, hE⟩ := hv
  have hx := B.exec
  have hb := B.bytes
  have hr := B.returns
  have hts := atoms_spec (ws := vs_n_at0) B.pre
  have hown : s.vm.findClass RX12 = some m.cls := findClass_of_methodNamed B.named
  have hlocks := B.notSynchronized
  subst hsz
  have hD := hD0.self (sz := s.heap.size)
  generalize hAe : va_A (mW h ad cl σ) s.heap.size = A at hD ⊢
  have hA : ∀ q : Nat, s.heap.size ≤ q → A q := fun q h => by rw [← hAe]; exact Or.inr h
  have hl := lv_entry ([.ref h, .int x]) (n := 2) (Nat.le_of_ble_eq_true rfl)
  rw [lg_entry_eq]
  generalize (lg_sl ([.ref h, .int x]) ++ List.replicate (2 - (lg_sl ([.ref h, .int x])).length) Slot.unset).toArray = ls at hl ⊢
  have hl : lv_has ls 2 [(0, .ref h), (1, .int x)] := hl
  have ho := fun w (h : w ∈ ow_n_at0) => hts w (List.mem_cons_of_mem _ (List.mem_append_left _ h))
  have hin12 : ∀ w ∈ u_ws RX12 TX12 59, w ∈ vs_n_at0 := fun w h => (List.mem_cons_of_mem _ (List.mem_append_right _ h))
  refine zQ (fun Q hQ => ?_)
  refine zH (A := A) (ws := mW h ad cl σ) (fun H hP hS => ?_) hP
  have bσ_29 : 0 ≤ (σ.1 29).toInt ∧ (σ.1 29).toInt ≤ 1 := hI.1 29
  refine lv_bipush (v := 12) hx hb dX12_at0_0 rg_57 ?_
  refine lv_aload_n hx hb dX12_at0_2 rfl (lv_at hl 0 rfl) ?_
  refine va_get (D := (dC, dI)) (ci := 12) (v := .int (σ.1 29)) (C := RX12) (T := TX12) (N := 59) hx hb hts hin12 hown hK hP 0 rfl rfl 29 (Nat.le_of_ble_eq_true rfl) (ho (.fieldLink RX12 240 "NearEnoughModel" "bank" "I") (List.mem_of_getElem? (i := 0) rfl)) (fun _ h9 => h9) rfl dX12_at0_3 ?_
  have bσ_29 : 0 ≤ (σ.1 29).toInt ∧ (σ.1 29).toInt ≤ 1 := hI.1 29
  refine lv_imul hx hb dX12_at0_6 ?_
  refine lv_topi (fun z1 ez1 => ?_)
  have o1 : -2147483648 ≤ 12 * (σ.1 29).toInt := by omega
  have o2 : 12 * (σ.1 29).toInt ≤ 2147483647 := by omega
  have tz1 : z1.toInt = 12 * (σ.1 29).toInt := ti_mul ez1 rg_58 rfl o1 o2
  refine lv_iload_n hx hb dX12_at0_7 rfl (lv_at hl 1 rfl) ?_
  refine lv_iadd hx hb dX12_at0_8 ?_
  refine lv_topi (fun z2 ez2 => ?_)
  have o3 : -2147483648 ≤ z1.toInt + x.toInt := by omega
  have o4 : z1.toInt + x.toInt ≤ 2147483647 := by omega
  have tz2 : z2.toInt = z1.toInt + x.toInt := ti_add ez2 rfl rfl o3 o4
  rw [hQ]
  exact W.iret (v := z2) hx hb hr (fun t ht hW => ⟨⟨z2, σ, rfl, ⟨rfl, (by omega)⟩, wEn_of hP (hK.sub [] rfl) hD ht hW⟩, hS.F ht⟩) hS.2.2 dX12_at0_9
def ow_n_sheet : List Cond := [.fieldLink RX12 76 "NearEnoughModel" "numbers" "[I", .fieldLink RX12 249 "NearEnoughModel" "sheets" "I", .fieldLink RX12 33 "NearEnoughModel" "rLeast" "[I", .fieldLink RX12 240 "NearEnoughModel" "bank" "I", .fieldLink RX12 20 "NearEnoughModel" "rowMany" "[I", .fieldLink RX12 97 "NearEnoughModel" "isKeptBack" "[Z"]
def vs_n_sheet : List Cond := .code yX12_sheet cX12_sheet 4 (some .int) :: (ow_n_sheet ++ (wsX120))
theorem vg_n_sheet : vs_n_sheet.all goodWord = true := by decide +kernel
theorem dd_n_sheet : yX12_sheet.cls = RX12 ∧ yX12_sheet.cls ≠ "java/lang/invoke/MethodHandle" ∧ yX12_sheet.cls ≠ "java/lang/invoke/VarHandle" ∧ (parseMethodDescriptor yX12_sheet.desc).map (fun d => d.parameters.length) = some 1 := by decide +kernel
def rm_n_sheet : Room := { frames := 0, cells := 0, slots := 0, locals := 0 }
set_option maxHeartbeats 4000000 in
set_option maxRecDepth 100000 in
theorem n_sheet (l : Launch) (dC : Nat → ClassId) (dI : Nat → Nat → Nat) (h : Nat) (ad : Nat → Nat) (cl : Nat → ClassId) (sz : Nat) (σ : MS) (x : Int32) (hI : Inv σ) : Met l yX12_sheet vs_n_sheet rm_n_sheet (va_Pc [.ref h, .int x] (wSt dC dI (mW h ad cl σ) (mT cl) sz)) (va_Qi (fun (r : Int32) (τ : MS) => Inv τ ∧ eqx [38, 31, 39] τ σ) (fun (τ : MS) => wEn dC dI (va_A (mW h ad cl σ) sz) (mW h ad cl τ) []) (va_A (mW h ad cl σ) sz)) 0 0 (va_A (mW h ad cl σ) sz) := by
  refine Met.ofW (cc := cX12_sheet) (maxL := 4) (ret := (some .int)) (by decide) rfl ?_
  intro p e s m args below meth c s₁ B hml hv
  obtain ⟨rfl, hsz, hP, hK, hD0, hE⟩ := hv
  have hx := B.exec
  have hb := B.bytes
  have hr := B.returns
  have hts := atoms_spec (ws := vs_n_sheet) B.pre
  have hown : s.vm.findClass RX12 = some m.cls := findClass_of_methodNamed B.named
  have hlocks := B.notSynchronized
  subst hsz
  have hD := hD0.self (sz := s.heap.size)
  generalize hAe : va_A (mW h ad cl σ) s.heap.size = A at hD ⊢
  have hA : ∀ q : Nat, s.heap.size ≤ q → A q := fun q h => by rw [← hAe]; exact Or.inr h
  have hl := lv_entry ([.ref h, .int x]) (n := 4) (Nat.le_of_ble_eq_true rfl)
  rw [lg_entry_eq]
  generalize (lg_sl ([.ref h, .int x]) ++ List.replicate (4 - (lg_sl ([.ref h, .int x])).length) Slot.unset).toArray = ls at hl ⊢
  have hl : lv_has ls 4 [(0, .ref h), (1, .int x)] := hl
  have ho := fun w (h : w ∈ ow_n_sheet) => hts w (List.mem_cons_of_mem _ (List.mem_append_left _ h))
  have hin12 : ∀ w ∈ u_ws RX12 TX12 59, w ∈ vs_n_sheet := fun w h => (List.mem_cons_of_mem _ (List.mem_append_right _ h))
  refine zQ (fun Q hQ => ?_)
  have pt_23 : ∀ (n23 : Nat) (τ : MS) (rv : Int32) (H : Heap) (locs : List Loc) (ls : Array Slot), (2 - rv.toInt).toNat < n23 → (Inv τ) → (eqx [38, 31, 39] τ σ) → (0 ≤ rv.toInt) → ((τ.1 39).toInt ≤ 39) → va_P (dC, dI) vwCl (mW h ad cl τ) H → va_D A (mW h ad cl τ) → va_S A s.heap H locs → lv_has ls 4 [(0, .ref h), (1, .int x), (2, .int rv)] → W p l e (headSpec vs_n_sheet rm_n_sheet).room s m #[Value.ref h, Value.int x] below meth c H locs 0 0 Q (F0 m 23 ls []) := by
    intro n23
    induction n23 with
    | zero => intro τ rv H locs ls hn23 hIτ hxτ hr0 hsτ hP hD hS hl; exact absurd hn23 (Nat.not_lt_zero _)
    | succ n23 ih23 =>
      intro τ rv H locs ls hn23 hIτ hxτ hr0 hsτ hP hD hS hl
      have bτ_29 : 0 ≤ (τ.1 29).toInt ∧ (τ.1 29).toInt ≤ 1 := hIτ.1 29
      have qq1 : (τ.1 29).toInt = ((σ.1 29) : Int32).toInt := congrArg Int32.toInt (((hxτ 29 rg_69).1))
      have bτ_39 : 0 ≤ (τ.1 39).toInt ∧ (τ.1 39).toInt ≤ 40 := hIτ.1 39
      have pt_38 : ∀ (n38 : Nat) (υ : MS) (kv : Int32) (H : Heap) (locs : List Loc) (ls : Array Slot), (6 - kv.toInt).toNat < n38 → (Inv υ) → (eqx [38, 31, 39] υ σ) → (0 ≤ kv.toInt) → (rv.toInt ≤ 1) → ((υ.1 39).toInt ≤ 39) → va_P (dC, dI) vwCl (mW h ad cl υ) H → va_D A (mW h ad cl υ) → va_S A s.heap H locs → lv_has ls 4 [(0, .ref h), (1, .int x), (2, .int rv), (3, .int kv)] → W p l e (headSpec vs_n_sheet rm_n_sheet).room s m #[Value.ref h, Value.int x] below meth c H locs 0 0 Q (F0 m 38 ls []) := by
        intro n38
        induction n38 with
        | zero => intro υ kv H locs ls hn38 hIυ hxυ hk0 hrv hsυ hP hD hS hl; exact absurd hn38 (Nat.not_lt_zero _)
        | succ n38 ih38 =>
          intro υ kv H locs ls hn38 hIυ hxυ hk0 hrv hsυ hP hD hS hl
          have bυ_29 : 0 ≤ (υ.1 29).toInt ∧ (υ.1 29).toInt ≤ 1 := hIυ.1 29
          have qq2 : (υ.1 29).toInt = ((σ.1 29) : Int32).toInt := congrArg Int32.toInt (((hxυ 29 rg_69).1))
          have bυ_39 : 0 ≤ (υ.1 39).toInt ∧ (υ.1 39).toInt ≤ 40 := hIυ.1 39
          refine lv_iload_n hx hb dX12_sheet_38 rfl (lv_at hl 3 rfl) ?_
          refine lv_bipush (v := 6) hx hb dX12_sheet_39 rg_55 ?_
          refine lv_icmp_ge (tgt := 82) hx hb dX12_sheet_41 rfl (fun c3 => ?_) (fun c3 => ?_)
          · have tc3 := (show 6 ≤ kv.toInt from ti_le rg_70 rfl c3)
            obtain ⟨z4, ez4⟩ : ∃ y : Int32, y = rv + 1 := ⟨_, rfl⟩
            have o1 : -2147483648 ≤ rv.toInt + 1 := by omega
            have o2 : rv.toInt + 1 ≤ 2147483647 := by omega
            have tz4 := ti_add ez4 rfl rg_18 o1 o2
            refine lv_iinc (v := z4) (lv' := [(2, .int z4), (0, .ref h), (1, .int x), (3, .int kv)]) hx hb dX12_sheet_82 hl (k := 2) rfl (iincp ez4 rg_6) (Nat.le_of_ble_eq_true rfl) rfl (fun ls hl => ?_)
            refine lv_goto (tgt := 23) hx hb dX12_sheet_85 rfl ?_
            have o3 : (2 - z4.toInt).toNat < n23 := by omega
            have o4 : 0 ≤ z4.toInt := by omega
            have o5 : (υ.1 39).toInt ≤ 39 := by omega
            exact ih23 υ z4 _ _ _ (show (2 - z4.toInt).toNat < n23 from o3) hIυ hxυ (show 0 ≤ z4.toInt from o4) (show (υ.1 39).toInt ≤ 39 from o5) hP hD hS (lv_sub hl [1, 2, 0] rfl)
          · have tc3 := (show kv.toInt < 6 from ti_nle rg_70 rfl c3)
            refine lv_aload_n hx hb dX12_sheet_44 rfl (lv_at hl 0 rfl) ?_
            refine va_get (D := (dC, dI)) (ci := 12) (v := .ref (ad 31)) (C := RX12) (T := TX12) (N := 59) hx hb hts hin12 hown hK hP 0 rfl rfl 31 (Nat.le_of_ble_eq_true rfl) (ho (.fieldLink RX12 76 "NearEnoughModel" "numbers" "[I") (List.mem_of_getElem? (i := 0) rfl)) (fun _ h9 => h9) rfl dX12_sheet_45 ?_
            refine lv_bipush (v := 12) hx hb dX12_sheet_48 rg_57 ?_
            refine lv_aload_n hx hb dX12_sheet_50 rfl (lv_at hl 0 rfl) ?_
            refine va_get (D := (dC, dI)) (ci := 12) (v := .int (υ.1 39)) (C := RX12) (T := TX12) (N := 59) hx hb hts hin12 hown hK hP 0 rfl rfl 39 (Nat.le_of_ble_eq_true rfl) (ho (.fieldLink RX12 249 "NearEnoughModel" "sheets" "I") (List.mem_of_getElem? (i := 1) rfl)) (fun _ h9 => h9) rfl dX12_sheet_51 ?_
            have bυ_39 : 0 ≤ (υ.1 39).toInt ∧ (υ.1 39).toInt ≤ 40 := hIυ.1 39
            refine lv_imul hx hb dX12_sheet_54 ?_
            refine lv_topi (fun z5 ez5 => ?_)
            have o6 : -2147483648 ≤ 12 * (υ.1 39).toInt := by omega
            have o7 : 12 * (υ.1 39).toInt ≤ 2147483647 := by omega
            have tz5 : z5.toInt = 12 * (υ.1 39).toInt := ti_mul ez5 rg_58 rfl o6 o7
            refine lv_bipush (v := 6) hx hb dX12_sheet_55 rg_55 ?_
            refine lv_iload_n hx hb dX12_sheet_57 rfl (lv_at hl 2 rfl) ?_
            refine lv_imul hx hb dX12_sheet_58 ?_
            refine lv_topi (fun z6 ez6 => ?_)
            have o8 : -2147483648 ≤ 6 * rv.toInt := by omega
            have o9 : 6 * rv.toInt ≤ 2147483647 := by omega
            have tz6 : z6.toInt = 6 * rv.toInt := ti_mul ez6 rg_70 rfl o8 o9
            refine lv_iadd hx hb dX12_sheet_59 ?_
            refine lv_topi (fun z7 ez7 => ?_)
            have o10 : -2147483648 ≤ z5.toInt + z6.toInt := by omega
            have o11 : z5.toInt + z6.toInt ≤ 2147483647 := by omega
            have tz7 : z7.toInt = z5.toInt + z6.toInt := ti_add ez7 rfl rfl o10 o11
            refine lv_iload_n hx hb dX12_sheet_60 rfl (lv_at hl 3 rfl) ?_
            refine lv_iadd hx hb dX12_sheet_61 ?_
            refine lv_topi (fun z8 ez8 => ?_)
            have o12 : -2147483648 ≤ z7.toInt + kv.toInt := by omega
            have o13 : z7.toInt + kv.toInt ≤ 2147483647 := by omega
            have tz8 : z8.toInt = z7.toInt + kv.toInt := ti_add ez8 rfl rfl o12 o13
            refine lv_aload_n hx hb dX12_sheet_62 rfl (lv_at hl 0 rfl) ?_
            refine va_get (D := (dC, dI)) (ci := 12) (v := .ref (ad 15)) (C := RX12) (T := TX12) (N := 59) hx hb hts hin12 hown hK hP 0 rfl rfl 15 (Nat.le_of_ble_eq_true rfl) (ho (.fieldLink RX12 33 "NearEnoughModel" "rLeast" "[I") (List.mem_of_getElem? (i := 2) rfl)) (fun _ h9 => h9) rfl dX12_sheet_63 ?_
            refine lv_iconst (v := 2) hx hb dX12_sheet_66 rg_19 ?_
            refine lv_aload_n hx hb dX12_sheet_67 rfl (lv_at hl 0 rfl) ?_
            refine va_get (D := (dC, dI)) (ci := 12) (v := .int (υ.1 29)) (C := RX12) (T := TX12) (N := 59) hx hb hts hin12 hown hK hP 0 rfl rfl 29 (Nat.le_of_ble_eq_true rfl) (ho (.fieldLink RX12 240 "NearEnoughModel" "bank" "I") (List.mem_of_getElem? (i := 3) rfl)) (fun _ h9 => h9) rfl dX12_sheet_68 ?_
            refine zi (v := (σ.1 29)) ((hxυ 29 rg_69).1) ?_
            have bb9 : 0 ≤ (σ.1 29).toInt ∧ (σ.1 29).toInt ≤ 1 := by have h9 := hIυ.1 29; rw [show (υ.1 29) = (σ.1 29) from ((hxυ 29 rg_69).1)] at h9; exact h9
            refine lv_imul hx hb dX12_sheet_71 ?_
            refine lv_topi (fun z10 ez10 => ?_)
            have o14 : -2147483648 ≤ 2 * (σ.1 29).toInt := by omega
            have o15 : 2 * (σ.1 29).toInt ≤ 2147483647 := by omega
            have tz10 : z10.toInt = 2 * (σ.1 29).toInt := ti_mul ez10 rg_20 rfl o14 o15
            refine lv_iload_n hx hb dX12_sheet_72 rfl (lv_at hl 2 rfl) ?_
            refine lv_iadd hx hb dX12_sheet_73 ?_
            refine lv_topi (fun z11 ez11 => ?_)
            have o16 : -2147483648 ≤ z10.toInt + rv.toInt := by omega
            have o17 : z10.toInt + rv.toInt ≤ 2147483647 := by omega
            have tz11 : z11.toInt = z10.toInt + rv.toInt := ti_add ez11 rfl rfl o16 o17
            have o18 : 0 ≤ z11.toInt := by omega
            have o19 : z11.toInt < ((4 : Nat) : Int) := by omega
            refine va_iald hx hb hK hP 7 6 rfl rfl (ti_inx o18 o19) dX12_sheet_74 ?_
            refine lv_topi (fun z12 ez12 => ?_)
            have gz12 : z12.toInt = ((υ.2.1 15) (Int32.toNatClampNeg z11)).toInt := congrArg Int32.toInt (ez12.trans (congrFun rfl (Int32.toNatClampNeg z11)))
            have o20 : 0 ≤ z8.toInt := by omega
            have o21 : z8.toInt < ((480 : Nat) : Int) := by omega
            refine va_iast hx hb hK hP hD hS 21 20 rfl rfl (ti_inx o20 o21) dX12_sheet_75 (fun H locs hP hD hS => ?_)
            rw [wS31] at hP hD
            obtain ⟨τ13, eτ13⟩ : ∃ x9 : MS, x9 = sA υ 31 (upd (υ.2.1 31) (Int32.toNatClampNeg z8) z12) := ⟨_, rfl⟩
            have hP : va_P (dC, dI) vwCl (mW h ad cl τ13) H := by rw [eτ13]; exact hP
            have hD : va_D A (mW h ad cl τ13) := by rw [eτ13]; exact hD
            have hIτ13 : Inv τ13 := by rw [eτ13]; exact (Inv_sA1 hIυ (fun j _ => Inv.any _))
            have Xτ13 : eqx [38, 31, 39] τ13 σ := (eqx.eq eτ13 (eqx.sA hxυ rg_71))
            have qq14 : (τ13.1 29).toInt = ((σ.1 29) : Int32).toInt := congrArg Int32.toInt ((show τ13.1 29 = (σ.1 29) from (congrArg (fun x9 : MS => x9.1 29) eτ13).trans ((hxυ 29 rg_69).1)))
            have qq15 : (τ13.1 39).toInt = ((υ.1 39) : Int32).toInt := congrArg Int32.toInt ((show τ13.1 39 = (υ.1 39) from (congrArg (fun x9 : MS => x9.1 39) eτ13).trans rfl))
            obtain ⟨z16, ez16⟩ : ∃ y : Int32, y = kv + 1 := ⟨_, rfl⟩
            have o22 : -2147483648 ≤ kv.toInt + 1 := by omega
            have o23 : kv.toInt + 1 ≤ 2147483647 := by omega
            have tz16 := ti_add ez16 rfl rg_18 o22 o23
            refine lv_iinc (v := z16) (lv' := [(3, .int z16), (0, .ref h), (1, .int x), (2, .int rv)]) hx hb dX12_sheet_76 hl (k := 3) rfl (iincp ez16 rg_6) (Nat.le_of_ble_eq_true rfl) rfl (fun ls hl => ?_)
            refine lv_goto (tgt := 38) hx hb dX12_sheet_79 rfl ?_
            have o24 : (6 - z16.toInt).toNat < n38 := by omega
            have o25 : 0 ≤ z16.toInt := by omega
            have o26 : (τ13.1 39).toInt ≤ 39 := by omega
            exact ih38 τ13 z16 _ _ _ (show (6 - z16.toInt).toNat < n38 from o24) hIτ13 Xτ13 (show 0 ≤ z16.toInt from o25) (by omega) (show (τ13.1 39).toInt ≤ 39 from o26) hP hD hS (lv_sub hl [1, 2, 3, 0] rfl)
      refine lv_iload_n hx hb dX12_sheet_23 rfl (lv_at hl 2 rfl) ?_
      refine lv_aload_n hx hb dX12_sheet_24 rfl (lv_at hl 0 rfl) ?_
      refine va_get (D := (dC, dI)) (ci := 12) (v := .ref (ad 11)) (C := RX12) (T := TX12) (N := 59) hx hb hts hin12 hown hK hP 0 rfl rfl 11 (Nat.le_of_ble_eq_true rfl) (ho (.fieldLink RX12 20 "NearEnoughModel" "rowMany" "[I") (List.mem_of_getElem? (i := 4) rfl)) (fun _ h9 => h9) rfl dX12_sheet_25 ?_
      refine lv_aload_n hx hb dX12_sheet_28 rfl (lv_at hl 0 rfl) ?_
      refine va_get (D := (dC, dI)) (ci := 12) (v := .int (τ.1 29)) (C := RX12) (T := TX12) (N := 59) hx hb hts hin12 hown hK hP 0 rfl rfl 29 (Nat.le_of_ble_eq_true rfl) (ho (.fieldLink RX12 240 "NearEnoughModel" "bank" "I") (List.mem_of_getElem? (i := 3) rfl)) (fun _ h9 => h9) rfl dX12_sheet_29 ?_
      refine zi (v := (σ.1 29)) ((hxτ 29 rg_69).1) ?_
      have bb17 : 0 ≤ (σ.1 29).toInt ∧ (σ.1 29).toInt ≤ 1 := by have h9 := hIτ.1 29; rw [show (τ.1 29) = (σ.1 29) from ((hxτ 29 rg_69).1)] at h9; exact h9
      have o27 : 0 ≤ (σ.1 29).toInt := by omega
      have o28 : (σ.1 29).toInt < ((2 : Nat) : Int) := by omega
      refine va_iald hx hb hK hP 3 2 rfl rfl (ti_inx o27 o28) dX12_sheet_32 ?_
      refine lv_topi (fun z18 ez18 => ?_)
      have gz18 : z18.toInt = ((τ.2.1 11) (Int32.toNatClampNeg (σ.1 29))).toInt := congrArg Int32.toInt (ez18.trans (congrFun rfl (Int32.toNatClampNeg (σ.1 29))))
      have bz18 : 0 ≤ z18.toInt ∧ z18.toInt ≤ 2 := by rw [ez18]; exact (hIτ.2 11) _ (cl_lt (n := 2) o27 o28)
      refine lv_icmp_ge (tgt := 88) hx hb dX12_sheet_33 rfl (fun c19 => ?_) (fun c19 => ?_)
      · have tc19 := (show z18.toInt ≤ rv.toInt from ti_le rfl rfl c19)
        refine lv_aload_n hx hb dX12_sheet_88 rfl (lv_at hl 0 rfl) ?_
        refine lv_dup hx hb dX12_sheet_89 rfl ?_
        refine va_get (D := (dC, dI)) (ci := 12) (v := .int (τ.1 39)) (C := RX12) (T := TX12) (N := 59) hx hb hts hin12 hown hK hP 0 rfl rfl 39 (Nat.le_of_ble_eq_true rfl) (ho (.fieldLink RX12 249 "NearEnoughModel" "sheets" "I") (List.mem_of_getElem? (i := 1) rfl)) (fun _ h9 => h9) rfl dX12_sheet_90 ?_
        have bτ_39 : 0 ≤ (τ.1 39).toInt ∧ (τ.1 39).toInt ≤ 40 := hIτ.1 39
        refine lv_iconst (v := 1) hx hb dX12_sheet_93 rg_6 ?_
        refine lv_iadd hx hb dX12_sheet_94 ?_
        refine lv_topi (fun z20 ez20 => ?_)
        have o29 : -2147483648 ≤ (τ.1 39).toInt + 1 := by omega
        have o30 : (τ.1 39).toInt + 1 ≤ 2147483647 := by omega
        have tz20 : z20.toInt = (τ.1 39).toInt + 1 := ti_add ez20 rfl rg_18 o29 o30
        refine va_put (D := (dC, dI)) (ci := 12) (v := .int z20) (ty := tyX12 39) (C := RX12) (T := TX12) (N := 59) hx hb hts hin12 tyX12 tyX12_ok nmX12 hown hK hP hD hS 0 rfl rfl 39 (Nat.le_of_ble_eq_true rfl) (ho (.fieldLink RX12 249 "NearEnoughModel" "sheets" "I") (List.mem_of_getElem? (i := 1) rfl)) (fun _ h9 => h9) rfl (tyX12_ok 39 (Nat.le_of_ble_eq_true rfl)) rfl rfl (Nat.le_of_ble_eq_true rfl) dX12_sheet_95 (fun H locs hP hD hS => ?_)
        have hP : va_P (dC, dI) vwCl (mW h ad cl (sI τ 39 z20)) H := hP
        have hD : va_D A (mW h ad cl (sI τ 39 z20)) := hD
        refine lv_aload_n hx hb dX12_sheet_98 rfl (lv_at hl 0 rfl) ?_
        refine va_get (D := (dC, dI)) (ci := 12) (v := .int z20) (C := RX12) (T := TX12) (N := 59) hx hb hts hin12 hown hK hP 0 rfl rfl 39 (Nat.le_of_ble_eq_true rfl) (ho (.fieldLink RX12 249 "NearEnoughModel" "sheets" "I") (List.mem_of_getElem? (i := 1) rfl)) (fun _ h9 => h9) rfl dX12_sheet_99 ?_
        refine lv_iconst (v := 1) hx hb dX12_sheet_102 rg_6 ?_
        refine lv_isub hx hb dX12_sheet_103 ?_
        refine lv_topi (fun z21 ez21 => ?_)
        have o31 : -2147483648 ≤ z20.toInt - 1 := by omega
        have o32 : z20.toInt - 1 ≤ 2147483647 := by omega
        have tz21 : z21.toInt = z20.toInt - 1 := ti_sub ez21 rfl rg_18 o31 o32
        rw [hQ]
        have o33 : (0 : Int) ≤ z20.toInt := by omega
        have o34 : z20.toInt ≤ 40 := by omega
        exact W.iret (v := z21) hx hb hr (fun t ht hW => ⟨⟨z21, (sI τ 39 z20), rfl, ⟨(Inv.sI hIτ (show (0 : Int) ≤ z20.toInt ∧ z20.toInt ≤ 40 from ⟨o33, o34⟩)), (eqx.sI hxτ rg_72)⟩, wEn_of hP (hK.sub [] rfl) hD ht hW⟩, hS.F ht⟩) hS.2.2 dX12_sheet_104
      · have tc19 := (show rv.toInt < z18.toInt from ti_nle rfl rfl c19)
        refine lv_iconst (v := 0) hx hb dX12_sheet_36 rg_0 ?_
        refine lv_istore_n (lv' := [(3, .int 0), (0, .ref h), (1, .int x), (2, .int rv)]) hx hb dX12_sheet_37 rfl hl (Nat.le_of_ble_eq_true rfl) rfl (fun ls hl => ?_)
        have o35 : (τ.1 39).toInt ≤ 39 := by omega
        exact pt_38 _ τ 0 _ _ _ (Nat.lt_succ_self _) hIτ hxτ rg_56 (by omega) (show (τ.1 39).toInt ≤ 39 from o35) hP hD hS (lv_sub hl [1, 2, 3, 0] rfl)
  refine zH (A := A) (ws := mW h ad cl σ) (fun H hP hS => ?_) hP
  have bσ_29 : 0 ≤ (σ.1 29).toInt ∧ (σ.1 29).toInt ≤ 1 := hI.1 29
  have bσ_39 : 0 ≤ (σ.1 39).toInt ∧ (σ.1 39).toInt ≤ 40 := hI.1 39
  refine lv_aload_n hx hb dX12_sheet_0 rfl (lv_at hl 0 rfl) ?_
  refine va_get (D := (dC, dI)) (ci := 12) (v := .int (σ.1 39)) (C := RX12) (T := TX12) (N := 59) hx hb hts hin12 hown hK hP 0 rfl rfl 39 (Nat.le_of_ble_eq_true rfl) (ho (.fieldLink RX12 249 "NearEnoughModel" "sheets" "I") (List.mem_of_getElem? (i := 1) rfl)) (fun _ h9 => h9) rfl dX12_sheet_1 ?_
  have bσ_39 : 0 ≤ (σ.1 39).toInt ∧ (σ.1 39).toInt ≤ 40 := hI.1 39
  refine lv_bipush (v := 40) hx hb dX12_sheet_4 rg_73 ?_
  refine lv_icmp_ne (tgt := 11) hx hb dX12_sheet_6 rfl (fun c22 => ?_) (fun c22 => ?_)
  · have tc22 := (show (σ.1 39).toInt ≠ 40 from ti_ne rfl rg_74 c22)
    refine lv_aload_n hx hb dX12_sheet_11 rfl (lv_at hl 0 rfl) ?_
    refine va_get (D := (dC, dI)) (ci := 12) (v := .ref (ad 38)) (C := RX12) (T := TX12) (N := 59) hx hb hts hin12 hown hK hP 0 rfl rfl 38 (Nat.le_of_ble_eq_true rfl) (ho (.fieldLink RX12 97 "NearEnoughModel" "isKeptBack" "[Z") (List.mem_of_getElem? (i := 5) rfl)) (fun _ h9 => h9) rfl dX12_sheet_12 ?_
    refine lv_aload_n hx hb dX12_sheet_15 rfl (lv_at hl 0 rfl) ?_
    refine va_get (D := (dC, dI)) (ci := 12) (v := .int (σ.1 39)) (C := RX12) (T := TX12) (N := 59) hx hb hts hin12 hown hK hP 0 rfl rfl 39 (Nat.le_of_ble_eq_true rfl) (ho (.fieldLink RX12 249 "NearEnoughModel" "sheets" "I") (List.mem_of_getElem? (i := 1) rfl)) (fun _ h9 => h9) rfl dX12_sheet_16 ?_
    have bσ_39 : 0 ≤ (σ.1 39).toInt ∧ (σ.1 39).toInt ≤ 40 := hI.1 39
    refine lv_iload_n hx hb dX12_sheet_19 rfl (lv_at hl 1 rfl) ?_
    have o36 : 0 ≤ (σ.1 39).toInt := by omega
    have o37 : (σ.1 39).toInt < ((40 : Nat) : Int) := by omega
    refine va_zast hx hb hK hP hD hS 28 27 rfl rfl (ti_inx o36 o37) dX12_sheet_20 (fun H locs hP hD hS => ?_)
    rw [wS38] at hP hD
    obtain ⟨τ23, eτ23⟩ : ∃ x9 : MS, x9 = sA σ 38 (upd (σ.2.1 38) (Int32.toNatClampNeg (σ.1 39)) (vp_nar .boolean x)) := ⟨_, rfl⟩
    have hP : va_P (dC, dI) vwCl (mW h ad cl τ23) H := by rw [eτ23]; exact hP
    have hD : va_D A (mW h ad cl τ23) := by rw [eτ23]; exact hD
    have hIτ23 : Inv τ23 := by rw [eτ23]; exact (Inv_sA1 hI (fun j _ => Inv.any _))
    have Xτ23 : eqx [38, 31, 39] τ23 σ := (eqx.eq eτ23 (eqx.sA eqx.rf rg_75))
    have qq24 : (τ23.1 29).toInt = ((σ.1 29) : Int32).toInt := congrArg Int32.toInt ((show τ23.1 29 = (σ.1 29) from (congrArg (fun x9 : MS => x9.1 29) eτ23).trans rfl))
    have qq25 : (τ23.1 39).toInt = ((σ.1 39) : Int32).toInt := congrArg Int32.toInt ((show τ23.1 39 = (σ.1 39) from (congrArg (fun x9 : MS => x9.1 39) eτ23).trans rfl))
    refine lv_iconst (v := 0) hx hb dX12_sheet_21 rg_0 ?_
    refine lv_istore_n (lv' := [(2, .int 0), (0, .ref h), (1, .int x)]) hx hb dX12_sheet_22 rfl hl (Nat.le_of_ble_eq_true rfl) rfl (fun ls hl => ?_)
    have o38 : (τ23.1 39).toInt ≤ 39 := by omega
    exact pt_23 _ τ23 0 _ _ _ (Nat.lt_succ_self _) hIτ23 Xτ23 rg_56 (show (τ23.1 39).toInt ≤ 39 from o38) hP hD hS (lv_sub hl [1, 2, 0] rfl)
  · have tc22 := (show (σ.1 39).toInt = 40 from ti_eq rfl rg_74 c22)
    refine lv_iconst (v := (-1)) hx hb dX12_sheet_9 rg_53 ?_
    rw [hQ]
    exact W.iret (v := (-1)) hx hb hr (fun t ht hW => ⟨⟨(-1), σ, rfl, ⟨hI, eqx.rf⟩, wEn_of hP (hK.sub [] rfl) hD ht hW⟩, hS.F ht⟩) hS.2.2 dX12_sheet_10
