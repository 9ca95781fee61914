

def ow_n_savedByV : List Cond := [.fieldLink RX12 252 "NearEnoughModel" "changes" "I", .fieldLink RX12 91 "NearEnoughModel" "cSaves" "[I"]
def vs_n_savedByV : List Cond := .code yX12_savedBy cX12_savedBy 4 (some .int) :: (ow_n_savedByV ++ (wsX120))
theorem vg_n_savedByV : vs_n_savedByV.all goodWord = true := by decide +kernel
theorem dd_n_savedByV : yX12_savedBy.cls = RX12 ∧ yX12_savedBy.cls ≠ "java/lang/invoke/MethodHandle" ∧ yX12_savedBy.cls ≠ "java/lang/invoke/VarHandle" ∧ (parseMethodDescriptor yX12_savedBy.desc).map (fun d => d.parameters.length) = some 1 := by decide +kernel
def rm_n_savedByV : Room := { frames := 0, cells := 0, slots := 0, locals := 0 }
set_option maxHeartbeats 4000000 in
set_option maxRecDepth 100000 in
theorem n_savedByV (l : Launch) (dC : Nat → ClassId) (dI : Nat → Nat → Nat) (h : Nat) (ad : Nat → Nat) (cl : Nat → ClassId) (sz : Nat) (σ : MS) (x : Int32) (hI : Inv σ) : Met l yX12_savedBy vs_n_savedByV rm_n_savedByV (va_Pc [.ref h, .int x] (wSt dC dI (mW h ad cl σ) (mT cl) sz)) (va_Qi (fun (r : Int32) (τ : MS) => σ = τ ∧ (x = 0 → r = 0)) (fun (τ : MS) => wEn dC dI (va_A (mW h ad cl σ) sz) (mW h ad cl τ) []) (va_A (mW h ad cl σ) sz)) 0 0 (va_A (mW h ad cl σ) sz) := by
  refine Met.ofW (cc := cX12_savedBy) (maxL := 4) (ret := (some .int)) (by decide) rfl ?_
  intro p e s m args below meth c s₁ B hml hv
  obtain ⟨rfl, hsz, hP, hK, hD0, hE⟩ := hv
  have hx := B.exec
  have hb := B.bytes
  have hr := B.returns
  have hts := atoms_spec (ws := vs_n_savedByV) B.pre
  have hown : s.vm.findClass RX12 = some m.cls := findClass_of_methodNamed B.named
  have hlocks := B.notSynchronized
  subst hsz
  have hD := hD0.self (sz := s.heap.size)
  generalize hAe : va_A (mW h ad cl σ) s.heap.size = A at hD ⊢
  have hA : ∀ q : Nat, s.heap.size ≤ q → A q := fun q h => by rw [← hAe]; exact Or.inr h
  have hl := lv_entry ([.ref h, .int x]) (n := 4) (Nat.le_of_ble_eq_true rfl)
  rw [lg_entry_eq]
  generalize (lg_sl ([.ref h, .int x]) ++ List.replicate (4 - (lg_sl ([.ref h, .int x])).length) Slot.unset).toArray = ls at hl ⊢
  have hl : lv_has ls 4 [(0, .ref h), (1, .int x)] := hl
  have ho := fun w (h : w ∈ ow_n_savedByV) => hts w (List.mem_cons_of_mem _ (List.mem_append_left _ h))
  have hin12 : ∀ w ∈ u_ws RX12 TX12 59, w ∈ vs_n_savedByV := fun w h => (List.mem_cons_of_mem _ (List.mem_append_right _ h))
  refine zQ (fun Q hQ => ?_)
  have pt_4 : ∀ (n4 : Nat) (sv : Int32) (kv : Int32) (H : Heap) (locs : List Loc) (ls : Array Slot), (12 - kv.toInt).toNat < n4 → (0 ≤ kv.toInt) → (x = 0 → sv = 0) → va_P (dC, dI) vwCl (mW h ad cl σ) H → va_D A (mW h ad cl σ) → va_S A s.heap H locs → lv_has ls 4 [(0, .ref h), (1, .int x), (2, .int sv), (3, .int kv)] → W p l e (headSpec vs_n_savedByV rm_n_savedByV).room s m #[Value.ref h, Value.int x] below meth c H locs 0 0 Q (F0 m 4 ls []) := by
    intro n4
    induction n4 with
    | zero => intro sv kv H locs ls hn4 hk0 hz hP hD hS hl; exact absurd hn4 (Nat.not_lt_zero _)
    | succ n4 ih4 =>
      intro sv kv H locs ls hn4 hk0 hz hP hD hS hl
      have bσ_40 : 0 ≤ (σ.1 40).toInt ∧ (σ.1 40).toInt ≤ 12 := hI.1 40
      refine lv_iload_n hx hb dX12_savedBy_4 rfl (lv_at hl 3 rfl) ?_
      refine lv_aload_n hx hb dX12_savedBy_5 rfl (lv_at hl 0 rfl) ?_
      refine va_get (D := (dC, dI)) (ci := 12) (v := .int (σ.1 40)) (C := RX12) (T := TX12) (N := 59) hx hb hts hin12 hown hK hP 0 rfl rfl 40 (Nat.le_of_ble_eq_true rfl) (ho (.fieldLink RX12 252 "NearEnoughModel" "changes" "I") (List.mem_of_getElem? (i := 0) rfl)) (fun _ h9 => h9) rfl dX12_savedBy_6 ?_
      have bσ_40 : 0 ≤ (σ.1 40).toInt ∧ (σ.1 40).toInt ≤ 12 := hI.1 40
      refine lv_icmp_ge (tgt := 40) hx hb dX12_savedBy_9 rfl (fun c1_ => ?_) (fun c1_ => ?_)
      · have tc1_ := (show (σ.1 40).toInt ≤ kv.toInt from ti_le rfl rfl c1_)
        refine lv_iload_n hx hb dX12_savedBy_40 rfl (lv_at hl 2 rfl) ?_
        rw [hQ]
        exact W.iret (v := sv) hx hb hr (fun t ht hW => ⟨⟨sv, σ, rfl, ⟨rfl, hz⟩, wEn_of hP (hK.sub [] rfl) hD ht hW⟩, hS.F ht⟩) hS.2.2 dX12_savedBy_41
      · have tc1_ := (show kv.toInt < (σ.1 40).toInt from ti_nle rfl rfl c1_)
        refine lv_iload_n hx hb dX12_savedBy_12 rfl (lv_at hl 2 rfl) ?_
        refine lv_iload_n hx hb dX12_savedBy_13 rfl (lv_at hl 1 rfl) ?_
        refine lv_iload_n hx hb dX12_savedBy_14 rfl (lv_at hl 3 rfl) ?_
        refine lv_ishr hx hb dX12_savedBy_15 ?_
        refine lv_topi (fun z2_ ez2_ => ?_)
        refine lv_iconst (v := 1) hx hb dX12_savedBy_16 rg_6 ?_
        refine lv_iand hx hb dX12_savedBy_17 ?_
        refine lv_topi (fun z3_ ez3_ => ?_)
        refine lv_iconst (v := 1) hx hb dX12_savedBy_18 rg_6 ?_
        refine lv_icmp_ne (tgt := 31) hx hb dX12_savedBy_19 rfl (fun c4_ => ?_) (fun c4_ => ?_)
        · have tc4_ := (show z3_.toInt ≠ 1 from ti_ne rfl rg_18 c4_)
          refine lv_iconst (v := 0) hx hb dX12_savedBy_31 rg_0 ?_
          refine lv_iadd hx hb dX12_savedBy_32 ?_
          refine lv_topi (fun z5_ ez5_ => ?_)
          have SZ6_ : x = 0 → z5_ = 0 := fun h9 => by rw [ez5_, hz h9]; decide
          refine lv_istore_n (lv' := [(2, .int z5_), (0, .ref h), (1, .int x), (3, .int kv)]) hx hb dX12_savedBy_33 rfl hl (Nat.le_of_ble_eq_true rfl) rfl (fun ls hl => ?_)
          obtain ⟨z7_, ez7_⟩ : ∃ y : Int32, y = kv + 1 := ⟨_, rfl⟩
          have o1 : -2147483648 ≤ kv.toInt + 1 := by omega
          have o2 : kv.toInt + 1 ≤ 2147483647 := by omega
          have tz7_ := ti_add ez7_ rfl rg_18 o1 o2
          refine lv_iinc (v := z7_) (lv' := [(3, .int z7_), (2, .int z5_), (0, .ref h), (1, .int x)]) hx hb dX12_savedBy_34 hl (k := 3) rfl (iincp ez7_ rg_6) (Nat.le_of_ble_eq_true rfl) rfl (fun ls hl => ?_)
          refine lv_goto (tgt := 4) hx hb dX12_savedBy_37 rfl ?_
          have o3 : (12 - z7_.toInt).toNat < n4 := by omega
          have o4 : 0 ≤ z7_.toInt := by omega
          exact ih4  z5_ z7_ _ _ _ (show (12 - z7_.toInt).toNat < n4 from o3) (show 0 ≤ z7_.toInt from o4) SZ6_ hP hD hS (lv_sub hl [2, 3, 1, 0] rfl)
        · have tc4_ := (show z3_.toInt = 1 from ti_eq rfl rg_18 c4_)
          refine lv_aload_n hx hb dX12_savedBy_22 rfl (lv_at hl 0 rfl) ?_
          refine va_get (D := (dC, dI)) (ci := 12) (v := .ref (ad 36)) (C := RX12) (T := TX12) (N := 59) hx hb hts hin12 hown hK hP 0 rfl rfl 36 (Nat.le_of_ble_eq_true rfl) (ho (.fieldLink RX12 91 "NearEnoughModel" "cSaves" "[I") (List.mem_of_getElem? (i := 1) rfl)) (fun _ h9 => h9) rfl dX12_savedBy_23 ?_
          refine lv_iload_n hx hb dX12_savedBy_26 rfl (lv_at hl 3 rfl) ?_
          have o5 : 0 ≤ kv.toInt := by omega
          have o6 : kv.toInt < ((12 : Nat) : Int) := by omega
          refine va_iald hx hb hK hP 26 25 rfl rfl (ti_inx o5 o6) dX12_savedBy_27 ?_
          refine lv_topi (fun z8_ ez8_ => ?_)
          have gz8_ : z8_.toInt = ((σ.2.1 36) (Int32.toNatClampNeg kv)).toInt := congrArg Int32.toInt (ez8_.trans (congrFun rfl (Int32.toNatClampNeg kv)))
          refine lv_goto (tgt := 32) hx hb dX12_savedBy_28 rfl ?_
          refine lv_iadd hx hb dX12_savedBy_32 ?_
          refine lv_topi (fun z9_ ez9_ => ?_)
          have SZ10_ : x = 0 → z9_ = 0 := fun h9 => absurd (show z3_ = 1 from c4_) (by rw [ez3_, ez2_, h9]; exact bt0n kv)
          refine lv_istore_n (lv' := [(2, .int z9_), (0, .ref h), (1, .int x), (3, .int kv)]) hx hb dX12_savedBy_33 rfl hl (Nat.le_of_ble_eq_true rfl) rfl (fun ls hl => ?_)
          obtain ⟨z11_, ez11_⟩ : ∃ y : Int32, y = kv + 1 := ⟨_, rfl⟩
          have o7 : -2147483648 ≤ kv.toInt + 1 := by omega
          have o8 : kv.toInt + 1 ≤ 2147483647 := by omega
          have tz11_ := ti_add ez11_ rfl rg_18 o7 o8
          refine lv_iinc (v := z11_) (lv' := [(3, .int z11_), (2, .int z9_), (0, .ref h), (1, .int x)]) hx hb dX12_savedBy_34 hl (k := 3) rfl (iincp ez11_ rg_6) (Nat.le_of_ble_eq_true rfl) rfl (fun ls hl => ?_)
          refine lv_goto (tgt := 4) hx hb dX12_savedBy_37 rfl ?_
          have o9 : (12 - z11_.toInt).toNat < n4 := by omega
          have o10 : 0 ≤ z11_.toInt := by omega
          exact ih4  z9_ z11_ _ _ _ (show (12 - z11_.toInt).toNat < n4 from o9) (show 0 ≤ z11_.toInt from o10) SZ10_ hP hD hS (lv_sub hl [2, 3, 1, 0] rfl)
  refine zH (A := A) (ws := mW h ad cl σ) (fun H hP hS => ?_) hP
  have bσ_40 : 0 ≤ (σ.1 40).toInt ∧ (σ.1 40).toInt ≤ 12 := hI.1 40
  refine lv_iconst (v := 0) hx hb dX12_savedBy_0 rg_0 ?_
  refine lv_istore_n (lv' := [(2, .int 0), (0, .ref h), (1, .int x)]) hx hb dX12_savedBy_1 rfl hl (Nat.le_of_ble_eq_true rfl) rfl (fun ls hl => ?_)
  refine lv_iconst (v := 0) hx hb dX12_savedBy_2 rg_0 ?_
  refine lv_istore_n (lv' := [(3, .int 0), (2, .int 0), (0, .ref h), (1, .int x)]) hx hb dX12_savedBy_3 rfl hl (Nat.le_of_ble_eq_true rfl) rfl (fun ls hl => ?_)
  exact pt_4 _  0 0 _ _ _ (Nat.lt_succ_self _) rg_56 (fun _ => rfl) hP hD hS (lv_sub hl [2, 3, 1, 0] rfl)
