theorem dX7_has_0 : decode cX7_has 0 = .ok (.iload_n 1, 1) := by decide +kernel
theorem dX7_has_1 : decode cX7_has 1 = .ok (.ifCond .lt 15, 3) := by decide +kernel
theorem dX7_has_16 : decode cX7_has 16 = .ok (.iconst 0, 1) := by decide +kernel
theorem dX7_has_17 : decode cX7_has 17 = .ok (.ireturn, 1) := by decide +kernel
theorem dX7_has_4 : decode cX7_has 4 = .ok (.iload_n 1, 1) := by decide +kernel
theorem dX7_has_5 : decode cX7_has 5 = .ok (.aload_n 0, 1) := by decide +kernel
theorem dX7_has_6 : decode cX7_has 6 = .ok (.getfield 19, 3) := by decide +kernel
theorem dX7_has_9 : decode cX7_has 9 = .ok (.if_icmp .ge 7, 3) := by decide +kernel
theorem dX7_has_12 : decode cX7_has 12 = .ok (.iconst 1, 1) := by decide +kernel
theorem dX7_has_13 : decode cX7_has 13 = .ok (.goto 4, 3) := by decide +kernel
theorem dX7_lay_0 : decode cX7_lay 0 = .ok (.iconst 0, 1) := by decide +kernel
theorem dX7_lay_1 : decode cX7_lay 1 = .ok (.istore 4, 2) := by decide +kernel
theorem dX7_lay_3 : decode cX7_lay 3 = .ok (.iload 4, 2) := by decide +kernel
theorem dX7_lay_5 : decode cX7_lay 5 = .ok (.aload_n 3, 1) := by decide +kernel
theorem dX7_lay_6 : decode cX7_lay 6 = .ok (.getfield 23, 3) := by decide +kernel
theorem dX7_lay_9 : decode cX7_lay 9 = .ok (.if_icmp .ge 81, 3) := by decide +kernel
theorem dX7_lay_90 : decode cX7_lay 90 = .ok (.return_, 1) := by decide +kernel
theorem dX7_lay_12 : decode cX7_lay 12 = .ok (.aload_n 3, 1) := by decide +kernel
theorem dX7_lay_13 : decode cX7_lay 13 = .ok (.getfield 28, 3) := by decide +kernel
theorem dX7_lay_16 : decode cX7_lay 16 = .ok (.iload 4, 2) := by decide +kernel
theorem dX7_lay_18 : decode cX7_lay 18 = .ok (.aaload, 1) := by decide +kernel
theorem dX7_lay_19 : decode cX7_lay 19 = .ok (.astore 5, 2) := by decide +kernel
theorem dX7_lay_21 : decode cX7_lay 21 = .ok (.aload 5, 2) := by decide +kernel
theorem dX7_lay_23 : decode cX7_lay 23 = .ok (.getfield 32, 3) := by decide +kernel
theorem dX7_lay_26 : decode cX7_lay 26 = .ok (.istore 6, 2) := by decide +kernel
theorem dX7_lay_28 : decode cX7_lay 28 = .ok (.iload 6, 2) := by decide +kernel
theorem dX7_lay_30 : decode cX7_lay 30 = .ok (.aload 5, 2) := by decide +kernel
theorem dX7_lay_32 : decode cX7_lay 32 = .ok (.getfield 32, 3) := by decide +kernel
theorem dX7_lay_35 : decode cX7_lay 35 = .ok (.aload 5, 2) := by decide +kernel
theorem dX7_lay_37 : decode cX7_lay 37 = .ok (.getfield 37, 3) := by decide +kernel
theorem dX7_lay_40 : decode cX7_lay 40 = .ok (.iadd, 1) := by decide +kernel
theorem dX7_lay_41 : decode cX7_lay 41 = .ok (.if_icmp .ge 43, 3) := by decide +kernel
theorem dX7_lay_84 : decode cX7_lay 84 = .ok (.iinc 4 1, 3) := by decide +kernel
theorem dX7_lay_87 : decode cX7_lay 87 = .ok (.goto (-84), 3) := by decide +kernel
theorem dX7_lay_44 : decode cX7_lay 44 = .ok (.aload_n 0, 1) := by decide +kernel
theorem dX7_lay_45 : decode cX7_lay 45 = .ok (.getfield 9, 3) := by decide +kernel
theorem dX7_lay_48 : decode cX7_lay 48 = .ok (.iload_n 1, 1) := by decide +kernel
theorem dX7_lay_49 : decode cX7_lay 49 = .ok (.bipush 12, 2) := by decide +kernel
theorem dX7_lay_51 : decode cX7_lay 51 = .ok (.imul, 1) := by decide +kernel
theorem dX7_lay_52 : decode cX7_lay 52 = .ok (.iload 6, 2) := by decide +kernel
theorem dX7_lay_54 : decode cX7_lay 54 = .ok (.iadd, 1) := by decide +kernel
theorem dX7_lay_77 : decode cX7_lay 77 = .ok (.iastore, 1) := by decide +kernel
theorem dX7_lay_78 : decode cX7_lay 78 = .ok (.iinc 6 1, 3) := by decide +kernel
theorem dX7_lay_81 : decode cX7_lay 81 = .ok (.goto (-53), 3) := by decide +kernel
theorem dX7_lay_55 : decode cX7_lay 55 = .ok (.iload_n 2, 1) := by decide +kernel
theorem dX7_lay_56 : decode cX7_lay 56 = .ok (.iload 6, 2) := by decide +kernel
theorem dX7_lay_58 : decode cX7_lay 58 = .ok (.ishr, 1) := by decide +kernel
theorem dX7_lay_59 : decode cX7_lay 59 = .ok (.iconst 1, 1) := by decide +kernel
theorem dX7_lay_60 : decode cX7_lay 60 = .ok (.iand, 1) := by decide +kernel
theorem dX7_lay_61 : decode cX7_lay 61 = .ok (.ifCond .ne 11, 3) := by decide +kernel
theorem dX7_lay_72 : decode cX7_lay 72 = .ok (.aload 5, 2) := by decide +kernel
theorem dX7_lay_74 : decode cX7_lay 74 = .ok (.getfield 41, 3) := by decide +kernel
theorem dX7_lay_64 : decode cX7_lay 64 = .ok (.aload 5, 2) := by decide +kernel
theorem dX7_lay_66 : decode cX7_lay 66 = .ok (.getfield 38, 3) := by decide +kernel
theorem dX7_lay_69 : decode cX7_lay 69 = .ok (.goto 8, 3) := by decide +kernel
theorem dX3_hasStep_0 : decode cX3_hasStep 0 = .ok (.iload_n 1, 1) := by decide +kernel
theorem dX3_hasStep_1 : decode cX3_hasStep 1 = .ok (.ifCond .lt 15, 3) := by decide +kernel
theorem dX3_hasStep_16 : decode cX3_hasStep 16 = .ok (.iconst 0, 1) := by decide +kernel
theorem dX3_hasStep_17 : decode cX3_hasStep 17 = .ok (.ireturn, 1) := by decide +kernel
theorem dX3_hasStep_4 : decode cX3_hasStep 4 = .ok (.iload_n 1, 1) := by decide +kernel
theorem dX3_hasStep_5 : decode cX3_hasStep 5 = .ok (.aload_n 0, 1) := by decide +kernel
theorem dX3_hasStep_6 : decode cX3_hasStep 6 = .ok (.getfield 37, 3) := by decide +kernel
theorem dX3_hasStep_9 : decode cX3_hasStep 9 = .ok (.if_icmp .ge 7, 3) := by decide +kernel
theorem dX3_hasStep_12 : decode cX3_hasStep 12 = .ok (.iconst 1, 1) := by decide +kernel
theorem dX3_hasStep_13 : decode cX3_hasStep 13 = .ok (.goto 4, 3) := by decide +kernel
theorem dX3_hasEnd_0 : decode cX3_hasEnd 0 = .ok (.iload_n 1, 1) := by decide +kernel
theorem dX3_hasEnd_1 : decode cX3_hasEnd 1 = .ok (.ifCond .lt 15, 3) := by decide +kernel
theorem dX3_hasEnd_16 : decode cX3_hasEnd 16 = .ok (.iconst 0, 1) := by decide +kernel
theorem dX3_hasEnd_17 : decode cX3_hasEnd 17 = .ok (.ireturn, 1) := by decide +kernel
theorem dX3_hasEnd_4 : decode cX3_hasEnd 4 = .ok (.iload_n 1, 1) := by decide +kernel
theorem dX3_hasEnd_5 : decode cX3_hasEnd 5 = .ok (.aload_n 0, 1) := by decide +kernel
theorem dX3_hasEnd_6 : decode cX3_hasEnd 6 = .ok (.getfield 40, 3) := by decide +kernel
theorem dX3_hasEnd_9 : decode cX3_hasEnd 9 = .ok (.if_icmp .ge 7, 3) := by decide +kernel
theorem dX3_hasEnd_12 : decode cX3_hasEnd 12 = .ok (.iconst 1, 1) := by decide +kernel
theorem dX3_hasEnd_13 : decode cX3_hasEnd 13 = .ok (.goto 4, 3) := by decide +kernel
theorem dX3_placeCount_0 : decode cX3_placeCount 0 = .ok (.iconst 0, 1) := by decide +kernel
theorem dX3_placeCount_1 : decode cX3_placeCount 1 = .ok (.istore_n 1, 1) := by decide +kernel
theorem dX3_placeCount_2 : decode cX3_placeCount 2 = .ok (.iconst 0, 1) := by decide +kernel
theorem dX3_placeCount_3 : decode cX3_placeCount 3 = .ok (.istore_n 2, 1) := by decide +kernel
theorem dX3_placeCount_4 : decode cX3_placeCount 4 = .ok (.iload_n 2, 1) := by decide +kernel
theorem dX3_placeCount_5 : decode cX3_placeCount 5 = .ok (.aload_n 0, 1) := by decide +kernel
theorem dX3_placeCount_6 : decode cX3_placeCount 6 = .ok (.getfield 33, 3) := by decide +kernel
theorem dX3_placeCount_9 : decode cX3_placeCount 9 = .ok (.if_icmp .ge 21, 3) := by decide +kernel
theorem dX3_placeCount_30 : decode cX3_placeCount 30 = .ok (.iload_n 1, 1) := by decide +kernel
theorem dX3_placeCount_31 : decode cX3_placeCount 31 = .ok (.ireturn, 1) := by decide +kernel
theorem dX3_placeCount_12 : decode cX3_placeCount 12 = .ok (.iload_n 1, 1) := by decide +kernel
theorem dX3_placeCount_13 : decode cX3_placeCount 13 = .ok (.aload_n 0, 1) := by decide +kernel
theorem dX3_placeCount_14 : decode cX3_placeCount 14 = .ok (.getfield 11, 3) := by decide +kernel
theorem dX3_placeCount_17 : decode cX3_placeCount 17 = .ok (.iload_n 2, 1) := by decide +kernel
theorem dX3_placeCount_18 : decode cX3_placeCount 18 = .ok (.aaload, 1) := by decide +kernel
theorem dX3_placeCount_19 : decode cX3_placeCount 19 = .ok (.getfield 49, 3) := by decide +kernel
theorem dX3_placeCount_22 : decode cX3_placeCount 22 = .ok (.iadd, 1) := by decide +kernel
theorem dX3_placeCount_23 : decode cX3_placeCount 23 = .ok (.istore_n 1, 1) := by decide +kernel
theorem dX3_placeCount_24 : decode cX3_placeCount 24 = .ok (.iinc 2 1, 3) := by decide +kernel
theorem dX3_placeCount_27 : decode cX3_placeCount 27 = .ok (.goto (-23), 3) := by decide +kernel
theorem dX9_middle_0 : decode cX9_middle 0 = .ok (.aload_n 0, 1) := by decide +kernel
theorem dX9_middle_1 : decode cX9_middle 1 = .ok (.getfield 32, 3) := by decide +kernel
theorem dX9_middle_4 : decode cX9_middle 4 = .ok (.aload_n 0, 1) := by decide +kernel
theorem dX9_middle_5 : decode cX9_middle 5 = .ok (.getfield 36, 3) := by decide +kernel
theorem dX9_middle_8 : decode cX9_middle 8 = .ok (.ladd, 1) := by decide +kernel
theorem dX9_middle_9 : decode cX9_middle 9 = .ok (.ldc2_w 54, 3) := by decide +kernel
theorem dX9_middle_12 : decode cX9_middle 12 = .ok (.invokestatic 56, 3) := by decide +kernel
theorem dX9_middle_15 : decode cX9_middle 15 = .ok (.lreturn, 1) := by decide +kernel
theorem dX9_scaled_0 : decode cX9_scaled 0 = .ok (.aload_n 0, 1) := by decide +kernel
theorem dX9_scaled_1 : decode cX9_scaled 1 = .ok (.getfield 29, 3) := by decide +kernel
theorem dX9_scaled_4 : decode cX9_scaled 4 = .ok (.ifCond .ne 7, 3) := by decide +kernel
theorem dX9_scaled_11 : decode cX9_scaled 11 = .ok (.lload_n 1, 1) := by decide +kernel
theorem dX9_scaled_12 : decode cX9_scaled 12 = .ok (.aload_n 0, 1) := by decide +kernel
theorem dX9_scaled_13 : decode cX9_scaled 13 = .ok (.getfield 26, 3) := by decide +kernel
theorem dX9_scaled_16 : decode cX9_scaled 16 = .ok (.i2l, 1) := by decide +kernel
theorem dX9_scaled_17 : decode cX9_scaled 17 = .ok (.lmul, 1) := by decide +kernel
theorem dX9_scaled_18 : decode cX9_scaled 18 = .ok (.aload_n 0, 1) := by decide +kernel
theorem dX9_scaled_19 : decode cX9_scaled 19 = .ok (.getfield 29, 3) := by decide +kernel
theorem dX9_scaled_22 : decode cX9_scaled 22 = .ok (.i2l, 1) := by decide +kernel
theorem dX9_scaled_23 : decode cX9_scaled 23 = .ok (.ldiv, 1) := by decide +kernel
theorem dX9_scaled_24 : decode cX9_scaled 24 = .ok (.lreturn, 1) := by decide +kernel
theorem dX9_scaled_7 : decode cX9_scaled 7 = .ok (.lconst 0, 1) := by decide +kernel
theorem dX9_scaled_8 : decode cX9_scaled 8 = .ok (.goto 16, 3) := by decide +kernel

def ow_k_has : List Cond := [.fieldLink RX7 19 "NearEnough$Sheets" "count" "I"]
def vs_k_has : List Cond := .code yX7_has cX7_has 2 (some .boolean) :: (ow_k_has ++ (wsX70))
theorem vg_k_has : vs_k_has.all goodWord = true := by decide +kernel
theorem dd_k_has : yX7_has.cls = RX7 ∧ yX7_has.cls ≠ "java/lang/invoke/MethodHandle" ∧ yX7_has.cls ≠ "java/lang/invoke/VarHandle" ∧ (parseMethodDescriptor yX7_has.desc).map (fun d => d.parameters.length) = some 1 := by decide +kernel
def rm_k_has : Room := { frames := 0, cells := 0, slots := 0, locals := 0 }
set_option maxHeartbeats 4000000 in
set_option maxRecDepth 100000 in
theorem k_has (l : Launch) (dC : Nat → ClassId) (dI : Nat → Nat → Nat) (κ : CE) (sz : Nat) (σ : MS) (x : Int32) (hk : PInv κ) (hI : CInv σ)  : Met l yX7_has vs_k_has rm_k_has (va_Pc [.ref (kA κ 12), .int x] (wSy dC dI (cW κ σ) (cT κ) sz)) (va_Qi (fun (r : Int32) (τ : MS) => τ = σ ∧ ((r.toInt = 1 ∧ 0 ≤ x.toInt ∧ x.toInt < 40) ∨ r.toInt = 0)) (fun (τ : MS) => wEn dC dI (va_A (cW κ σ) sz) (cW κ τ) []) (va_A (cW κ σ) sz)) 0 0 (va_A (cW κ σ) sz) := by
  refine Met.ofW (cc := cX7_has) (maxL := 2) (ret := (some .boolean)) (by decide +kernel) rfl ?_
  intro p e s m args below meth c s₁ B hml hv
  obtain ⟨rfl, hsz, hP, hK, hD0, hE⟩ := hv
  have hx := B.exec
  have hb := B.bytes
  have hr := B.returns
  have hts := atoms_spec (ws := vs_k_has) B.pre
  have hown : s.vm.findClass RX7 = some m.cls := findClass_of_methodNamed B.named
  have hlocks := B.notSynchronized
  subst hsz
  have hD := hD0.self (sz := s.heap.size)
  generalize hAe : va_A (cW κ σ) s.heap.size = A at hD ⊢
  have hA : ∀ q : Nat, s.heap.size ≤ q → A q := fun q h => by rw [← hAe]; exact Or.inr h
  have hl := lv_entry ([.ref (kA κ 12), .int x]) (n := 2) (Nat.le_of_ble_eq_true rfl)
  rw [lg_entry_eq]
  generalize (lg_sl ([.ref (kA κ 12), .int x]) ++ List.replicate (2 - (lg_sl ([.ref (kA κ 12), .int x])).length) Slot.unset).toArray = ls at hl ⊢
  have hl : lv_has ls 2 [(0, .ref (kA κ 12)), (1, .int x)] := hl
  have ho := fun w (h : w ∈ ow_k_has) => hts w (List.mem_cons_of_mem _ (List.mem_append_left _ h))
  have hin7 : ∀ w ∈ u_ws RX7 TX7 3, w ∈ vs_k_has := fun w h => (List.mem_cons_of_mem _ (List.mem_append_right _ h))
  refine zQ (fun Q hQ => ?_)
  refine zH (A := A) (ws := (cW κ σ)) (fun H hP hS => ?_) hP
  have hk0 := hk.1
  have hk1 := hk.2.1
  have hk2 := hk.2.2.1
  refine lv_iload_n hx hb dX7_has_0 rfl (lv_at hl 1 rfl) ?_
  refine lv_if_lt (tgt := 16) hx hb dX7_has_1 rfl (fun c1_ => ?_) (fun c1_ => ?_)
  · have tc1_ := (show x.toInt < 0 from ti_lt rfl rg_11 c1_)
    refine lv_iconst (v := 0) hx hb dX7_has_16 rg_0 ?_
    have kk2_ : (0 : Int32).toInt = 0 := rg_11
    have o1 : ((0 : Int32).toInt = 1 ∧ 0 ≤ x.toInt ∧ x.toInt < 40) ∨ (0 : Int32).toInt = 0 := by omega
    rw [hQ]
    exact W.zret (v := 0) hx hb hr rfl (fun t ht hW => ⟨⟨0, σ, rfl, ⟨rfl, o1⟩, wEn_of hP (hK.sub [] rfl) hD ht hW⟩, hS.F ht⟩) hS.2.2 dX7_has_17
  · have tc1_ := (show 0 ≤ x.toInt from ti_nlt rfl rg_11 c1_)
    refine lv_iload_n hx hb dX7_has_4 rfl (lv_at hl 1 rfl) ?_
    refine lv_aload_n hx hb dX7_has_5 rfl (lv_at hl 0 rfl) ?_
    have bσ_12 : 0 ≤ (σ.1 12).toInt ∧ (σ.1 12).toInt ≤ 40 := hI.1 12
    refine va_get (D := (dC, dI)) (ci := 7) (v := .int (σ.1 12)) (C := RX7) (T := TX7) (N := 3) hx hb hts hin7 hown hK hP 12 rfl rfl 2 (Nat.le_of_ble_eq_true rfl) (ho (.fieldLink RX7 19 "NearEnough$Sheets" "count" "I") (List.mem_of_getElem? (i := 0) rfl)) (fun _ h9 => h9) rfl dX7_has_6 ?_
    refine lv_icmp_ge (tgt := 16) hx hb dX7_has_9 rfl (fun c3_ => ?_) (fun c3_ => ?_)
    · have tc3_ := (show (σ.1 12).toInt ≤ x.toInt from ti_le rfl rfl c3_)
      refine lv_iconst (v := 0) hx hb dX7_has_16 rg_0 ?_
      have kk4_ : (0 : Int32).toInt = 0 := rg_11
      have o2 : ((0 : Int32).toInt = 1 ∧ 0 ≤ x.toInt ∧ x.toInt < 40) ∨ (0 : Int32).toInt = 0 := by omega
      rw [hQ]
      exact W.zret (v := 0) hx hb hr rfl (fun t ht hW => ⟨⟨0, σ, rfl, ⟨rfl, o2⟩, wEn_of hP (hK.sub [] rfl) hD ht hW⟩, hS.F ht⟩) hS.2.2 dX7_has_17
    · have tc3_ := (show x.toInt < (σ.1 12).toInt from ti_nle rfl rfl c3_)
      refine lv_iconst (v := 1) hx hb dX7_has_12 rg_6 ?_
      refine lv_goto (tgt := 17) hx hb dX7_has_13 rfl ?_
      have kk5_ : (1 : Int32).toInt = 1 := rg_18
      have o3 : ((1 : Int32).toInt = 1 ∧ 0 ≤ x.toInt ∧ x.toInt < 40) ∨ (1 : Int32).toInt = 0 := by omega
      rw [hQ]
      exact W.zret (v := 1) hx hb hr rfl (fun t ht hW => ⟨⟨1, σ, rfl, ⟨rfl, o3⟩, wEn_of hP (hK.sub [] rfl) hD ht hW⟩, hS.F ht⟩) hS.2.2 dX7_has_17
def ow_k_lay : List Cond := [.fieldLink RX7 23 "NearEnough$Program" "rowCount" "I", .fieldLink RX7 28 "NearEnough$Program" "rows" "[LNearEnough$Row;", .fieldLink RX7 32 "NearEnough$Row" "first" "I", .fieldLink RX7 37 "NearEnough$Row" "count" "I", .fieldLink RX7 9 "NearEnough$Sheets" "numbers" "[I", .fieldLink RX7 41 "NearEnough$Row" "high" "I", .fieldLink RX7 38 "NearEnough$Row" "low" "I"]
def vs_k_lay : List Cond := .code yX7_lay cX7_lay 7 none :: (ow_k_lay ++ (wsX30 ++ (wsX50 ++ (wsX70))))
theorem vg_k_lay : vs_k_lay.all goodWord = true := by decide +kernel
theorem dd_k_lay : yX7_lay.cls = RX7 ∧ yX7_lay.cls ≠ "java/lang/invoke/MethodHandle" ∧ yX7_lay.cls ≠ "java/lang/invoke/VarHandle" ∧ (parseMethodDescriptor yX7_lay.desc).map (fun d => d.parameters.length) = some 3 := by decide +kernel
def rm_k_lay : Room := { frames := 0, cells := 0, slots := 0, locals := 0 }
set_option maxHeartbeats 4000000 in
set_option maxRecDepth 100000 in
theorem k_lay (l : Launch) (dC : Nat → ClassId) (dI : Nat → Nat → Nat) (κ : CE) (sz : Nat) (σ : MS) (x : Int32) (y : Int32) (hk : PInv κ) (hI : CInv σ) (hx0 : 0 ≤ x.toInt ∧ x.toInt ≤ 40) : Met l yX7_lay vs_k_lay rm_k_lay (va_Pc [.ref (kA κ 12), .int x, .int y, .ref (kA κ 6)] (wSy dC dI (cW κ σ) (cT κ) sz)) (va_Qv (fun (τ : MS) => CInv τ ∧ True) (fun (τ : MS) => wEn dC dI (va_A (cW κ σ) sz) (cW κ τ) []) (va_A (cW κ σ) sz)) 0 0 (va_A (cW κ σ) sz) := by
  refine Met.ofW (cc := cX7_lay) (maxL := 7) (ret := none) (by decide +kernel) rfl ?_
  intro p e s m args below meth c s₁ B hml hv
  obtain ⟨rfl, hsz, hP, hK, hD0, hE⟩ := hv
  have hx := B.exec
  have hb := B.bytes
  have hr := B.returns
  have hts := atoms_spec (ws := vs_k_lay) B.pre
  have hown : s.vm.findClass RX7 = some m.cls := findClass_of_methodNamed B.named
  have hlocks := B.notSynchronized
  subst hsz
  have hD := hD0.self (sz := s.heap.size)
  generalize hAe : va_A (cW κ σ) s.heap.size = A at hD ⊢
  have hA : ∀ q : Nat, s.heap.size ≤ q → A q := fun q h => by rw [← hAe]; exact Or.inr h
  have hl := lv_entry ([.ref (kA κ 12), .int x, .int y, .ref (kA κ 6)]) (n := 7) (Nat.le_of_ble_eq_true rfl)
  rw [lg_entry_eq]
  generalize (lg_sl ([.ref (kA κ 12), .int x, .int y, .ref (kA κ 6)]) ++ List.replicate (7 - (lg_sl ([.ref (kA κ 12), .int x, .int y, .ref (kA κ 6)])).length) Slot.unset).toArray = ls at hl ⊢
  have hl : lv_has ls 7 [(0, .ref (kA κ 12)), (1, .int x), (2, .int y), (3, .ref (kA κ 6))] := hl
  have ho := fun w (h : w ∈ ow_k_lay) => hts w (List.mem_cons_of_mem _ (List.mem_append_left _ h))
  have hin3 : ∀ w ∈ u_ws RX3 TX3 8, w ∈ vs_k_lay := fun w h => (List.mem_cons_of_mem _ (List.mem_append_right _ (List.mem_append_left _ h)))
  have hin5 : ∀ w ∈ u_ws RX5 TX5 5, w ∈ vs_k_lay := fun w h => (List.mem_cons_of_mem _ (List.mem_append_right _ (List.mem_append_right _ (List.mem_append_left _ h))))
  have hin7 : ∀ w ∈ u_ws RX7 TX7 3, w ∈ vs_k_lay := fun w h => (List.mem_cons_of_mem _ (List.mem_append_right _ (List.mem_append_right _ (List.mem_append_right _ h))))
  refine zQ (fun Q hQ => ?_)
  refine zH (A := A) (ws := (cW κ σ)) (fun H hP hS => ?_) hP
  have hk0 := hk.1
  have hk1 := hk.2.1
  have hk2 := hk.2.2.1
  refine lv_iconst (v := 0) hx hb dX7_lay_0 rg_0 ?_
  refine lv_istore (lv' := [(4, .int 0), (0, .ref (kA κ 12)), (1, .int x), (2, .int y), (3, .ref (kA κ 6))]) hx hb dX7_lay_1 hl (Nat.le_of_ble_eq_true rfl) rfl (fun ls hl => ?_)
  have pt3_ : ∀ (n3_ : Nat) (σ3_ : MS) (v4_ : Int32) (H : Heap) (locs : List Loc) (ls : Array Slot), (2 - v4_.toInt).toNat < n3_ → CInv σ3_ → (0 ≤ v4_.toInt) → va_P (dC, dI) vwCl (cW κ σ3_) H → va_D A (cW κ σ3_) → va_S A s.heap H locs → lv_has ls 7 [(4, .int v4_), (0, .ref (kA κ 12)), (1, .int x), (2, .int y), (3, .ref (kA κ 6))] → W p l e (headSpec vs_k_lay rm_k_lay).room s m #[Value.ref (kA κ 12), Value.int x, Value.int y, Value.ref (kA κ 6)] below meth c H locs 0 0 Q (F0 m 3 ls []) := by
    intro n3_
    induction n3_ with
    | zero => intro σ3_ v4_ H locs ls hn3_ hIσ3_ hf3_0_ hP hD hS hl; exact absurd hn3_ (Nat.not_lt_zero _)
    | succ n3_ ih3_ =>
      intro σ3_ v4_ H locs ls hn3_ hIσ3_ hf3_0_ hP hD hS hl
      refine lv_iload hx hb dX7_lay_3 (lv_at hl 0 rfl) ?_
      refine lv_aload_n hx hb dX7_lay_5 rfl (lv_at hl 4 rfl) ?_
      refine va_get (D := (dC, dI)) (ci := 3) (v := .int (pI κ 0)) (C := RX3) (T := TX3) (N := 8) hx hb hts hin3 hown hK hP 6 rfl rfl 5 (Nat.le_of_ble_eq_true rfl) (ho (.fieldLink RX7 23 "NearEnough$Program" "rowCount" "I") (List.mem_of_getElem? (i := 0) rfl)) (fun _ h9 => h9) rfl dX7_lay_6 ?_
      refine lv_icmp_ge (tgt := 90) hx hb dX7_lay_9 rfl (fun c1_ => ?_) (fun c1_ => ?_)
      · have tc1_ := (show (pI κ 0).toInt ≤ v4_.toInt from ti_le rfl rfl c1_)
        rw [hQ]
        exact W.vret hx hb hr (fun t ht hW => ⟨⟨σ3_, rfl, ⟨hIσ3_, trivial⟩, wEn_of hP (hK.sub [] rfl) hD ht hW⟩, hS.F ht⟩) hS.2.2 dX7_lay_90
      · have tc1_ := (show v4_.toInt < (pI κ 0).toInt from ti_nle rfl rfl c1_)
        refine lv_aload_n hx hb dX7_lay_12 rfl (lv_at hl 4 rfl) ?_
        refine va_get (D := (dC, dI)) (ci := 3) (v := .ref (kA κ 7)) (C := RX3) (T := TX3) (N := 8) hx hb hts hin3 hown hK hP 6 rfl rfl 0 (Nat.le_of_ble_eq_true rfl) (ho (.fieldLink RX7 28 "NearEnough$Program" "rows" "[LNearEnough$Row;") (List.mem_of_getElem? (i := 1) rfl)) (fun _ h9 => h9) rfl dX7_lay_13 ?_
        refine lv_iload hx hb dX7_lay_16 (lv_at hl 0 rfl) ?_
        have o1 : 0 ≤ v4_.toInt := by omega
        have o2 : v4_.toInt < ((2 : Nat) : Int) := by omega
        refine va_aldq hx hb hK hP 7 5 rfl rfl (ti_inx o1 o2) dX7_lay_18 ?_
        have o3 : v4_.toInt < (pI κ 0).toInt := by omega
        obtain ⟨a2_, t3_, ea4_, ga5_⟩ := hk.rw (x := v4_) o1 o3
        refine zv (v := .ref a2_) (by rw [ea4_]; rfl) ?_
        refine lv_astore (lv' := [(5, .ref a2_), (4, .int v4_), (0, .ref (kA κ 12)), (1, .int x), (2, .int y), (3, .ref (kA κ 6))]) hx hb dX7_lay_19 hl (Nat.le_of_ble_eq_true rfl) rfl (fun ls hl => ?_)
        refine lv_aload hx hb dX7_lay_21 (lv_at hl 0 rfl) ?_
        have bb6_ : 1 ≤ (t3_.1 0).toInt ∧ (t3_.1 0).toInt ≤ 6 ∧ 0 ≤ (t3_.1 3).toInt ∧ (t3_.1 3).toInt + (t3_.1 0).toInt ≤ 12 := ga5_.2.2
        obtain ⟨kp7_, hkp7_⟩ := cpl (κ := κ) (σ := σ3_) ga5_.1 ga5_.2.1
        refine va_get (D := (dC, dI)) (ci := 5) (v := .int (t3_.1 3)) (C := RX5) (T := TX5) (N := 5) hx hb hts hin5 hown hK hP kp7_ hkp7_ rfl 4 (Nat.le_of_ble_eq_true rfl) (ho (.fieldLink RX7 32 "NearEnough$Row" "first" "I") (List.mem_of_getElem? (i := 2) rfl)) (fun _ h9 => h9) rfl dX7_lay_23 ?_
        refine lv_istore (lv' := [(6, .int (t3_.1 3)), (5, .ref a2_), (4, .int v4_), (0, .ref (kA κ 12)), (1, .int x), (2, .int y), (3, .ref (kA κ 6))]) hx hb dX7_lay_26 hl (Nat.le_of_ble_eq_true rfl) rfl (fun ls hl => ?_)
        have pt28_ : ∀ (n28_ : Nat) (σ28_ : MS) (v6_ : Int32) (H : Heap) (locs : List Loc) (ls : Array Slot), (12 - v6_.toInt).toNat < n28_ → CInv σ28_ → (0 ≤ v6_.toInt) → va_P (dC, dI) vwCl (cW κ σ28_) H → va_D A (cW κ σ28_) → va_S A s.heap H locs → lv_has ls 7 [(6, .int v6_), (5, .ref a2_), (4, .int v4_), (0, .ref (kA κ 12)), (1, .int x), (2, .int y), (3, .ref (kA κ 6))] → W p l e (headSpec vs_k_lay rm_k_lay).room s m #[Value.ref (kA κ 12), Value.int x, Value.int y, Value.ref (kA κ 6)] below meth c H locs 0 0 Q (F0 m 28 ls []) := by
          intro n28_
          induction n28_ with
          | zero => intro σ28_ v6_ H locs ls hn28_ hIσ28_ hf28_0_ hP hD hS hl; exact absurd hn28_ (Nat.not_lt_zero _)
          | succ n28_ ih28_ =>
            intro σ28_ v6_ H locs ls hn28_ hIσ28_ hf28_0_ hP hD hS hl
            refine lv_iload hx hb dX7_lay_28 (lv_at hl 0 rfl) ?_
            refine lv_aload hx hb dX7_lay_30 (lv_at hl 1 rfl) ?_
            have bb8_ : 1 ≤ (t3_.1 0).toInt ∧ (t3_.1 0).toInt ≤ 6 ∧ 0 ≤ (t3_.1 3).toInt ∧ (t3_.1 3).toInt + (t3_.1 0).toInt ≤ 12 := ga5_.2.2
            obtain ⟨kp9_, hkp9_⟩ := cpl (κ := κ) (σ := σ28_) ga5_.1 ga5_.2.1
            refine va_get (D := (dC, dI)) (ci := 5) (v := .int (t3_.1 3)) (C := RX5) (T := TX5) (N := 5) hx hb hts hin5 hown hK hP kp9_ hkp9_ rfl 4 (Nat.le_of_ble_eq_true rfl) (ho (.fieldLink RX7 32 "NearEnough$Row" "first" "I") (List.mem_of_getElem? (i := 2) rfl)) (fun _ h9 => h9) rfl dX7_lay_32 ?_
            refine lv_aload hx hb dX7_lay_35 (lv_at hl 1 rfl) ?_
            have bb10_ : 1 ≤ (t3_.1 0).toInt ∧ (t3_.1 0).toInt ≤ 6 ∧ 0 ≤ (t3_.1 3).toInt ∧ (t3_.1 3).toInt + (t3_.1 0).toInt ≤ 12 := ga5_.2.2
            obtain ⟨kp11_, hkp11_⟩ := cpl (κ := κ) (σ := σ28_) ga5_.1 ga5_.2.1
            refine va_get (D := (dC, dI)) (ci := 5) (v := .int (t3_.1 0)) (C := RX5) (T := TX5) (N := 5) hx hb hts hin5 hown hK hP kp11_ hkp11_ rfl 1 (Nat.le_of_ble_eq_true rfl) (ho (.fieldLink RX7 37 "NearEnough$Row" "count" "I") (List.mem_of_getElem? (i := 3) rfl)) (fun _ h9 => h9) rfl dX7_lay_37 ?_
            refine lv_iadd hx hb dX7_lay_40 ?_
            refine lv_topi (fun z12_ ez12_ => ?_)
            have o4 : -2147483648 ≤ (t3_.1 3).toInt + (t3_.1 0).toInt := by omega
            have o5 : (t3_.1 3).toInt + (t3_.1 0).toInt ≤ 2147483647 := by omega
            have tz12_ : z12_.toInt = (t3_.1 3).toInt + (t3_.1 0).toInt := ti_add ez12_ rfl rfl o4 o5
            refine lv_icmp_ge (tgt := 84) hx hb dX7_lay_41 rfl (fun c13_ => ?_) (fun c13_ => ?_)
            · have tc13_ := (show z12_.toInt ≤ v6_.toInt from ti_le rfl rfl c13_)
              obtain ⟨z14_, ez14_⟩ : ∃ y : Int32, y = v4_ + 1 := ⟨_, rfl⟩
              have o6 : -2147483648 ≤ v4_.toInt + 1 := by omega
              have o7 : v4_.toInt + 1 ≤ 2147483647 := by omega
              have tz14_ := ti_add ez14_ rfl rg_18 o6 o7
              refine lv_iinc (v := z14_) (lv' := [(4, .int z14_), (6, .int v6_), (5, .ref a2_), (0, .ref (kA κ 12)), (1, .int x), (2, .int y), (3, .ref (kA κ 6))]) hx hb dX7_lay_84 hl (k := 2) rfl (iincp ez14_ rg_6) (Nat.le_of_ble_eq_true rfl) rfl (fun ls hl => ?_)
              refine lv_goto (tgt := 3) hx hb dX7_lay_87 rfl ?_
              have o8 : (2 - z14_.toInt).toNat < n3_ := by omega
              have o9 : 0 ≤ z14_.toInt := by omega
              exact ih3_ σ28_ z14_ _ _ _ o8 hIσ28_ o9 hP hD hS (lv_sub hl [0, 3, 4, 5, 6] rfl)
            · have tc13_ := (show v6_.toInt < z12_.toInt from ti_nle rfl rfl c13_)
              refine lv_aload_n hx hb dX7_lay_44 rfl (lv_at hl 3 rfl) ?_
              refine va_get (D := (dC, dI)) (ci := 7) (v := .ref (kA κ 13)) (C := RX7) (T := TX7) (N := 3) hx hb hts hin7 hown hK hP 12 rfl rfl 0 (Nat.le_of_ble_eq_true rfl) (ho (.fieldLink RX7 9 "NearEnough$Sheets" "numbers" "[I") (List.mem_of_getElem? (i := 4) rfl)) (fun _ h9 => h9) rfl dX7_lay_45 ?_
              refine lv_iload_n hx hb dX7_lay_48 rfl (lv_at hl 4 rfl) ?_
              refine lv_bipush (v := 12) hx hb dX7_lay_49 rg_57 ?_
              refine lv_imul hx hb dX7_lay_51 ?_
              refine lv_topi (fun z15_ ez15_ => ?_)
              have o10 : -2147483648 ≤ x.toInt * 12 := by omega
              have o11 : x.toInt * 12 ≤ 2147483647 := by omega
              have tz15_ : z15_.toInt = x.toInt * 12 := ti_mul ez15_ rfl rg_58 o10 o11
              refine lv_iload hx hb dX7_lay_52 (lv_at hl 0 rfl) ?_
              refine lv_iadd hx hb dX7_lay_54 ?_
              refine lv_topi (fun z16_ ez16_ => ?_)
              have o12 : -2147483648 ≤ z15_.toInt + v6_.toInt := by omega
              have o13 : z15_.toInt + v6_.toInt ≤ 2147483647 := by omega
              have tz16_ : z16_.toInt = z15_.toInt + v6_.toInt := ti_add ez16_ rfl rfl o12 o13
              have pt77_ : ∀ (s77_ : Int32) (H : Heap) (locs : List Loc) (ls : Array Slot), va_P (dC, dI) vwCl (cW κ σ28_) H → va_D A (cW κ σ28_) → va_S A s.heap H locs → lv_has ls 7 [(6, .int v6_), (5, .ref a2_), (4, .int v4_), (0, .ref (kA κ 12)), (1, .int x), (2, .int y), (3, .ref (kA κ 6))] → W p l e (headSpec vs_k_lay rm_k_lay).room s m #[Value.ref (kA κ 12), Value.int x, Value.int y, Value.ref (kA κ 6)] below meth c H locs 0 0 Q (F0 m 77 ls [.int s77_, .int z16_, .ref (kA κ 13)]) := by
                intro s77_ H locs ls hP hD hS hl
                have o14 : 0 ≤ z16_.toInt := by omega
                have o15 : z16_.toInt < ((492 : Nat) : Int) := by omega
                refine va_iast hx hb hK hP hD hS 13 10 rfl rfl (ti_inx o14 o15) dX7_lay_77 (fun H locs hP hD hS => ?_)
                obtain ⟨f17_, ef17_⟩ : ∃ f9 : Nat → Int32, f9 = upd (σ28_.2.1 10) (Int32.toNatClampNeg z16_) s77_ := ⟨_, rfl⟩
                have hP : va_P (dC, dI) vwCl (cW κ (sA σ28_ 10 f17_)) H := by rw [ef17_]; exact hP
                have hD : va_D A (cW κ (sA σ28_ 10 f17_)) := by rw [ef17_]; exact hD
                obtain ⟨z18_, ez18_⟩ : ∃ y : Int32, y = v6_ + 1 := ⟨_, rfl⟩
                have o16 : -2147483648 ≤ v6_.toInt + 1 := by omega
                have o17 : v6_.toInt + 1 ≤ 2147483647 := by omega
                have tz18_ := ti_add ez18_ rfl rg_18 o16 o17
                refine lv_iinc (v := z18_) (lv' := [(6, .int z18_), (5, .ref a2_), (4, .int v4_), (0, .ref (kA κ 12)), (1, .int x), (2, .int y), (3, .ref (kA κ 6))]) hx hb dX7_lay_78 hl (k := 0) rfl (iincp ez18_ rg_6) (Nat.le_of_ble_eq_true rfl) rfl (fun ls hl => ?_)
                refine lv_goto (tgt := 28) hx hb dX7_lay_81 rfl ?_
                have o18 : (12 - z18_.toInt).toNat < n28_ := by omega
                have o19 : 0 ≤ z18_.toInt := by omega
                exact ih28_ (sA σ28_ 10 f17_) z18_ _ _ _ o18 (CInv.sA (k := 10) (f := f17_) hIσ28_ (fun j _ => Inv.any _)) o19 hP hD hS (lv_sub hl [0, 1, 2, 3, 4, 5, 6] rfl)
              refine lv_iload_n hx hb dX7_lay_55 rfl (lv_at hl 5 rfl) ?_
              refine lv_iload hx hb dX7_lay_56 (lv_at hl 0 rfl) ?_
              refine lv_ishr hx hb dX7_lay_58 ?_
              refine lv_topi (fun z19_ ez19_ => ?_)
              refine lv_iconst (v := 1) hx hb dX7_lay_59 rg_6 ?_
              refine lv_iand hx hb dX7_lay_60 ?_
              refine lv_topi (fun z20_ ez20_ => ?_)
              refine lv_if_ne (tgt := 72) hx hb dX7_lay_61 rfl (fun c21_ => ?_) (fun c21_ => ?_)
              · have tc21_ := (show z20_.toInt ≠ 0 from ti_ne rfl rg_11 c21_)
                refine lv_aload hx hb dX7_lay_72 (lv_at hl 1 rfl) ?_
                obtain ⟨kp22_, hkp22_⟩ := cpl (κ := κ) (σ := σ28_) ga5_.1 ga5_.2.1
                refine va_get (D := (dC, dI)) (ci := 5) (v := .int (t3_.1 2)) (C := RX5) (T := TX5) (N := 5) hx hb hts hin5 hown hK hP kp22_ hkp22_ rfl 3 (Nat.le_of_ble_eq_true rfl) (ho (.fieldLink RX7 41 "NearEnough$Row" "high" "I") (List.mem_of_getElem? (i := 5) rfl)) (fun _ h9 => h9) rfl dX7_lay_74 ?_
                exact pt77_  (t3_.1 2) _ _ _  hP hD hS (lv_sub hl [0, 1, 2, 3, 4, 5, 6] rfl)
              · have tc21_ := (show z20_.toInt = 0 from ti_eq rfl rg_11 c21_)
                refine lv_aload hx hb dX7_lay_64 (lv_at hl 1 rfl) ?_
                obtain ⟨kp23_, hkp23_⟩ := cpl (κ := κ) (σ := σ28_) ga5_.1 ga5_.2.1
                refine va_get (D := (dC, dI)) (ci := 5) (v := .int (t3_.1 1)) (C := RX5) (T := TX5) (N := 5) hx hb hts hin5 hown hK hP kp23_ hkp23_ rfl 2 (Nat.le_of_ble_eq_true rfl) (ho (.fieldLink RX7 38 "NearEnough$Row" "low" "I") (List.mem_of_getElem? (i := 6) rfl)) (fun _ h9 => h9) rfl dX7_lay_66 ?_
                refine lv_goto (tgt := 77) hx hb dX7_lay_69 rfl ?_
                exact pt77_  (t3_.1 1) _ _ _  hP hD hS (lv_sub hl [0, 1, 2, 3, 4, 5, 6] rfl)
        have o20 : 0 ≤ ((t3_.1 3)).toInt := by omega
        exact pt28_ _ σ3_ (t3_.1 3) _ _ _ (Nat.lt_succ_self _) hIσ3_ o20 hP hD hS (lv_sub hl [0, 1, 2, 3, 4, 5, 6] rfl)
  have kk24_ : (0 : Int32).toInt = 0 := rg_11
  have o21 : 0 ≤ (0 : Int32).toInt := by omega
  exact pt3_ _ σ 0 _ _ _ (Nat.lt_succ_self _) hI o21 hP hD hS (lv_sub hl [0, 1, 2, 3, 4] rfl)
def ow_k_hasStep : List Cond := [.fieldLink RX3 37 "NearEnough$Program" "stepCount" "I"]
def vs_k_hasStep : List Cond := .code yX3_hasStep cX3_hasStep 2 (some .boolean) :: (ow_k_hasStep ++ (wsX30))
theorem vg_k_hasStep : vs_k_hasStep.all goodWord = true := by decide +kernel
theorem dd_k_hasStep : yX3_hasStep.cls = RX3 ∧ yX3_hasStep.cls ≠ "java/lang/invoke/MethodHandle" ∧ yX3_hasStep.cls ≠ "java/lang/invoke/VarHandle" ∧ (parseMethodDescriptor yX3_hasStep.desc).map (fun d => d.parameters.length) = some 1 := by decide +kernel
def rm_k_hasStep : Room := { frames := 0, cells := 0, slots := 0, locals := 0 }
set_option maxHeartbeats 4000000 in
set_option maxRecDepth 100000 in
theorem k_hasStep (l : Launch) (dC : Nat → ClassId) (dI : Nat → Nat → Nat) (κ : CE) (sz : Nat) (σ : MS) (x : Int32) (hk : PInv κ) (hI : CInv σ)  : Met l yX3_hasStep vs_k_hasStep rm_k_hasStep (va_Pc [.ref (kA κ 6), .int x] (wSy dC dI (cW κ σ) (cT κ) sz)) (va_Qi (fun (r : Int32) (τ : MS) => τ = σ ∧ ((r.toInt = 1 ∧ 0 ≤ x.toInt ∧ x.toInt < (pI κ 1).toInt) ∨ r.toInt = 0)) (fun (τ : MS) => wEn dC dI (va_A (cW κ σ) sz) (cW κ τ) []) (va_A (cW κ σ) sz)) 0 0 (va_A (cW κ σ) sz) := by
  refine Met.ofW (cc := cX3_hasStep) (maxL := 2) (ret := (some .boolean)) (by decide +kernel) rfl ?_
  intro p e s m args below meth c s₁ B hml hv
  obtain ⟨rfl, hsz, hP, hK, hD0, hE⟩ := hv
  have hx := B.exec
  have hb := B.bytes
  have hr := B.returns
  have hts := atoms_spec (ws := vs_k_hasStep) B.pre
  have hown : s.vm.findClass RX3 = some m.cls := findClass_of_methodNamed B.named
  have hlocks := B.notSynchronized
  subst hsz
  have hD := hD0.self (sz := s.heap.size)
  generalize hAe : va_A (cW κ σ) s.heap.size = A at hD ⊢
  have hA : ∀ q : Nat, s.heap.size ≤ q → A q := fun q h => by rw [← hAe]; exact Or.inr h
  have hl := lv_entry ([.ref (kA κ 6), .int x]) (n := 2) (Nat.le_of_ble_eq_true rfl)
  rw [lg_entry_eq]
  generalize (lg_sl ([.ref (kA κ 6), .int x]) ++ List.replicate (2 - (lg_sl ([.ref (kA κ 6), .int x])).length) Slot.unset).toArray = ls at hl ⊢
  have hl : lv_has ls 2 [(0, .ref (kA κ 6)), (1, .int x)] := hl
  have ho := fun w (h : w ∈ ow_k_hasStep) => hts w (List.mem_cons_of_mem _ (List.mem_append_left _ h))
  have hin3 : ∀ w ∈ u_ws RX3 TX3 8, w ∈ vs_k_hasStep := fun w h => (List.mem_cons_of_mem _ (List.mem_append_right _ h))
  refine zQ (fun Q hQ => ?_)
  refine zH (A := A) (ws := (cW κ σ)) (fun H hP hS => ?_) hP
  have hk0 := hk.1
  have hk1 := hk.2.1
  have hk2 := hk.2.2.1
  refine lv_iload_n hx hb dX3_hasStep_0 rfl (lv_at hl 1 rfl) ?_
  refine lv_if_lt (tgt := 16) hx hb dX3_hasStep_1 rfl (fun c1_ => ?_) (fun c1_ => ?_)
  · have tc1_ := (show x.toInt < 0 from ti_lt rfl rg_11 c1_)
    refine lv_iconst (v := 0) hx hb dX3_hasStep_16 rg_0 ?_
    have kk2_ : (0 : Int32).toInt = 0 := rg_11
    have o1 : ((0 : Int32).toInt = 1 ∧ 0 ≤ x.toInt ∧ x.toInt < (pI κ 1).toInt) ∨ (0 : Int32).toInt = 0 := by omega
    rw [hQ]
    exact W.zret (v := 0) hx hb hr rfl (fun t ht hW => ⟨⟨0, σ, rfl, ⟨rfl, o1⟩, wEn_of hP (hK.sub [] rfl) hD ht hW⟩, hS.F ht⟩) hS.2.2 dX3_hasStep_17
  · have tc1_ := (show 0 ≤ x.toInt from ti_nlt rfl rg_11 c1_)
    refine lv_iload_n hx hb dX3_hasStep_4 rfl (lv_at hl 1 rfl) ?_
    refine lv_aload_n hx hb dX3_hasStep_5 rfl (lv_at hl 0 rfl) ?_
    refine va_get (D := (dC, dI)) (ci := 3) (v := .int (pI κ 1)) (C := RX3) (T := TX3) (N := 8) hx hb hts hin3 hown hK hP 6 rfl rfl 6 (Nat.le_of_ble_eq_true rfl) (ho (.fieldLink RX3 37 "NearEnough$Program" "stepCount" "I") (List.mem_of_getElem? (i := 0) rfl)) (fun _ h9 => h9) rfl dX3_hasStep_6 ?_
    refine lv_icmp_ge (tgt := 16) hx hb dX3_hasStep_9 rfl (fun c3_ => ?_) (fun c3_ => ?_)
    · have tc3_ := (show (pI κ 1).toInt ≤ x.toInt from ti_le rfl rfl c3_)
      refine lv_iconst (v := 0) hx hb dX3_hasStep_16 rg_0 ?_
      have kk4_ : (0 : Int32).toInt = 0 := rg_11
      have o2 : ((0 : Int32).toInt = 1 ∧ 0 ≤ x.toInt ∧ x.toInt < (pI κ 1).toInt) ∨ (0 : Int32).toInt = 0 := by omega
      rw [hQ]
      exact W.zret (v := 0) hx hb hr rfl (fun t ht hW => ⟨⟨0, σ, rfl, ⟨rfl, o2⟩, wEn_of hP (hK.sub [] rfl) hD ht hW⟩, hS.F ht⟩) hS.2.2 dX3_hasStep_17
    · have tc3_ := (show x.toInt < (pI κ 1).toInt from ti_nle rfl rfl c3_)
      refine lv_iconst (v := 1) hx hb dX3_hasStep_12 rg_6 ?_
      refine lv_goto (tgt := 17) hx hb dX3_hasStep_13 rfl ?_
      have kk5_ : (1 : Int32).toInt = 1 := rg_18
      have o3 : ((1 : Int32).toInt = 1 ∧ 0 ≤ x.toInt ∧ x.toInt < (pI κ 1).toInt) ∨ (1 : Int32).toInt = 0 := by omega
      rw [hQ]
      exact W.zret (v := 1) hx hb hr rfl (fun t ht hW => ⟨⟨1, σ, rfl, ⟨rfl, o3⟩, wEn_of hP (hK.sub [] rfl) hD ht hW⟩, hS.F ht⟩) hS.2.2 dX3_hasStep_17
def ow_k_hasEnd : List Cond := [.fieldLink RX3 40 "NearEnough$Program" "endCount" "I"]
def vs_k_hasEnd : List Cond := .code yX3_hasEnd cX3_hasEnd 2 (some .boolean) :: (ow_k_hasEnd ++ (wsX30))
theorem vg_k_hasEnd : vs_k_hasEnd.all goodWord = true := by decide +kernel
theorem dd_k_hasEnd : yX3_hasEnd.cls = RX3 ∧ yX3_hasEnd.cls ≠ "java/lang/invoke/MethodHandle" ∧ yX3_hasEnd.cls ≠ "java/lang/invoke/VarHandle" ∧ (parseMethodDescriptor yX3_hasEnd.desc).map (fun d => d.parameters.length) = some 1 := by decide +kernel
def rm_k_hasEnd : Room := { frames := 0, cells := 0, slots := 0, locals := 0 }
set_option maxHeartbeats 4000000 in
set_option maxRecDepth 100000 in
theorem k_hasEnd (l : Launch) (dC : Nat → ClassId) (dI : Nat → Nat → Nat) (κ : CE) (sz : Nat) (σ : MS) (x : Int32) (hk : PInv κ) (hI : CInv σ)  : Met l yX3_hasEnd vs_k_hasEnd rm_k_hasEnd (va_Pc [.ref (kA κ 6), .int x] (wSy dC dI (cW κ σ) (cT κ) sz)) (va_Qi (fun (r : Int32) (τ : MS) => τ = σ ∧ ((r.toInt = 1 ∧ 0 ≤ x.toInt ∧ x.toInt < (pI κ 2).toInt) ∨ r.toInt = 0)) (fun (τ : MS) => wEn dC dI (va_A (cW κ σ) sz) (cW κ τ) []) (va_A (cW κ σ) sz)) 0 0 (va_A (cW κ σ) sz) := by
  refine Met.ofW (cc := cX3_hasEnd) (maxL := 2) (ret := (some .boolean)) (by decide +kernel) rfl ?_
  intro p e s m args below meth c s₁ B hml hv
  obtain ⟨rfl, hsz, hP, hK, hD0, hE⟩ := hv
  have hx := B.exec
  have hb := B.bytes
  have hr := B.returns
  have hts := atoms_spec (ws := vs_k_hasEnd) B.pre
  have hown : s.vm.findClass RX3 = some m.cls := findClass_of_methodNamed B.named
  have hlocks := B.notSynchronized
  subst hsz
  have hD := hD0.self (sz := s.heap.size)
  generalize hAe : va_A (cW κ σ) s.heap.size = A at hD ⊢
  have hA : ∀ q : Nat, s.heap.size ≤ q → A q := fun q h => by rw [← hAe]; exact Or.inr h
  have hl := lv_entry ([.ref (kA κ 6), .int x]) (n := 2) (Nat.le_of_ble_eq_true rfl)
  rw [lg_entry_eq]
  generalize (lg_sl ([.ref (kA κ 6), .int x]) ++ List.replicate (2 - (lg_sl ([.ref (kA κ 6), .int x])).length) Slot.unset).toArray = ls at hl ⊢
  have hl : lv_has ls 2 [(0, .ref (kA κ 6)), (1, .int x)] := hl
  have ho := fun w (h : w ∈ ow_k_hasEnd) => hts w (List.mem_cons_of_mem _ (List.mem_append_left _ h))
  have hin3 : ∀ w ∈ u_ws RX3 TX3 8, w ∈ vs_k_hasEnd := fun w h => (List.mem_cons_of_mem _ (List.mem_append_right _ h))
  refine zQ (fun Q hQ => ?_)
  refine zH (A := A) (ws := (cW κ σ)) (fun H hP hS => ?_) hP
  have hk0 := hk.1
  have hk1 := hk.2.1
  have hk2 := hk.2.2.1
  refine lv_iload_n hx hb dX3_hasEnd_0 rfl (lv_at hl 1 rfl) ?_
  refine lv_if_lt (tgt := 16) hx hb dX3_hasEnd_1 rfl (fun c1_ => ?_) (fun c1_ => ?_)
  · have tc1_ := (show x.toInt < 0 from ti_lt rfl rg_11 c1_)
    refine lv_iconst (v := 0) hx hb dX3_hasEnd_16 rg_0 ?_
    have kk2_ : (0 : Int32).toInt = 0 := rg_11
    have o1 : ((0 : Int32).toInt = 1 ∧ 0 ≤ x.toInt ∧ x.toInt < (pI κ 2).toInt) ∨ (0 : Int32).toInt = 0 := by omega
    rw [hQ]
    exact W.zret (v := 0) hx hb hr rfl (fun t ht hW => ⟨⟨0, σ, rfl, ⟨rfl, o1⟩, wEn_of hP (hK.sub [] rfl) hD ht hW⟩, hS.F ht⟩) hS.2.2 dX3_hasEnd_17
  · have tc1_ := (show 0 ≤ x.toInt from ti_nlt rfl rg_11 c1_)
    refine lv_iload_n hx hb dX3_hasEnd_4 rfl (lv_at hl 1 rfl) ?_
    refine lv_aload_n hx hb dX3_hasEnd_5 rfl (lv_at hl 0 rfl) ?_
    refine va_get (D := (dC, dI)) (ci := 3) (v := .int (pI κ 2)) (C := RX3) (T := TX3) (N := 8) hx hb hts hin3 hown hK hP 6 rfl rfl 7 (Nat.le_of_ble_eq_true rfl) (ho (.fieldLink RX3 40 "NearEnough$Program" "endCount" "I") (List.mem_of_getElem? (i := 0) rfl)) (fun _ h9 => h9) rfl dX3_hasEnd_6 ?_
    refine lv_icmp_ge (tgt := 16) hx hb dX3_hasEnd_9 rfl (fun c3_ => ?_) (fun c3_ => ?_)
    · have tc3_ := (show (pI κ 2).toInt ≤ x.toInt from ti_le rfl rfl c3_)
      refine lv_iconst (v := 0) hx hb dX3_hasEnd_16 rg_0 ?_
      have kk4_ : (0 : Int32).toInt = 0 := rg_11
      have o2 : ((0 : Int32).toInt = 1 ∧ 0 ≤ x.toInt ∧ x.toInt < (pI κ 2).toInt) ∨ (0 : Int32).toInt = 0 := by omega
      rw [hQ]
      exact W.zret (v := 0) hx hb hr rfl (fun t ht hW => ⟨⟨0, σ, rfl, ⟨rfl, o2⟩, wEn_of hP (hK.sub [] rfl) hD ht hW⟩, hS.F ht⟩) hS.2.2 dX3_hasEnd_17
    · have tc3_ := (show x.toInt < (pI κ 2).toInt from ti_nle rfl rfl c3_)
      refine lv_iconst (v := 1) hx hb dX3_hasEnd_12 rg_6 ?_
      refine lv_goto (tgt := 17) hx hb dX3_hasEnd_13 rfl ?_
      have kk5_ : (1 : Int32).toInt = 1 := rg_18
      have o3 : ((1 : Int32).toInt = 1 ∧ 0 ≤ x.toInt ∧ x.toInt < (pI κ 2).toInt) ∨ (1 : Int32).toInt = 0 := by omega
      rw [hQ]
      exact W.zret (v := 1) hx hb hr rfl (fun t ht hW => ⟨⟨1, σ, rfl, ⟨rfl, o3⟩, wEn_of hP (hK.sub [] rfl) hD ht hW⟩, hS.F ht⟩) hS.2.2 dX3_hasEnd_17
def ow_k_placeCount : List Cond := [.fieldLink RX3 33 "NearEnough$Program" "rowCount" "I", .fieldLink RX3 11 "NearEnough$Program" "rows" "[LNearEnough$Row;", .fieldLink RX3 49 "NearEnough$Row" "count" "I"]
def vs_k_placeCount : List Cond := .code yX3_placeCount cX3_placeCount 3 (some .int) :: (ow_k_placeCount ++ (wsX30 ++ (wsX50)))
theorem vg_k_placeCount : vs_k_placeCount.all goodWord = true := by decide +kernel
theorem dd_k_placeCount : yX3_placeCount.cls = RX3 ∧ yX3_placeCount.cls ≠ "java/lang/invoke/MethodHandle" ∧ yX3_placeCount.cls ≠ "java/lang/invoke/VarHandle" ∧ (parseMethodDescriptor yX3_placeCount.desc).map (fun d => d.parameters.length) = some 0 := by decide +kernel
def rm_k_placeCount : Room := { frames := 0, cells := 0, slots := 0, locals := 0 }
set_option maxHeartbeats 4000000 in
set_option maxRecDepth 100000 in
theorem k_placeCount (l : Launch) (dC : Nat → ClassId) (dI : Nat → Nat → Nat) (κ : CE) (sz : Nat) (σ : MS) (hk : PInv κ) (hI : CInv σ)  : Met l yX3_placeCount vs_k_placeCount rm_k_placeCount (va_Pc [.ref (kA κ 6)] (wSy dC dI (cW κ σ) (cT κ) sz)) (va_Qi (fun (r : Int32) (τ : MS) => τ = σ ∧ (0 ≤ r.toInt ∧ r.toInt ≤ 12)) (fun (τ : MS) => wEn dC dI (va_A (cW κ σ) sz) (cW κ τ) []) (va_A (cW κ σ) sz)) 0 0 (va_A (cW κ σ) sz) := by
  refine Met.ofW (cc := cX3_placeCount) (maxL := 3) (ret := (some .int)) (by decide +kernel) rfl ?_
  intro p e s m args below meth c s₁ B hml hv
  obtain ⟨rfl, hsz, hP, hK, hD0, hE⟩ := hv
  have hx := B.exec
  have hb := B.bytes
  have hr := B.returns
  have hts := atoms_spec (ws := vs_k_placeCount) B.pre
  have hown : s.vm.findClass RX3 = some m.cls := findClass_of_methodNamed B.named
  have hlocks := B.notSynchronized
  subst hsz
  have hD := hD0.self (sz := s.heap.size)
  generalize hAe : va_A (cW κ σ) s.heap.size = A at hD ⊢
  have hA : ∀ q : Nat, s.heap.size ≤ q → A q := fun q h => by rw [← hAe]; exact Or.inr h
  have hl := lv_entry ([.ref (kA κ 6)]) (n := 3) (Nat.le_of_ble_eq_true rfl)
  rw [lg_entry_eq]
  generalize (lg_sl ([.ref (kA κ 6)]) ++ List.replicate (3 - (lg_sl ([.ref (kA κ 6)])).length) Slot.unset).toArray = ls at hl ⊢
  have hl : lv_has ls 3 [(0, .ref (kA κ 6))] := hl
  have ho := fun w (h : w ∈ ow_k_placeCount) => hts w (List.mem_cons_of_mem _ (List.mem_append_left _ h))
  have hin3 : ∀ w ∈ u_ws RX3 TX3 8, w ∈ vs_k_placeCount := fun w h => (List.mem_cons_of_mem _ (List.mem_append_right _ (List.mem_append_left _ h)))
  have hin5 : ∀ w ∈ u_ws RX5 TX5 5, w ∈ vs_k_placeCount := fun w h => (List.mem_cons_of_mem _ (List.mem_append_right _ (List.mem_append_right _ h)))
  refine zQ (fun Q hQ => ?_)
  refine zH (A := A) (ws := (cW κ σ)) (fun H hP hS => ?_) hP
  have hk0 := hk.1
  have hk1 := hk.2.1
  have hk2 := hk.2.2.1
  refine lv_iconst (v := 0) hx hb dX3_placeCount_0 rg_0 ?_
  refine lv_istore_n (lv' := [(1, .int 0), (0, .ref (kA κ 6))]) hx hb dX3_placeCount_1 rfl hl (Nat.le_of_ble_eq_true rfl) rfl (fun ls hl => ?_)
  refine lv_iconst (v := 0) hx hb dX3_placeCount_2 rg_0 ?_
  refine lv_istore_n (lv' := [(2, .int 0), (1, .int 0), (0, .ref (kA κ 6))]) hx hb dX3_placeCount_3 rfl hl (Nat.le_of_ble_eq_true rfl) rfl (fun ls hl => ?_)
  have pt4_ : ∀ (n4_ : Nat) (v1_ : Int32) (v2_ : Int32) (H : Heap) (locs : List Loc) (ls : Array Slot), (2 - v2_.toInt).toNat < n4_ → (0 ≤ v2_.toInt ∧ v2_.toInt ≤ 2 ∧ 0 ≤ v1_.toInt ∧ v1_.toInt ≤ 6 * v2_.toInt) → va_P (dC, dI) vwCl (cW κ σ) H → va_D A (cW κ σ) → va_S A s.heap H locs → lv_has ls 3 [(1, .int v1_), (2, .int v2_), (0, .ref (kA κ 6))] → W p l e (headSpec vs_k_placeCount rm_k_placeCount).room s m #[Value.ref (kA κ 6)] below meth c H locs 0 0 Q (F0 m 4 ls []) := by
    intro n4_
    induction n4_ with
    | zero => intro v1_ v2_ H locs ls hn4_ hf4_0_ hP hD hS hl; exact absurd hn4_ (Nat.not_lt_zero _)
    | succ n4_ ih4_ =>
      intro v1_ v2_ H locs ls hn4_ hf4_0_ hP hD hS hl
      refine lv_iload_n hx hb dX3_placeCount_4 rfl (lv_at hl 1 rfl) ?_
      refine lv_aload_n hx hb dX3_placeCount_5 rfl (lv_at hl 2 rfl) ?_
      refine va_get (D := (dC, dI)) (ci := 3) (v := .int (pI κ 0)) (C := RX3) (T := TX3) (N := 8) hx hb hts hin3 hown hK hP 6 rfl rfl 5 (Nat.le_of_ble_eq_true rfl) (ho (.fieldLink RX3 33 "NearEnough$Program" "rowCount" "I") (List.mem_of_getElem? (i := 0) rfl)) (fun _ h9 => h9) rfl dX3_placeCount_6 ?_
      refine lv_icmp_ge (tgt := 30) hx hb dX3_placeCount_9 rfl (fun c1_ => ?_) (fun c1_ => ?_)
      · have tc1_ := (show (pI κ 0).toInt ≤ v2_.toInt from ti_le rfl rfl c1_)
        refine lv_iload_n hx hb dX3_placeCount_30 rfl (lv_at hl 0 rfl) ?_
        have o1 : 0 ≤ v1_.toInt := by omega
        have o2 : v1_.toInt ≤ 12 := by omega
        rw [hQ]
        exact W.iret (v := v1_) hx hb hr (fun t ht hW => ⟨⟨v1_, σ, rfl, ⟨rfl, ⟨o1, o2⟩⟩, wEn_of hP (hK.sub [] rfl) hD ht hW⟩, hS.F ht⟩) hS.2.2 dX3_placeCount_31
      · have tc1_ := (show v2_.toInt < (pI κ 0).toInt from ti_nle rfl rfl c1_)
        refine lv_iload_n hx hb dX3_placeCount_12 rfl (lv_at hl 0 rfl) ?_
        refine lv_aload_n hx hb dX3_placeCount_13 rfl (lv_at hl 2 rfl) ?_
        refine va_get (D := (dC, dI)) (ci := 3) (v := .ref (kA κ 7)) (C := RX3) (T := TX3) (N := 8) hx hb hts hin3 hown hK hP 6 rfl rfl 0 (Nat.le_of_ble_eq_true rfl) (ho (.fieldLink RX3 11 "NearEnough$Program" "rows" "[LNearEnough$Row;") (List.mem_of_getElem? (i := 1) rfl)) (fun _ h9 => h9) rfl dX3_placeCount_14 ?_
        refine lv_iload_n hx hb dX3_placeCount_17 rfl (lv_at hl 1 rfl) ?_
        have o3 : 0 ≤ v2_.toInt := by omega
        have o4 : v2_.toInt < ((2 : Nat) : Int) := by omega
        refine va_aldq hx hb hK hP 7 5 rfl rfl (ti_inx o3 o4) dX3_placeCount_18 ?_
        have o5 : v2_.toInt < (pI κ 0).toInt := by omega
        obtain ⟨a2_, t3_, ea4_, ga5_⟩ := hk.rw (x := v2_) o3 o5
        refine zv (v := .ref a2_) (by rw [ea4_]; rfl) ?_
        have bb6_ : 1 ≤ (t3_.1 0).toInt ∧ (t3_.1 0).toInt ≤ 6 ∧ 0 ≤ (t3_.1 3).toInt ∧ (t3_.1 3).toInt + (t3_.1 0).toInt ≤ 12 := ga5_.2.2
        obtain ⟨kp7_, hkp7_⟩ := cpl (κ := κ) (σ := σ) ga5_.1 ga5_.2.1
        refine va_get (D := (dC, dI)) (ci := 5) (v := .int (t3_.1 0)) (C := RX5) (T := TX5) (N := 5) hx hb hts hin5 hown hK hP kp7_ hkp7_ rfl 1 (Nat.le_of_ble_eq_true rfl) (ho (.fieldLink RX3 49 "NearEnough$Row" "count" "I") (List.mem_of_getElem? (i := 2) rfl)) (fun _ h9 => h9) rfl dX3_placeCount_19 ?_
        refine lv_iadd hx hb dX3_placeCount_22 ?_
        refine lv_topi (fun z8_ ez8_ => ?_)
        have o6 : -2147483648 ≤ v1_.toInt + (t3_.1 0).toInt := by omega
        have o7 : v1_.toInt + (t3_.1 0).toInt ≤ 2147483647 := by omega
        have tz8_ : z8_.toInt = v1_.toInt + (t3_.1 0).toInt := ti_add ez8_ rfl rfl o6 o7
        refine lv_istore_n (lv' := [(1, .int z8_), (2, .int v2_), (0, .ref (kA κ 6))]) hx hb dX3_placeCount_23 rfl hl (Nat.le_of_ble_eq_true rfl) rfl (fun ls hl => ?_)
        obtain ⟨z9_, ez9_⟩ : ∃ y : Int32, y = v2_ + 1 := ⟨_, rfl⟩
        have o8 : -2147483648 ≤ v2_.toInt + 1 := by omega
        have o9 : v2_.toInt + 1 ≤ 2147483647 := by omega
        have tz9_ := ti_add ez9_ rfl rg_18 o8 o9
        refine lv_iinc (v := z9_) (lv' := [(2, .int z9_), (1, .int z8_), (0, .ref (kA κ 6))]) hx hb dX3_placeCount_24 hl (k := 1) rfl (iincp ez9_ rg_6) (Nat.le_of_ble_eq_true rfl) rfl (fun ls hl => ?_)
        refine lv_goto (tgt := 4) hx hb dX3_placeCount_27 rfl ?_
        have o10 : (2 - z9_.toInt).toNat < n4_ := by omega
        have o11 : 0 ≤ z9_.toInt := by omega
        have o12 : z9_.toInt ≤ 2 := by omega
        have o13 : 0 ≤ z8_.toInt := by omega
        have o14 : z8_.toInt ≤ 6 * z9_.toInt := by omega
        exact ih4_  z8_ z9_ _ _ _ o10 ⟨o11, o12, o13, o14⟩ hP hD hS (lv_sub hl [1, 0, 2] rfl)
  have kk10_ : (0 : Int32).toInt = 0 := rg_11
  have kk11_ : (0 : Int32).toInt = 0 := rg_11
  have o15 : 0 ≤ (0 : Int32).toInt := by omega
  have o16 : (0 : Int32).toInt ≤ 2 := by omega
  have o17 : (0 : Int32).toInt ≤ 6 * (0 : Int32).toInt := by omega
  exact pt4_ _  0 0 _ _ _ (Nat.lt_succ_self _) ⟨o15, o16, o15, o17⟩ hP hD hS (lv_sub hl [1, 0, 2] rfl)
def ow_k_middle : List Cond := [.fieldLink RX9 32 "NearEnough$Step" "low" "J", .fieldLink RX9 36 "NearEnough$Step" "high" "J", .constantLong RX9 54 (2)]
def vs_k_middle : List Cond := .code yX9_middle cX9_middle 1 (some .long) :: (ow_k_middle ++ (([.methodLink RX9 56 yJ9_floorDiv_f86c9, .static yJ9_floorDiv_f86c9, .initialized yJ9_floorDiv_f86c9.cls] : List Cond) ++ (vs_k_floorDiv ++ (wsX90))))
theorem vg_k_middle : vs_k_middle.all goodWord = true := by decide +kernel
theorem dd_k_middle : yX9_middle.cls = RX9 ∧ yX9_middle.cls ≠ "java/lang/invoke/MethodHandle" ∧ yX9_middle.cls ≠ "java/lang/invoke/VarHandle" ∧ (parseMethodDescriptor yX9_middle.desc).map (fun d => d.parameters.length) = some 0 := by decide +kernel
def rm_k_middle : Room := { frames := 1, cells := 0, slots := 0, locals := 25 }
theorem gd_k_middle_56_k_floorDiv : GoodIn vs_k_middle (va_wsS RX9 56 yJ9_floorDiv_f86c9 vs_k_floorDiv) := goodIn_app (goodIn_sub (fun w h => (List.mem_cons_of_mem _ (List.mem_append_right _ (List.mem_append_left _ h)))) (by decide +kernel)) (goodIn_sub (fun w h => (List.mem_cons_of_mem _ (List.mem_append_right _ (List.mem_append_right _ (List.mem_append_left _ h))))) vg_k_floorDiv)
set_option maxHeartbeats 4000000 in
set_option maxRecDepth 100000 in
theorem k_middle (l : Launch) (dC : Nat → ClassId) (dI : Nat → Nat → Nat) (κ : CE) (sz : Nat) (σ : MS) (a : Nat) (t_a : TT) (g_a : IsStep κ a t_a) (hk : PInv κ) (hI : CInv σ)  : Met l yX9_middle vs_k_middle rm_k_middle (va_Pc [.ref a] (wSy dC dI (cW κ σ) (cT κ) sz)) (va_Ql (fun (r : Int64) (τ : MS) => τ = σ ∧ True) (fun (τ : MS) => wEn dC dI (va_A (cW κ σ) sz) (cW κ τ) []) (va_A (cW κ σ) sz)) 0 0 (va_A (cW κ σ) sz) := by
  refine Met.ofW (cc := cX9_middle) (maxL := 1) (ret := (some .long)) (by decide +kernel) rfl ?_
  intro p e s m args below meth c s₁ B hml hv
  obtain ⟨rfl, hsz, hP, hK, hD0, hE⟩ := hv
  have hx := B.exec
  have hb := B.bytes
  have hr := B.returns
  have hts := atoms_spec (ws := vs_k_middle) B.pre
  have hown : s.vm.findClass RX9 = some m.cls := findClass_of_methodNamed B.named
  have hlocks := B.notSynchronized
  subst hsz
  have hD := hD0.self (sz := s.heap.size)
  generalize hAe : va_A (cW κ σ) s.heap.size = A at hD ⊢
  have hA : ∀ q : Nat, s.heap.size ≤ q → A q := fun q h => by rw [← hAe]; exact Or.inr h
  have hl := lv_entry ([.ref a]) (n := 1) (Nat.le_of_ble_eq_true rfl)
  rw [lg_entry_eq]
  generalize (lg_sl ([.ref a]) ++ List.replicate (1 - (lg_sl ([.ref a])).length) Slot.unset).toArray = ls at hl ⊢
  have hl : lv_has ls 1 [(0, .ref a)] := hl
  have ho := fun w (h : w ∈ ow_k_middle) => hts w (List.mem_cons_of_mem _ (List.mem_append_left _ h))
  have hin9 : ∀ w ∈ u_ws RX9 TX9 11, w ∈ vs_k_middle := fun w h => (List.mem_cons_of_mem _ (List.mem_append_right _ (List.mem_append_right _ (List.mem_append_right _ h))))
  refine zQ (fun Q hQ => ?_)
  refine zH (A := A) (ws := (cW κ σ)) (fun H hP hS => ?_) hP
  have hk0 := hk.1
  have hk1 := hk.2.1
  have hk2 := hk.2.2.1
  refine lv_aload_n hx hb dX9_middle_0 rfl (lv_at hl 0 rfl) ?_
  obtain ⟨kp1_, hkp1_⟩ := cpl (κ := κ) (σ := σ) g_a.1 g_a.2.1
  refine va_get (D := (dC, dI)) (ci := 9) (v := .long (t_a.2.1 1)) (C := RX9) (T := TX9) (N := 11) hx hb hts hin9 hown hK hP kp1_ hkp1_ rfl 9 (Nat.le_of_ble_eq_true rfl) (ho (.fieldLink RX9 32 "NearEnough$Step" "low" "J") (List.mem_of_getElem? (i := 0) rfl)) (fun _ h9 => h9) rfl dX9_middle_1 ?_
  refine lv_aload_n hx hb dX9_middle_4 rfl (lv_at hl 0 rfl) ?_
  obtain ⟨kp2_, hkp2_⟩ := cpl (κ := κ) (σ := σ) g_a.1 g_a.2.1
  refine va_get (D := (dC, dI)) (ci := 9) (v := .long (t_a.2.1 2)) (C := RX9) (T := TX9) (N := 11) hx hb hts hin9 hown hK hP kp2_ hkp2_ rfl 10 (Nat.le_of_ble_eq_true rfl) (ho (.fieldLink RX9 36 "NearEnough$Step" "high" "J") (List.mem_of_getElem? (i := 1) rfl)) (fun _ h9 => h9) rfl dX9_middle_5 ?_
  refine lv_ladd hx hb dX9_middle_8 ?_
  refine lv_topl (fun y3_ ey3_ => ?_)
  refine lv_ldc2 (v := (2)) hx hb hown (ho (.constantLong RX9 54 (2)) (List.mem_of_getElem? (i := 2) rfl)) dX9_middle_9 ?_
  refine zs_l (va_runS (As := [.long y3_, .long 2]) (rest := []) ⟨hx, hb, hml, hown, hts⟩ (k_floorDiv l dC dI y3_ 2 (by decide) H.size) (va_cwS 2 hts gd_k_middle_56_k_floorDiv rfl rfl rfl dd_k_floorDiv ⟨Nat.le_of_ble_eq_true rfl, Nat.le_of_ble_eq_true rfl⟩) (preS (A := A) empP (hK.sub (tys' := []) [] rfl) empD hE.x) rfl rfl hl.1 rfl (lv_room (Nat.le_of_ble_eq_true rfl)) dX9_middle_12 ⟨Nat.le_of_ble_eq_true rfl, Nat.le_of_ble_eq_true rfl⟩) hP hD hS hA (fun y4_ H locs hq hP hD hS => ?_)
  have q5_ : True := hq
  refine W.widen (k := 0) (n := 0) (Nat.le_of_ble_eq_true rfl) (Nat.le_of_ble_eq_true rfl) ?_
  rw [hQ]
  exact W.lret (v := y4_) hx hb hr (fun t ht hW => ⟨⟨y4_, σ, rfl, ⟨rfl, trivial⟩, wEn_of hP (hK.sub [] rfl) hD ht hW⟩, hS.F ht⟩) hS.2.2 dX9_middle_15
def ow_k_scaled : List Cond := [.fieldLink RX9 29 "NearEnough$Step" "over" "I", .fieldLink RX9 26 "NearEnough$Step" "by" "I"]
def vs_k_scaled : List Cond := .code yX9_scaled cX9_scaled 3 (some .long) :: (ow_k_scaled ++ (wsX90))
theorem vg_k_scaled : vs_k_scaled.all goodWord = true := by decide +kernel
theorem dd_k_scaled : yX9_scaled.cls = RX9 ∧ yX9_scaled.cls ≠ "java/lang/invoke/MethodHandle" ∧ yX9_scaled.cls ≠ "java/lang/invoke/VarHandle" ∧ (parseMethodDescriptor yX9_scaled.desc).map (fun d => d.parameters.length) = some 1 := by decide +kernel
def rm_k_scaled : Room := { frames := 0, cells := 0, slots := 0, locals := 0 }
set_option maxHeartbeats 4000000 in
set_option maxRecDepth 100000 in
theorem k_scaled (l : Launch) (dC : Nat → ClassId) (dI : Nat → Nat → Nat) (κ : CE) (sz : Nat) (σ : MS) (a : Nat) (t_a : TT) (g_a : IsStep κ a t_a) (x : Int64) (hk : PInv κ) (hI : CInv σ)  : Met l yX9_scaled vs_k_scaled rm_k_scaled (va_Pc [.ref a, .long x] (wSy dC dI (cW κ σ) (cT κ) sz)) (va_Ql (fun (r : Int64) (τ : MS) => τ = σ ∧ True) (fun (τ : MS) => wEn dC dI (va_A (cW κ σ) sz) (cW κ τ) []) (va_A (cW κ σ) sz)) 0 0 (va_A (cW κ σ) sz) := by
  refine Met.ofW (cc := cX9_scaled) (maxL := 3) (ret := (some .long)) (by decide +kernel) rfl ?_
  intro p e s m args below meth c s₁ B hml hv
  obtain ⟨rfl, hsz, hP, hK, hD0, hE⟩ := hv
  have hx := B.exec
  have hb := B.bytes
  have hr := B.returns
  have hts := atoms_spec (ws := vs_k_scaled) B.pre
  have hown : s.vm.findClass RX9 = some m.cls := findClass_of_methodNamed B.named
  have hlocks := B.notSynchronized
  subst hsz
  have hD := hD0.self (sz := s.heap.size)
  generalize hAe : va_A (cW κ σ) s.heap.size = A at hD ⊢
  have hA : ∀ q : Nat, s.heap.size ≤ q → A q := fun q h => by rw [← hAe]; exact Or.inr h
  have hl := lv_entry ([.ref a, .long x]) (n := 3) (Nat.le_of_ble_eq_true rfl)
  rw [lg_entry_eq]
  generalize (lg_sl ([.ref a, .long x]) ++ List.replicate (3 - (lg_sl ([.ref a, .long x])).length) Slot.unset).toArray = ls at hl ⊢
  have hl : lv_has ls 3 [(0, .ref a), (1, .long x)] := hl
  have ho := fun w (h : w ∈ ow_k_scaled) => hts w (List.mem_cons_of_mem _ (List.mem_append_left _ h))
  have hin9 : ∀ w ∈ u_ws RX9 TX9 11, w ∈ vs_k_scaled := fun w h => (List.mem_cons_of_mem _ (List.mem_append_right _ h))
  refine zQ (fun Q hQ => ?_)
  refine zH (A := A) (ws := (cW κ σ)) (fun H hP hS => ?_) hP
  have hk0 := hk.1
  have hk1 := hk.2.1
  have hk2 := hk.2.2.1
  refine lv_aload_n hx hb dX9_scaled_0 rfl (lv_at hl 0 rfl) ?_
  obtain ⟨kp1_, hkp1_⟩ := cpl (κ := κ) (σ := σ) g_a.1 g_a.2.1
  refine va_get (D := (dC, dI)) (ci := 9) (v := .int (t_a.1 6)) (C := RX9) (T := TX9) (N := 11) hx hb hts hin9 hown hK hP kp1_ hkp1_ rfl 8 (Nat.le_of_ble_eq_true rfl) (ho (.fieldLink RX9 29 "NearEnough$Step" "over" "I") (List.mem_of_getElem? (i := 0) rfl)) (fun _ h9 => h9) rfl dX9_scaled_1 ?_
  refine lv_if_ne (tgt := 11) hx hb dX9_scaled_4 rfl (fun c2_ => ?_) (fun c2_ => ?_)
  · have tc2_ := (show (t_a.1 6).toInt ≠ 0 from ti_ne rfl rg_11 c2_)
    refine lv_lload_n hx hb dX9_scaled_11 rfl (lv_at hl 1 rfl) ?_
    refine lv_aload_n hx hb dX9_scaled_12 rfl (lv_at hl 0 rfl) ?_
    obtain ⟨kp3_, hkp3_⟩ := cpl (κ := κ) (σ := σ) g_a.1 g_a.2.1
    refine va_get (D := (dC, dI)) (ci := 9) (v := .int (t_a.1 5)) (C := RX9) (T := TX9) (N := 11) hx hb hts hin9 hown hK hP kp3_ hkp3_ rfl 7 (Nat.le_of_ble_eq_true rfl) (ho (.fieldLink RX9 26 "NearEnough$Step" "by" "I") (List.mem_of_getElem? (i := 1) rfl)) (fun _ h9 => h9) rfl dX9_scaled_13 ?_
    refine lv_i2l hx hb dX9_scaled_16 rfl ?_
    refine lv_topl (fun y4_ ey4_ => ?_)
    refine lv_lmul hx hb dX9_scaled_17 ?_
    refine lv_topl (fun y5_ ey5_ => ?_)
    refine lv_aload_n hx hb dX9_scaled_18 rfl (lv_at hl 0 rfl) ?_
    obtain ⟨kp6_, hkp6_⟩ := cpl (κ := κ) (σ := σ) g_a.1 g_a.2.1
    refine va_get (D := (dC, dI)) (ci := 9) (v := .int (t_a.1 6)) (C := RX9) (T := TX9) (N := 11) hx hb hts hin9 hown hK hP kp6_ hkp6_ rfl 8 (Nat.le_of_ble_eq_true rfl) (ho (.fieldLink RX9 29 "NearEnough$Step" "over" "I") (List.mem_of_getElem? (i := 0) rfl)) (fun _ h9 => h9) rfl dX9_scaled_19 ?_
    refine lv_i2l hx hb dX9_scaled_22 rfl ?_
    refine lv_topl (fun y7_ ey7_ => ?_)
    have o1 : (t_a.1 6).toInt ≠ 0 := by omega
    refine lv_ldiv hx hb dX9_scaled_23 (i2l_ne ey7_ o1) ?_
    refine lv_topl (fun y8_ ey8_ => ?_)
    rw [hQ]
    exact W.lret (v := y8_) hx hb hr (fun t ht hW => ⟨⟨y8_, σ, rfl, ⟨rfl, trivial⟩, wEn_of hP (hK.sub [] rfl) hD ht hW⟩, hS.F ht⟩) hS.2.2 dX9_scaled_24
  · have tc2_ := (show (t_a.1 6).toInt = 0 from ti_eq rfl rg_11 c2_)
    refine lv_lconst (v := 0) hx hb dX9_scaled_7 (by decide) ?_
    refine lv_goto (tgt := 24) hx hb dX9_scaled_8 rfl ?_
    rw [hQ]
    exact W.lret (v := 0) hx hb hr (fun t ht hW => ⟨⟨0, σ, rfl, ⟨rfl, trivial⟩, wEn_of hP (hK.sub [] rfl) hD ht hW⟩, hS.F ht⟩) hS.2.2 dX9_scaled_24
