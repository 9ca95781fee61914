theorem dX4_readAll_0 : decode cX4_readAll 0 = .ok (.aload_n 0, 1) := by decide +kernel
theorem dX4_readAll_1 : decode cX4_readAll 1 = .ok (.getfield 30, 3) := by decide +kernel
theorem dX4_readAll_4 : decode cX4_readAll 4 = .ok (.invokevirtual 34, 3) := by decide +kernel
theorem dX4_readAll_7 : decode cX4_readAll 7 = .ok (.iconst 0, 1) := by decide +kernel
theorem dX4_readAll_8 : decode cX4_readAll 8 = .ok (.istore_n 1, 1) := by decide +kernel
theorem dX4_readAll_9 : decode cX4_readAll 9 = .ok (.iload_n 1, 1) := by decide +kernel
theorem dX4_readAll_10 : decode cX4_readAll 10 = .ok (.sipush 1000, 3) := by decide +kernel
theorem dX4_readAll_13 : decode cX4_readAll 13 = .ok (.if_icmp .ge 78, 3) := by decide +kernel
theorem dX4_readAll_91 : decode cX4_readAll 91 = .ok (.return_, 1) := by decide +kernel
theorem dX4_readAll_16 : decode cX4_readAll 16 = .ok (.aload_n 0, 1) := by decide +kernel
theorem dX4_readAll_17 : decode cX4_readAll 17 = .ok (.getfield 18, 3) := by decide +kernel
theorem dX4_readAll_20 : decode cX4_readAll 20 = .ok (.ifCond .ne 71, 3) := by decide +kernel
theorem dX4_readAll_23 : decode cX4_readAll 23 = .ok (.aload_n 0, 1) := by decide +kernel
theorem dX4_readAll_24 : decode cX4_readAll 24 = .ok (.getfield 30, 3) := by decide +kernel
theorem dX4_readAll_27 : decode cX4_readAll 27 = .ok (.getfield 37, 3) := by decide +kernel
theorem dX4_readAll_30 : decode cX4_readAll 30 = .ok (.iconst 5, 1) := by decide +kernel
theorem dX4_readAll_31 : decode cX4_readAll 31 = .ok (.if_icmp .eq 60, 3) := by decide +kernel
theorem dX4_readAll_34 : decode cX4_readAll 34 = .ok (.aload_n 0, 1) := by decide +kernel
theorem dX4_readAll_35 : decode cX4_readAll 35 = .ok (.iconst 1, 1) := by decide +kernel
theorem dX4_readAll_36 : decode cX4_readAll 36 = .ok (.invokevirtual 40, 3) := by decide +kernel
theorem dX4_readAll_39 : decode cX4_readAll 39 = .ok (.ifCond .ne 4, 3) := by decide +kernel
theorem dX4_readAll_43 : decode cX4_readAll 43 = .ok (.aload_n 0, 1) := by decide +kernel
theorem dX4_readAll_44 : decode cX4_readAll 44 = .ok (.getfield 30, 3) := by decide +kernel
theorem dX4_readAll_47 : decode cX4_readAll 47 = .ok (.ldc 44, 2) := by decide +kernel
theorem dX4_readAll_49 : decode cX4_readAll 49 = .ok (.invokevirtual 46, 3) := by decide +kernel
theorem dX4_readAll_52 : decode cX4_readAll 52 = .ok (.ifCond .eq 10, 3) := by decide +kernel
theorem dX4_readAll_62 : decode cX4_readAll 62 = .ok (.aload_n 0, 1) := by decide +kernel
theorem dX4_readAll_63 : decode cX4_readAll 63 = .ok (.getfield 30, 3) := by decide +kernel
theorem dX4_readAll_66 : decode cX4_readAll 66 = .ok (.ldc 53, 2) := by decide +kernel
theorem dX4_readAll_68 : decode cX4_readAll 68 = .ok (.invokevirtual 46, 3) := by decide +kernel
theorem dX4_readAll_71 : decode cX4_readAll 71 = .ok (.ifCond .eq 10, 3) := by decide +kernel
theorem dX4_readAll_81 : decode cX4_readAll 81 = .ok (.aload_n 0, 1) := by decide +kernel
theorem dX4_readAll_82 : decode cX4_readAll 82 = .ok (.invokevirtual 58, 3) := by decide +kernel
theorem dX4_readAll_85 : decode cX4_readAll 85 = .ok (.iinc 1 1, 3) := by decide +kernel
theorem dX4_readAll_88 : decode cX4_readAll 88 = .ok (.goto (-79), 3) := by decide +kernel
theorem dX4_readAll_74 : decode cX4_readAll 74 = .ok (.aload_n 0, 1) := by decide +kernel
theorem dX4_readAll_75 : decode cX4_readAll 75 = .ok (.invokevirtual 55, 3) := by decide +kernel
theorem dX4_readAll_78 : decode cX4_readAll 78 = .ok (.goto 7, 3) := by decide +kernel
theorem dX4_readAll_55 : decode cX4_readAll 55 = .ok (.aload_n 0, 1) := by decide +kernel
theorem dX4_readAll_56 : decode cX4_readAll 56 = .ok (.invokevirtual 50, 3) := by decide +kernel
theorem dX4_readAll_59 : decode cX4_readAll 59 = .ok (.goto 26, 3) := by decide +kernel
theorem dX4_readAll_42 : decode cX4_readAll 42 = .ok (.return_, 1) := by decide +kernel

def ow_g_readAll : List Cond := [.fieldLink RX4 30 "NearEnough$Reader" "scanner" "LNearEnough$Scanner;", .fieldLink RX4 18 "NearEnough$Reader" "fault" "I", .fieldLink RX4 37 "NearEnough$Scanner" "kind" "I"]
def vs_g_readAll : List Cond := .code yX4_readAll cX4_readAll 2 none :: (ow_g_readAll ++ (([.methodLink RX4 34 yX6_advance, .instanceMethod yX6_advance, .selects RX6 yX6_advance yX6_advance, .initialized RX6] : List Cond) ++ (vs_r_advance ++ (([.methodLink RX4 40 yX4_expects, .instanceMethod yX4_expects, .selects RX4 yX4_expects yX4_expects, .initialized RX4] : List Cond) ++ (vs_r_expects ++ (([.methodLink RX4 46 yX6_isOneOf, .instanceMethod yX6_isOneOf, .selects RX6 yX6_isOneOf yX6_isOneOf, .initialized RX6] : List Cond) ++ (vs_r_isOneOf ++ (([.methodLink RX4 58 yX4_readStep, .instanceMethod yX4_readStep, .selects RX4 yX4_readStep yX4_readStep, .initialized RX4] : List Cond) ++ (vs_g_readStep ++ (([.methodLink RX4 55 yX4_readEnd, .instanceMethod yX4_readEnd, .selects RX4 yX4_readEnd yX4_readEnd, .initialized RX4] : List Cond) ++ (vs_g_readEnd ++ (([.methodLink RX4 50 yX4_readRow, .instanceMethod yX4_readRow, .selects RX4 yX4_readRow yX4_readRow, .initialized RX4] : List Cond) ++ (vs_g_readRow ++ (wsX40 ++ (wsX60)))))))))))))))
theorem vg_g_readAll : vs_g_readAll.all goodWord = true := by decide +kernel
theorem dd_g_readAll : yX4_readAll.cls = RX4 ∧ yX4_readAll.cls ≠ "java/lang/invoke/MethodHandle" ∧ yX4_readAll.cls ≠ "java/lang/invoke/VarHandle" ∧ (parseMethodDescriptor yX4_readAll.desc).map (fun d => d.parameters.length) = some 0 := by decide +kernel
def rm_g_readAll : Room := { frames := 9, cells := 1000, slots := 11000, locals := 195 }
theorem gd_g_readAll_34_r_advance : GoodIn vs_g_readAll (wsV RX4 34 RX6 yX6_advance vs_r_advance) := goodIn_app (goodIn_sub (fun w h => (List.mem_cons_of_mem _ (List.mem_append_right _ (List.mem_append_left _ h)))) (by decide +kernel)) (goodIn_sub (fun w h => (List.mem_cons_of_mem _ (List.mem_append_right _ (List.mem_append_right _ (List.mem_append_left _ h))))) vg_r_advance)
theorem gd_g_readAll_40_r_expects : GoodIn vs_g_readAll (wsV RX4 40 RX4 yX4_expects vs_r_expects) := goodIn_app (goodIn_sub (fun w h => (List.mem_cons_of_mem _ (List.mem_append_right _ (List.mem_append_right _ (List.mem_append_right _ (List.mem_append_left _ h)))))) (by decide +kernel)) (goodIn_sub (fun w h => (List.mem_cons_of_mem _ (List.mem_append_right _ (List.mem_append_right _ (List.mem_append_right _ (List.mem_append_right _ (List.mem_append_left _ h))))))) vg_r_expects)
theorem gd_g_readAll_46_r_isOneOf : GoodIn vs_g_readAll (wsV RX4 46 RX6 yX6_isOneOf vs_r_isOneOf) := goodIn_app (goodIn_sub (fun w h => (List.mem_cons_of_mem _ (List.mem_append_right _ (List.mem_append_right _ (List.mem_append_right _ (List.mem_append_right _ (List.mem_append_right _ (List.mem_append_left _ h)))))))) (by decide +kernel)) (goodIn_sub (fun w h => (List.mem_cons_of_mem _ (List.mem_append_right _ (List.mem_append_right _ (List.mem_append_right _ (List.mem_append_right _ (List.mem_append_right _ (List.mem_append_right _ (List.mem_append_left _ h))))))))) vg_r_isOneOf)
theorem gd_g_readAll_58_g_readStep : GoodIn vs_g_readAll (wsV RX4 58 RX4 yX4_readStep vs_g_readStep) := goodIn_app (goodIn_sub (fun w h => (List.mem_cons_of_mem _ (List.mem_append_right _ (List.mem_append_right _ (List.mem_append_right _ (List.mem_append_right _ (List.mem_append_right _ (List.mem_append_right _ (List.mem_append_right _ (List.mem_append_left _ h)))))))))) (by decide +kernel)) (goodIn_sub (fun w h => (List.mem_cons_of_mem _ (List.mem_append_right _ (List.mem_append_right _ (List.mem_append_right _ (List.mem_append_right _ (List.mem_append_right _ (List.mem_append_right _ (List.mem_append_right _ (List.mem_append_right _ (List.mem_append_left _ h))))))))))) vg_g_readStep)
theorem gd_g_readAll_55_g_readEnd : GoodIn vs_g_readAll (wsV RX4 55 RX4 yX4_readEnd vs_g_readEnd) := goodIn_app (goodIn_sub (fun w h => (List.mem_cons_of_mem _ (List.mem_append_right _ (List.mem_append_right _ (List.mem_append_right _ (List.mem_append_right _ (List.mem_append_right _ (List.mem_append_right _ (List.mem_append_right _ (List.mem_append_right _ (List.mem_append_right _ (List.mem_append_left _ h)))))))))))) (by decide +kernel)) (goodIn_sub (fun w h => (List.mem_cons_of_mem _ (List.mem_append_right _ (List.mem_append_right _ (List.mem_append_right _ (List.mem_append_right _ (List.mem_append_right _ (List.mem_append_right _ (List.mem_append_right _ (List.mem_append_right _ (List.mem_append_right _ (List.mem_append_right _ (List.mem_append_left _ h))))))))))))) vg_g_readEnd)
theorem gd_g_readAll_50_g_readRow : GoodIn vs_g_readAll (wsV RX4 50 RX4 yX4_readRow vs_g_readRow) := goodIn_app (goodIn_sub (fun w h => (List.mem_cons_of_mem _ (List.mem_append_right _ (List.mem_append_right _ (List.mem_append_right _ (List.mem_append_right _ (List.mem_append_right _ (List.mem_append_right _ (List.mem_append_right _ (List.mem_append_right _ (List.mem_append_right _ (List.mem_append_right _ (List.mem_append_right _ (List.mem_append_left _ h)))))))))))))) (by decide +kernel)) (goodIn_sub (fun w h => (List.mem_cons_of_mem _ (List.mem_append_right _ (List.mem_append_right _ (List.mem_append_right _ (List.mem_append_right _ (List.mem_append_right _ (List.mem_append_right _ (List.mem_append_right _ (List.mem_append_right _ (List.mem_append_right _ (List.mem_append_right _ (List.mem_append_right _ (List.mem_append_right _ (List.mem_append_left _ h))))))))))))))) vg_g_readRow)
set_option maxHeartbeats 4000000 in
set_option maxRecDepth 100000 in
theorem g_readAll (l : Launch) (dC : Nat → ClassId) (dI : Nat → Nat → Nat) (adK adV : Nat → Nat) (κ : CE) (sz : Nat) (σ : MS) (hk : PInv κ) (hI : RInv σ)  : Met l yX4_readAll vs_g_readAll rm_g_readAll (va_Pc [.ref (kA κ 0)] (wSr dC dI adK adV (rW κ σ) (rT κ) sz)) (va_Qv (fun (u : CE × MS) => PInv u.1 ∧ RInv u.2 ∧ kA u.1 = kA κ ∧ kC u.1 = kC κ ∧ True) (fun (u : CE × MS) => wEn dC dI (va_A (rW κ σ) sz) (rW u.1 u.2) []) (va_A (rW κ σ) sz)) 1000 11000 (va_A (rW κ σ) sz) := by
  refine Met.ofW (cc := cX4_readAll) (maxL := 2) (ret := none) (by decide +kernel) rfl ?_
  intro p e s m args below meth c s₁ B hml hv
  obtain ⟨rfl, ⟨hsz, hP, hK, hD0, hE⟩, hZ, hR⟩ := hv
  have hx := B.exec
  have hb := B.bytes
  have hr := B.returns
  have hts := atoms_spec (ws := vs_g_readAll) B.pre
  have hown : s.vm.findClass RX4 = some m.cls := findClass_of_methodNamed B.named
  have hlocks := B.notSynchronized
  subst hsz
  have hD := hD0.self (sz := s.heap.size)
  generalize hAe : va_A (rW κ σ) s.heap.size = A at hD hZ ⊢
  have hA : ∀ q : Nat, s.heap.size ≤ q → A q := fun q h => by rw [← hAe]; exact Or.inr h
  have hl := lv_entry ([.ref (kA κ 0)]) (n := 2) (Nat.le_of_ble_eq_true rfl)
  rw [lg_entry_eq]
  generalize (lg_sl ([.ref (kA κ 0)]) ++ List.replicate (2 - (lg_sl ([.ref (kA κ 0)])).length) Slot.unset).toArray = ls at hl ⊢
  have hl : lv_has ls 2 [(0, .ref (kA κ 0))] := hl
  have ho := fun w (h : w ∈ ow_g_readAll) => hts w (List.mem_cons_of_mem _ (List.mem_append_left _ h))
  have hin4 : ∀ w ∈ u_ws RX4 TX4 4, w ∈ vs_g_readAll := fun w h => (List.mem_cons_of_mem _ (List.mem_append_right _ (List.mem_append_right _ (List.mem_append_right _ (List.mem_append_right _ (List.mem_append_right _ (List.mem_append_right _ (List.mem_append_right _ (List.mem_append_right _ (List.mem_append_right _ (List.mem_append_right _ (List.mem_append_right _ (List.mem_append_right _ (List.mem_append_right _ (List.mem_append_left _ h)))))))))))))))
  have hin6 : ∀ w ∈ u_ws RX6 TX6 7, w ∈ vs_g_readAll := fun w h => (List.mem_cons_of_mem _ (List.mem_append_right _ (List.mem_append_right _ (List.mem_append_right _ (List.mem_append_right _ (List.mem_append_right _ (List.mem_append_right _ (List.mem_append_right _ (List.mem_append_right _ (List.mem_append_right _ (List.mem_append_right _ (List.mem_append_right _ (List.mem_append_right _ (List.mem_append_right _ (List.mem_append_right _ h)))))))))))))))
  refine zQ (fun Q hQ => ?_)
  refine zH (A := A) (ws := (rW κ σ)) (fun H hP hS => ?_) hP
  have hk0 := hk.1
  have hk1 := hk.2.1
  have hk2 := hk.2.2.1
  refine lv_aload_n hx hb dX4_readAll_0 rfl (lv_at hl 0 rfl) ?_
  refine va_get (D := (dC, dI)) (ci := 4) (v := .ref (kA κ 1)) (C := RX4) (T := TX4) (N := 4) hx hb hts hin4 hown hK hP 0 rfl rfl 0 (Nat.le_of_ble_eq_true rfl) (ho (.fieldLink RX4 30 "NearEnough$Reader" "scanner" "LNearEnough$Scanner;") (List.mem_of_getElem? (i := 0) rfl)) (fun _ h9 => h9) rfl dX4_readAll_1 ?_
  refine zy_v (va_runV (As := []) (rest := []) ⟨hx, hb, hml, hown, hts⟩ (r_advance l dC dI adK adV κ H.size σ  hk hI ) (cwV 0 hts gd_g_readAll_34_r_advance rfl rfl rfl dd_r_advance ⟨Nat.le_of_ble_eq_true rfl, Nat.le_of_ble_eq_true rfl⟩) (preVr hP hK hD hE hZ hR hS hA (ci := 6) (q0 := 1) rfl rfl) rfl rfl hl.1 rfl (lv_room (Nat.le_of_ble_eq_true rfl)) dX4_readAll_4 ⟨Nat.le_of_ble_eq_true rfl, Nat.le_of_ble_eq_true rfl⟩) hD hS hA (fun τ2_ H locs hq hP hD hS => ?_)
  obtain ⟨hτ2_, q3_⟩ := hq
  have q3_ : (τ2_.1 1).toInt = (σ.1 1).toInt := q3_
  refine W.widen (k := 0) (n := 0) (Nat.le_of_ble_eq_true rfl) (Nat.le_of_ble_eq_true rfl) ?_
  refine lv_iconst (v := 0) hx hb dX4_readAll_7 rg_0 ?_
  refine lv_istore_n (lv' := [(1, .int 0), (0, .ref (kA κ 0))]) hx hb dX4_readAll_8 rfl hl (Nat.le_of_ble_eq_true rfl) rfl (fun ls hl => ?_)
  have pt9_ : ∀ (n9_ : Nat) (κ9_ : CE) (c9_ s9_ : Nat) (σ9_ : MS) (v1_ : Int32) (H : Heap) (locs : List Loc) (ls : Array Slot), (1000 - v1_.toInt).toNat < n9_ → PInv κ9_ → kA κ9_ = kA κ → kC κ9_ = kC κ → RInv σ9_ → (0 ≤ v1_.toInt ∧ v1_.toInt ≤ 1000) → (((c9_ : Nat) : Int) ≤ v1_.toInt) → (((s9_ : Nat) : Int) ≤ 11 * v1_.toInt) → va_P (dC, dI) vwCl (rW κ9_ σ9_) H → va_D A (rW κ9_ σ9_) → va_S A s.heap H locs → lv_has ls 2 [(1, .int v1_), (0, .ref (kA κ9_ 0))] → W p l e (headSpec vs_g_readAll rm_g_readAll).room s m #[Value.ref (kA κ 0)] below meth c H locs c9_ s9_ Q (F0 m 9 ls []) := by
    intro n9_
    induction n9_ with
    | zero => intro κ9_ c9_ s9_ σ9_ v1_ H locs ls hn9_ hk9_ ha9_ hc9_ hIσ9_ hf9_0_ hf9_1_ hf9_2_ hP hD hS hl; exact absurd hn9_ (Nat.not_lt_zero _)
    | succ n9_ ih9_ =>
      intro κ9_ c9_ s9_ σ9_ v1_ H locs ls hn9_ hk9_ ha9_ hc9_ hIσ9_ hf9_0_ hf9_1_ hf9_2_ hP hD hS hl
      have hK : va_K (dC, dI) vwCl (rT κ9_) s := by rw [show rT κ9_ = rT κ by unfold rT; rw [hc9_]]; exact hK
      refine lv_iload_n hx hb dX4_readAll_9 rfl (lv_at hl 0 rfl) ?_
      refine lv_sipush (v := 1000) hx hb dX4_readAll_10 rg_67 ?_
      refine lv_icmp_ge (tgt := 91) hx hb dX4_readAll_13 rfl (fun c4_ => ?_) (fun c4_ => ?_)
      · have tc4_ := (show 1000 ≤ v1_.toInt from ti_le rg_68 rfl c4_)
        have o1 : c9_ ≤ 1000 := by omega
        have o2 : s9_ ≤ 11000 := by omega
        refine W.widen (k := 1000) (n := 11000) (show c9_ ≤ 1000 from o1) (show s9_ ≤ 11000 from o2) ?_
        rw [hQ]
        exact W.vret hx hb hr (fun t ht hW => ⟨⟨(κ9_, σ9_), rfl, ⟨hk9_, hIσ9_, ha9_, hc9_, trivial⟩, wEn_of hP (hK.sub [] rfl) hD ht hW⟩, hS.F ht⟩) hS.2.2 dX4_readAll_91
      · have tc4_ := (show v1_.toInt < 1000 from ti_nle rg_68 rfl c4_)
        refine lv_aload_n hx hb dX4_readAll_16 rfl (lv_at hl 1 rfl) ?_
        refine va_get (D := (dC, dI)) (ci := 4) (v := .int (σ9_.1 1)) (C := RX4) (T := TX4) (N := 4) hx hb hts hin4 hown hK hP 0 rfl rfl 2 (Nat.le_of_ble_eq_true rfl) (ho (.fieldLink RX4 18 "NearEnough$Reader" "fault" "I") (List.mem_of_getElem? (i := 1) rfl)) (fun _ h9 => h9) rfl dX4_readAll_17 ?_
        refine lv_if_ne (tgt := 91) hx hb dX4_readAll_20 rfl (fun c5_ => ?_) (fun c5_ => ?_)
        · have tc5_ := (show (σ9_.1 1).toInt ≠ 0 from ti_ne rfl rg_11 c5_)
          have o3 : c9_ ≤ 1000 := by omega
          have o4 : s9_ ≤ 11000 := by omega
          refine W.widen (k := 1000) (n := 11000) (show c9_ ≤ 1000 from o3) (show s9_ ≤ 11000 from o4) ?_
          rw [hQ]
          exact W.vret hx hb hr (fun t ht hW => ⟨⟨(κ9_, σ9_), rfl, ⟨hk9_, hIσ9_, ha9_, hc9_, trivial⟩, wEn_of hP (hK.sub [] rfl) hD ht hW⟩, hS.F ht⟩) hS.2.2 dX4_readAll_91
        · have tc5_ := (show (σ9_.1 1).toInt = 0 from ti_eq rfl rg_11 c5_)
          refine lv_aload_n hx hb dX4_readAll_23 rfl (lv_at hl 1 rfl) ?_
          refine va_get (D := (dC, dI)) (ci := 4) (v := .ref (kA κ9_ 1)) (C := RX4) (T := TX4) (N := 4) hx hb hts hin4 hown hK hP 0 rfl rfl 0 (Nat.le_of_ble_eq_true rfl) (ho (.fieldLink RX4 30 "NearEnough$Reader" "scanner" "LNearEnough$Scanner;") (List.mem_of_getElem? (i := 0) rfl)) (fun _ h9 => h9) rfl dX4_readAll_24 ?_
          refine va_get (D := (dC, dI)) (ci := 6) (v := .int (σ9_.1 4)) (C := RX6) (T := TX6) (N := 7) hx hb hts hin6 hown hK hP 1 rfl rfl 3 (Nat.le_of_ble_eq_true rfl) (ho (.fieldLink RX4 37 "NearEnough$Scanner" "kind" "I") (List.mem_of_getElem? (i := 2) rfl)) (fun _ h9 => h9) rfl dX4_readAll_27 ?_
          refine lv_iconst (v := 5) hx hb dX4_readAll_30 rg_14 ?_
          refine lv_icmp_eq (tgt := 91) hx hb dX4_readAll_31 rfl (fun c6_ => ?_) (fun c6_ => ?_)
          · have tc6_ := (show (σ9_.1 4).toInt = 5 from ti_eq rfl rg_15 c6_)
            have o5 : c9_ ≤ 1000 := by omega
            have o6 : s9_ ≤ 11000 := by omega
            refine W.widen (k := 1000) (n := 11000) (show c9_ ≤ 1000 from o5) (show s9_ ≤ 11000 from o6) ?_
            rw [hQ]
            exact W.vret hx hb hr (fun t ht hW => ⟨⟨(κ9_, σ9_), rfl, ⟨hk9_, hIσ9_, ha9_, hc9_, trivial⟩, wEn_of hP (hK.sub [] rfl) hD ht hW⟩, hS.F ht⟩) hS.2.2 dX4_readAll_91
          · have tc6_ := (show (σ9_.1 4).toInt ≠ 5 from ti_ne rfl rg_15 c6_)
            refine lv_aload_n hx hb dX4_readAll_34 rfl (lv_at hl 1 rfl) ?_
            refine lv_iconst (v := 1) hx hb dX4_readAll_35 rg_6 ?_
            have kk7_ : (1 : Int32).toInt = 1 := rg_18
            have o7 : c9_ + 0 ≤ 1000 := by omega
            have o8 : s9_ + 0 ≤ 11000 := by omega
            refine zy_i (va_runV (As := [.int 1]) (rest := []) ⟨hx, hb, hml, hown, hts⟩ (r_expects l dC dI adK adV κ9_ H.size σ9_ 1 hk9_ hIσ9_ ) (cwV 1 hts gd_g_readAll_40_r_expects rfl rfl rfl dd_r_expects ⟨Nat.le_of_ble_eq_true rfl, Nat.le_of_ble_eq_true rfl⟩) (preVr hP hK hD hE hZ hR hS hA (ci := 4) (q0 := 0) rfl rfl) rfl rfl hl.1 rfl (lv_room (Nat.le_of_ble_eq_true rfl)) dX4_readAll_36 ⟨(show c9_ + 0 ≤ 1000 from o7), (show s9_ + 0 ≤ 11000 from o8)⟩) hD hS hA (fun z8_ τ9_ H locs hq hP hD hS => ?_)
            obtain ⟨hτ9_, q10_⟩ := hq
            have q10_ : ((σ9_.1 1).toInt = 0 ∨ (τ9_.1 1).toInt ≠ 0) ∧ ((z8_.toInt = 1 ∧ (τ9_.1 1).toInt = 0) ∨ (z8_.toInt = 0 ∧ (τ9_.1 1).toInt ≠ 0)) := q10_
            refine W.widen (k := c9_) (n := s9_) (Nat.le_refl _) (Nat.le_refl _) ?_
            refine lv_if_ne (tgt := 43) hx hb dX4_readAll_39 rfl (fun c11_ => ?_) (fun c11_ => ?_)
            · have tc11_ := (show z8_.toInt ≠ 0 from ti_ne rfl rg_11 c11_)
              refine lv_aload_n hx hb dX4_readAll_43 rfl (lv_at hl 1 rfl) ?_
              refine va_get (D := (dC, dI)) (ci := 4) (v := .ref (kA κ9_ 1)) (C := RX4) (T := TX4) (N := 4) hx hb hts hin4 hown hK hP 0 rfl rfl 0 (Nat.le_of_ble_eq_true rfl) (ho (.fieldLink RX4 30 "NearEnough$Reader" "scanner" "LNearEnough$Scanner;") (List.mem_of_getElem? (i := 0) rfl)) (fun _ h9 => h9) rfl dX4_readAll_44 ?_
              refine va_ldcS (tx := "row ") (q := adK 0) hx hb hown (hR (44, "row ", 0) (List.mem_of_getElem? (i := 0) rfl)) dX4_readAll_47 ?_
              refine zy_i (va_runV (As := [.ref (adK 0)]) (rest := []) ⟨hx, hb, hml, hown, hts⟩ (r_isOneOf l dC dI adK adV κ9_ H.size τ9_ 0 (by decide) hk9_ hτ9_ ) (cwV 1 hts gd_g_readAll_46_r_isOneOf rfl rfl rfl dd_r_isOneOf ⟨Nat.le_of_ble_eq_true rfl, Nat.le_of_ble_eq_true rfl⟩) (preVr hP hK hD hE hZ hR hS hA (ci := 6) (q0 := 1) rfl rfl) rfl rfl hl.1 rfl (lv_room (Nat.le_of_ble_eq_true rfl)) dX4_readAll_49 ⟨(show c9_ + 0 ≤ 1000 from o7), (show s9_ + 0 ≤ 11000 from o8)⟩) hD hS hA (fun z12_ τ13_ H locs hq hP hD hS => ?_)
              obtain ⟨hτ13_, q14_⟩ := hq
              rw [hτ13_] at hP hD
              have q14_ : z12_.toInt = 0 ∨ z12_.toInt = 1 := q14_
              refine W.widen (k := c9_) (n := s9_) (Nat.le_refl _) (Nat.le_refl _) ?_
              refine lv_if_eq (tgt := 62) hx hb dX4_readAll_52 rfl (fun c15_ => ?_) (fun c15_ => ?_)
              · have tc15_ := (show z12_.toInt = 0 from ti_eq rfl rg_11 c15_)
                refine lv_aload_n hx hb dX4_readAll_62 rfl (lv_at hl 1 rfl) ?_
                refine va_get (D := (dC, dI)) (ci := 4) (v := .ref (kA κ9_ 1)) (C := RX4) (T := TX4) (N := 4) hx hb hts hin4 hown hK hP 0 rfl rfl 0 (Nat.le_of_ble_eq_true rfl) (ho (.fieldLink RX4 30 "NearEnough$Reader" "scanner" "LNearEnough$Scanner;") (List.mem_of_getElem? (i := 0) rfl)) (fun _ h9 => h9) rfl dX4_readAll_63 ?_
                refine va_ldcS (tx := "end ") (q := adK 1) hx hb hown (hR (53, "end ", 1) (List.mem_of_getElem? (i := 1) rfl)) dX4_readAll_66 ?_
                refine zy_i (va_runV (As := [.ref (adK 1)]) (rest := []) ⟨hx, hb, hml, hown, hts⟩ (r_isOneOf l dC dI adK adV κ9_ H.size τ9_ 1 (by decide) hk9_ hτ9_ ) (cwV 1 hts gd_g_readAll_46_r_isOneOf rfl rfl rfl dd_r_isOneOf ⟨Nat.le_of_ble_eq_true rfl, Nat.le_of_ble_eq_true rfl⟩) (preVr hP hK hD hE hZ hR hS hA (ci := 6) (q0 := 1) rfl rfl) rfl rfl hl.1 rfl (lv_room (Nat.le_of_ble_eq_true rfl)) dX4_readAll_68 ⟨(show c9_ + 0 ≤ 1000 from o7), (show s9_ + 0 ≤ 11000 from o8)⟩) hD hS hA (fun z16_ τ17_ H locs hq hP hD hS => ?_)
                obtain ⟨hτ17_, q18_⟩ := hq
                rw [hτ17_] at hP hD
                have q18_ : z16_.toInt = 0 ∨ z16_.toInt = 1 := q18_
                refine W.widen (k := c9_) (n := s9_) (Nat.le_refl _) (Nat.le_refl _) ?_
                refine lv_if_eq (tgt := 81) hx hb dX4_readAll_71 rfl (fun c19_ => ?_) (fun c19_ => ?_)
                · have tc19_ := (show z16_.toInt = 0 from ti_eq rfl rg_11 c19_)
                  refine lv_aload_n hx hb dX4_readAll_81 rfl (lv_at hl 1 rfl) ?_
                  have o9 : c9_ + 1 ≤ 1000 := by omega
                  have o10 : s9_ + 11 ≤ 11000 := by omega
                  refine zy_v (va_runV (As := []) (rest := []) ⟨hx, hb, hml, hown, hts⟩ (g_readStep l dC dI adK adV κ9_ H.size τ9_  hk9_ hτ9_ ) (cwV 0 hts gd_g_readAll_58_g_readStep rfl rfl rfl dd_g_readStep ⟨Nat.le_of_ble_eq_true rfl, Nat.le_of_ble_eq_true rfl⟩) (preVr hP hK hD hE hZ hR hS hA (ci := 4) (q0 := 0) rfl rfl) rfl rfl hl.1 rfl (lv_room (Nat.le_of_ble_eq_true rfl)) dX4_readAll_82 ⟨(show c9_ + 1 ≤ 1000 from o9), (show s9_ + 11 ≤ 11000 from o10)⟩) hD hS hA (fun τ21_ H locs hq hP hD hS => ?_)
                  obtain ⟨κ23_, τ24_⟩ := τ21_
                  obtain ⟨hkκ23_, hτ24_, haκ23_, hcκ23_, q22_⟩ := hq
                  have hP : va_P (dC, dI) vwCl (rW κ23_ τ24_) H := hP
                  have hD : va_D A (rW κ23_ τ24_) := hD
                  refine W.widen (k := (c9_ + 1)) (n := (s9_ + 11)) (Nat.le_refl _) (Nat.le_refl _) ?_
                  obtain ⟨z25_, ez25_⟩ : ∃ y : Int32, y = v1_ + 1 := ⟨_, rfl⟩
                  have o11 : -2147483648 ≤ v1_.toInt + 1 := by omega
                  have o12 : v1_.toInt + 1 ≤ 2147483647 := by omega
                  have tz25_ := ti_add ez25_ rfl rg_18 o11 o12
                  refine lv_iinc (v := z25_) (lv' := [(1, .int z25_), (0, .ref (kA κ9_ 0))]) hx hb dX4_readAll_85 hl (k := 0) rfl (iincp ez25_ rg_6) (Nat.le_of_ble_eq_true rfl) rfl (fun ls hl => ?_)
                  refine lv_goto (tgt := 9) hx hb dX4_readAll_88 rfl ?_
                  have o13 : (1000 - z25_.toInt).toNat < n9_ := by omega
                  have hl : lv_has ls 2 [(1, .int z25_), (0, .ref (kA κ23_ 0))] := by rw [show kA κ23_ = kA κ9_ from haκ23_]; exact hl
                  have o14 : 0 ≤ z25_.toInt := by omega
                  have o15 : z25_.toInt ≤ 1000 := by omega
                  have o16 : (((c9_ + 1) : Nat) : Int) ≤ z25_.toInt := by omega
                  have o17 : (((s9_ + 11) : Nat) : Int) ≤ 11 * z25_.toInt := by omega
                  exact ih9_ κ23_ (c9_ + 1) (s9_ + 11) τ24_ z25_ _ _ _ o13 hkκ23_ (haκ23_.trans ha9_) (hcκ23_.trans hc9_) hτ24_ ⟨o14, o15⟩ o16 o17 hP hD hS (lv_sub hl [0, 1] rfl)
                · have tc19_ := (show z16_.toInt ≠ 0 from ti_ne rfl rg_11 c19_)
                  refine lv_aload_n hx hb dX4_readAll_74 rfl (lv_at hl 1 rfl) ?_
                  refine zy_v (va_runV (As := []) (rest := []) ⟨hx, hb, hml, hown, hts⟩ (g_readEnd l dC dI adK adV κ9_ H.size τ9_  hk9_ hτ9_ ) (cwV 0 hts gd_g_readAll_55_g_readEnd rfl rfl rfl dd_g_readEnd ⟨Nat.le_of_ble_eq_true rfl, Nat.le_of_ble_eq_true rfl⟩) (preVr hP hK hD hE hZ hR hS hA (ci := 4) (q0 := 0) rfl rfl) rfl rfl hl.1 rfl (lv_room (Nat.le_of_ble_eq_true rfl)) dX4_readAll_75 ⟨(show c9_ + 0 ≤ 1000 from o7), (show s9_ + 0 ≤ 11000 from o8)⟩) hD hS hA (fun τ27_ H locs hq hP hD hS => ?_)
                  obtain ⟨κ29_, τ30_⟩ := τ27_
                  obtain ⟨hkκ29_, hτ30_, haκ29_, hcκ29_, q28_⟩ := hq
                  have hP : va_P (dC, dI) vwCl (rW κ29_ τ30_) H := hP
                  have hD : va_D A (rW κ29_ τ30_) := hD
                  refine W.widen (k := c9_) (n := s9_) (Nat.le_refl _) (Nat.le_refl _) ?_
                  refine lv_goto (tgt := 85) hx hb dX4_readAll_78 rfl ?_
                  obtain ⟨z31_, ez31_⟩ : ∃ y : Int32, y = v1_ + 1 := ⟨_, rfl⟩
                  have o18 : -2147483648 ≤ v1_.toInt + 1 := by omega
                  have o19 : v1_.toInt + 1 ≤ 2147483647 := by omega
                  have tz31_ := ti_add ez31_ rfl rg_18 o18 o19
                  refine lv_iinc (v := z31_) (lv' := [(1, .int z31_), (0, .ref (kA κ9_ 0))]) hx hb dX4_readAll_85 hl (k := 0) rfl (iincp ez31_ rg_6) (Nat.le_of_ble_eq_true rfl) rfl (fun ls hl => ?_)
                  refine lv_goto (tgt := 9) hx hb dX4_readAll_88 rfl ?_
                  have o20 : (1000 - z31_.toInt).toNat < n9_ := by omega
                  have hl : lv_has ls 2 [(1, .int z31_), (0, .ref (kA κ29_ 0))] := by rw [show kA κ29_ = kA κ9_ from haκ29_]; exact hl
                  have o21 : 0 ≤ z31_.toInt := by omega
                  have o22 : z31_.toInt ≤ 1000 := by omega
                  have o23 : ((c9_ : Nat) : Int) ≤ z31_.toInt := by omega
                  have o24 : ((s9_ : Nat) : Int) ≤ 11 * z31_.toInt := by omega
                  exact ih9_ κ29_ c9_ s9_ τ30_ z31_ _ _ _ o20 hkκ29_ (haκ29_.trans ha9_) (hcκ29_.trans hc9_) hτ30_ ⟨o21, o22⟩ o23 o24 hP hD hS (lv_sub hl [0, 1] rfl)
              · have tc15_ := (show z12_.toInt ≠ 0 from ti_ne rfl rg_11 c15_)
                refine lv_aload_n hx hb dX4_readAll_55 rfl (lv_at hl 1 rfl) ?_
                have o25 : c9_ + 1 ≤ 1000 := by omega
                have o26 : s9_ + 5 ≤ 11000 := by omega
                refine zy_v (va_runV (As := []) (rest := []) ⟨hx, hb, hml, hown, hts⟩ (g_readRow l dC dI adK adV κ9_ H.size τ9_  hk9_ hτ9_ ) (cwV 0 hts gd_g_readAll_50_g_readRow rfl rfl rfl dd_g_readRow ⟨Nat.le_of_ble_eq_true rfl, Nat.le_of_ble_eq_true rfl⟩) (preVr hP hK hD hE hZ hR hS hA (ci := 4) (q0 := 0) rfl rfl) rfl rfl hl.1 rfl (lv_room (Nat.le_of_ble_eq_true rfl)) dX4_readAll_56 ⟨(show c9_ + 1 ≤ 1000 from o25), (show s9_ + 5 ≤ 11000 from o26)⟩) hD hS hA (fun τ33_ H locs hq hP hD hS => ?_)
                obtain ⟨κ35_, τ36_⟩ := τ33_
                obtain ⟨hkκ35_, hτ36_, haκ35_, hcκ35_, q34_⟩ := hq
                have hP : va_P (dC, dI) vwCl (rW κ35_ τ36_) H := hP
                have hD : va_D A (rW κ35_ τ36_) := hD
                refine W.widen (k := (c9_ + 1)) (n := (s9_ + 5)) (Nat.le_refl _) (Nat.le_refl _) ?_
                refine lv_goto (tgt := 85) hx hb dX4_readAll_59 rfl ?_
                obtain ⟨z37_, ez37_⟩ : ∃ y : Int32, y = v1_ + 1 := ⟨_, rfl⟩
                have o27 : -2147483648 ≤ v1_.toInt + 1 := by omega
                have o28 : v1_.toInt + 1 ≤ 2147483647 := by omega
                have tz37_ := ti_add ez37_ rfl rg_18 o27 o28
                refine lv_iinc (v := z37_) (lv' := [(1, .int z37_), (0, .ref (kA κ9_ 0))]) hx hb dX4_readAll_85 hl (k := 0) rfl (iincp ez37_ rg_6) (Nat.le_of_ble_eq_true rfl) rfl (fun ls hl => ?_)
                refine lv_goto (tgt := 9) hx hb dX4_readAll_88 rfl ?_
                have o29 : (1000 - z37_.toInt).toNat < n9_ := by omega
                have hl : lv_has ls 2 [(1, .int z37_), (0, .ref (kA κ35_ 0))] := by rw [show kA κ35_ = kA κ9_ from haκ35_]; exact hl
                have o30 : 0 ≤ z37_.toInt := by omega
                have o31 : z37_.toInt ≤ 1000 := by omega
                have o32 : (((c9_ + 1) : Nat) : Int) ≤ z37_.toInt := by omega
                have o33 : (((s9_ + 5) : Nat) : Int) ≤ 11 * z37_.toInt := by omega
                exact ih9_ κ35_ (c9_ + 1) (s9_ + 5) τ36_ z37_ _ _ _ o29 hkκ35_ (haκ35_.trans ha9_) (hcκ35_.trans hc9_) hτ36_ ⟨o30, o31⟩ o32 o33 hP hD hS (lv_sub hl [0, 1] rfl)
            · have tc11_ := (show z8_.toInt = 0 from ti_eq rfl rg_11 c11_)
              have o34 : c9_ ≤ 1000 := by omega
              have o35 : s9_ ≤ 11000 := by omega
              refine W.widen (k := 1000) (n := 11000) (show c9_ ≤ 1000 from o34) (show s9_ ≤ 11000 from o35) ?_
              rw [hQ]
              exact W.vret hx hb hr (fun t ht hW => ⟨⟨(κ9_, τ9_), rfl, ⟨hk9_, hτ9_, ha9_, hc9_, trivial⟩, wEn_of hP (hK.sub [] rfl) hD ht hW⟩, hS.F ht⟩) hS.2.2 dX4_readAll_42
  have kk38_ : (0 : Int32).toInt = 0 := rg_11
  have o36 : 0 ≤ (0 : Int32).toInt := by omega
  have o37 : (0 : Int32).toInt ≤ 1000 := by omega
  have o38 : ((0 : Nat) : Int) ≤ (0 : Int32).toInt := by omega
  have o39 : ((0 : Nat) : Int) ≤ 11 * (0 : Int32).toInt := by omega
  exact pt9_ _ κ 0 0 τ2_ 0 _ _ _ (Nat.lt_succ_self _) hk rfl rfl hτ2_ ⟨o36, o37⟩ o38 o39 hP hD hS (lv_sub hl [0, 1] rfl)
